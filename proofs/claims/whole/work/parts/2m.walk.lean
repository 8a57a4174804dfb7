theorem zl_980 : Cond.constantLong RX12 225 448377483876 ∈ zt := zt_at 1625 (by decide +kernel)
theorem zl_981 : Cond.constantLong RX12 227 7237492 ∈ zt := zt_at 1626 (by decide +kernel)
theorem dX12_sightLine_0 : decode cX12_sightLine 0 = .ok (.lload_n 1, 1) := by decide +kernel
theorem dX12_sightLine_1 : decode cX12_sightLine 1 = .ok (.ldc2_w 225, 3) := by decide +kernel
theorem dX12_sightLine_4 : decode cX12_sightLine 4 = .ok (.lcmp, 1) := by decide +kernel
theorem dX12_sightLine_5 : decode cX12_sightLine 5 = .ok (.ifCond .eq 16, 3) := by decide +kernel
theorem dX12_sightLine_8 : decode cX12_sightLine 8 = .ok (.lload_n 1, 1) := by decide +kernel
theorem dX12_sightLine_9 : decode cX12_sightLine 9 = .ok (.ldc2_w 227, 3) := by decide +kernel
theorem dX12_sightLine_12 : decode cX12_sightLine 12 = .ok (.lcmp, 1) := by decide +kernel
theorem dX12_sightLine_13 : decode cX12_sightLine 13 = .ok (.ifCond .eq 8, 3) := by decide +kernel
theorem dX12_sightLine_16 : decode cX12_sightLine 16 = .ok (.aload_n 0, 1) := by decide +kernel
theorem dX12_sightLine_17 : decode cX12_sightLine 17 = .ok (.invokevirtual 141, 3) := by decide +kernel
theorem dX12_sightLine_20 : decode cX12_sightLine 20 = .ok (.ireturn, 1) := by decide +kernel
theorem dX12_sightLine_21 : decode cX12_sightLine 21 = .ok (.aload_n 0, 1) := by decide +kernel
theorem dX12_sightLine_22 : decode cX12_sightLine 22 = .ok (.iconst 0, 1) := by decide +kernel
theorem dX12_sightLine_23 : decode cX12_sightLine 23 = .ok (.bipush 8, 2) := by decide +kernel
theorem dX12_sightLine_25 : decode cX12_sightLine 25 = .ok (.iload_n 3, 1) := by decide +kernel
theorem dX12_sightLine_26 : decode cX12_sightLine 26 = .ok (.invokevirtual 188, 3) := by decide +kernel
theorem dX12_sightLine_29 : decode cX12_sightLine 29 = .ok (.aload_n 0, 1) := by decide +kernel
theorem dX12_sightLine_30 : decode cX12_sightLine 30 = .ok (.invokevirtual 153, 3) := by decide +kernel
theorem dX12_sightLine_33 : decode cX12_sightLine 33 = .ok (.aload_n 0, 1) := by decide +kernel
theorem dX12_sightLine_34 : decode cX12_sightLine 34 = .ok (.iconst 1, 1) := by decide +kernel
theorem dX12_sightLine_35 : decode cX12_sightLine 35 = .ok (.iconst 0, 1) := by decide +kernel
theorem dX12_sightLine_36 : decode cX12_sightLine 36 = .ok (.bipush 30, 2) := by decide +kernel
theorem dX12_sightLine_38 : decode cX12_sightLine 38 = .ok (.invokevirtual 162, 3) := by decide +kernel
theorem dX12_sightLine_41 : decode cX12_sightLine 41 = .ok (.ifCond .eq 25, 3) := by decide +kernel
theorem dX12_sightLine_44 : decode cX12_sightLine 44 = .ok (.aload_n 0, 1) := by decide +kernel
theorem dX12_sightLine_45 : decode cX12_sightLine 45 = .ok (.iconst 2, 1) := by decide +kernel
theorem dX12_sightLine_46 : decode cX12_sightLine 46 = .ok (.iconst 0, 1) := by decide +kernel
theorem dX12_sightLine_47 : decode cX12_sightLine 47 = .ok (.bipush 99, 2) := by decide +kernel
theorem dX12_sightLine_49 : decode cX12_sightLine 49 = .ok (.invokevirtual 162, 3) := by decide +kernel
theorem dX12_sightLine_52 : decode cX12_sightLine 52 = .ok (.ifCond .eq 14, 3) := by decide +kernel
theorem dX12_sightLine_55 : decode cX12_sightLine 55 = .ok (.aload_n 0, 1) := by decide +kernel
theorem dX12_sightLine_56 : decode cX12_sightLine 56 = .ok (.iconst 3, 1) := by decide +kernel
theorem dX12_sightLine_57 : decode cX12_sightLine 57 = .ok (.iconst 0, 1) := by decide +kernel
theorem dX12_sightLine_58 : decode cX12_sightLine 58 = .ok (.bipush 7, 2) := by decide +kernel
theorem dX12_sightLine_60 : decode cX12_sightLine 60 = .ok (.invokevirtual 162, 3) := by decide +kernel
theorem dX12_sightLine_63 : decode cX12_sightLine 63 = .ok (.ifCond .ne 5, 3) := by decide +kernel
theorem dX12_sightLine_66 : decode cX12_sightLine 66 = .ok (.iconst 0, 1) := by decide +kernel
theorem dX12_sightLine_67 : decode cX12_sightLine 67 = .ok (.ireturn, 1) := by decide +kernel
theorem dX12_sightLine_68 : decode cX12_sightLine 68 = .ok (.aload_n 0, 1) := by decide +kernel
theorem dX12_sightLine_69 : decode cX12_sightLine 69 = .ok (.getfield 41, 3) := by decide +kernel
theorem dX12_sightLine_72 : decode cX12_sightLine 72 = .ok (.iconst 0, 1) := by decide +kernel
theorem dX12_sightLine_73 : decode cX12_sightLine 73 = .ok (.lload_n 1, 1) := by decide +kernel
theorem dX12_sightLine_74 : decode cX12_sightLine 74 = .ok (.ldc2_w 225, 3) := by decide +kernel
theorem dX12_sightLine_77 : decode cX12_sightLine 77 = .ok (.lcmp, 1) := by decide +kernel
theorem dX12_sightLine_78 : decode cX12_sightLine 78 = .ok (.ifCond .ne 7, 3) := by decide +kernel
theorem dX12_sightLine_81 : decode cX12_sightLine 81 = .ok (.iconst 1, 1) := by decide +kernel
theorem dX12_sightLine_82 : decode cX12_sightLine 82 = .ok (.goto 4, 3) := by decide +kernel
theorem dX12_sightLine_85 : decode cX12_sightLine 85 = .ok (.iconst 0, 1) := by decide +kernel
theorem dX12_sightLine_86 : decode cX12_sightLine 86 = .ok (.iastore, 1) := by decide +kernel
theorem dX12_sightLine_87 : decode cX12_sightLine 87 = .ok (.aload_n 0, 1) := by decide +kernel
theorem dX12_sightLine_88 : decode cX12_sightLine 88 = .ok (.iconst 0, 1) := by decide +kernel
theorem dX12_sightLine_89 : decode cX12_sightLine 89 = .ok (.iconst 1, 1) := by decide +kernel
theorem dX12_sightLine_90 : decode cX12_sightLine 90 = .ok (.iconst 4, 1) := by decide +kernel
theorem dX12_sightLine_91 : decode cX12_sightLine 91 = .ok (.bipush 8, 2) := by decide +kernel
theorem dX12_sightLine_93 : decode cX12_sightLine 93 = .ok (.invokevirtual 217, 3) := by decide +kernel
theorem dX12_sightLine_96 : decode cX12_sightLine 96 = .ok (.iconst 1, 1) := by decide +kernel
theorem dX12_sightLine_97 : decode cX12_sightLine 97 = .ok (.ireturn, 1) := by decide +kernel
noncomputable def fX12_sightLine_b21 (μ : zM) (x0 : Nat) (x3 : Int32) (x1 : Int64) : Option (Int32 × zM) :=
  zb1 (fX12_full μ x0 0 8 x3) fun m2 =>
  zb1 (fX12_token m2 x0) fun m4 =>
  zb2 (fX12_take m4 x0 1 0 30) fun v7 m6 =>
  if v7 = 0 then (
  some (0, m6))
  else (
  zb2 (fX12_take m6 x0 2 0 99) fun v10 m9 =>
  if v10 = 0 then (
  some (0, m9))
  else (
  zb2 (fX12_take m9 x0 3 0 7) fun v13 m12 =>
  if v13 = 0 then (
  some (0, m12))
  else (
  zb1 (zm_gR m12 12 x0 20) fun v14 =>
  zb1 (if (lg_cmp x1 448377483876) = 0 then (
  some 1)
  else (
  some 0) : Option (Int32)) fun (s16 : Int32) =>
  zb1 (zm_sI m12 0 v14 0 s16) fun m18 =>
  zb1 (fX12_keep m18 x0 0 1 4 8) fun m21 =>
  some (1, m21))))
noncomputable def fX12_sightLine (μ : zM) (x0 : Nat) (x1 : Int64) (x3 : Int32) : Option (Int32 × zM) := zgd (zm_ck μ 12 x0) <|
  if (lg_cmp x1 448377483876) = 0 then (
  fX12_sightLine_b21 μ x0 x3 x1)
  else (
  if (lg_cmp x1 7237492) = 0 then (
  fX12_sightLine_b21 μ x0 x3 x1)
  else (
  zb2 (fX12_fails μ x0) fun v25 m24 =>
  zb1 (zbz v25) fun v26 =>
  some (v26, m24)))
theorem fX12_sightLine_ck {μ : zM} {x0 : Nat} {x1 : Int64} {x3 : Int32} {z : Int32 × zM} (h : fX12_sightLine μ x0 x1 x3 = some z) : zm_ck μ 12 x0 = true := (zgd_s h).1
set_option maxHeartbeats 4000000 in
set_option maxRecDepth 100000 in
theorem cX12_sightLine_ok {μ : zM} {x0 : Nat} {x1 : Int64} {x3 : Int32} {r : Int32} {mo : zM} (hf : fX12_sightLine μ x0 x1 x3 = some (r, mo)) : zC yX12_sightLine cX12_sightLine 4 (some .boolean) 3 0 0 [.ref x0, .long x1, .int x3] μ (some (.int r)) mo := by
  replace hf := (zgd_s hf).2
  refine zC.of (by decide) (Nat.le_of_ble_eq_true rfl) (fun K hin => ?_)
  clear hin
  show zz K cX12_sightLine (4, RX12, some .boolean, 3, 0, 0, some (.int r), mo) 0 0 0 [(0, .ref x0), (1, .long x1), (3, .int x3)] [] μ
  refine zr_lload_n 1 dX12_sightLine_0 rfl ?_
  refine zr_ldc2 zl_980 dX12_sightLine_1 ?_
  refine zr_lcmp dX12_sightLine_4 ?_
  have hb22 : ∀ (_ : Unit), fX12_sightLine_b21 μ x0 x3 x1 = some (r, mo) → zz K cX12_sightLine (4, RX12, some .boolean, 3, 0, 0, some (.int r), mo) 0 0 21 [(0, .ref x0), (1, .long x1), (3, .int x3)] [] μ := by
    intro _ hf
    unfold fX12_sightLine_b21 at hf
    refine zr_aload_n 0 dX12_sightLine_21 rfl ?_
    refine zr_iconst 0 dX12_sightLine_22 (by decide) ?_
    refine zr_bipush 8 dX12_sightLine_23 (by decide) ?_
    refine zr_iload_n 2 dX12_sightLine_25 rfl ?_
    replace hf := zb1_s hf
    obtain ⟨m2, h1, hf⟩ := hf
    refine zr_callV (ci := 12) [.int 0, .int 8, .int x3] (cX12_full_ok h1) zvs_X12_full zl_963 zl_964 (fX12_full_ck h1) rfl rfl zl_962 rfl (Nat.le_of_ble_eq_true rfl) (Nat.le_of_ble_eq_true rfl) (Nat.le_of_ble_eq_true rfl) (Nat.le_of_ble_eq_true rfl) dX12_sightLine_26 rfl ?_
    refine zr_aload_n 0 dX12_sightLine_29 rfl ?_
    replace hf := zb1_s hf
    obtain ⟨m4, h3, hf⟩ := hf
    refine zr_callV (ci := 12) [] (cX12_token_ok h3) zvs_X12_token zl_919 zl_920 (fX12_token_ck h3) rfl rfl zl_918 rfl (Nat.le_of_ble_eq_true rfl) (Nat.le_of_ble_eq_true rfl) (Nat.le_of_ble_eq_true rfl) (Nat.le_of_ble_eq_true rfl) dX12_sightLine_30 rfl ?_
    refine zr_aload_n 0 dX12_sightLine_33 rfl ?_
    refine zr_iconst 1 dX12_sightLine_34 (by decide) ?_
    refine zr_iconst 0 dX12_sightLine_35 (by decide) ?_
    refine zr_bipush 30 dX12_sightLine_36 (by decide) ?_
    replace hf := zb2_s hf
    obtain ⟨v7, m6, h5, hf⟩ := hf
    refine zr_callV (ci := 12) [.int 1, .int 0, .int 30] (cX12_take_ok h5) zvs_X12_take zl_935 zl_936 (fX12_take_ck h5) rfl rfl zl_934 rfl (Nat.le_of_ble_eq_true rfl) (Nat.le_of_ble_eq_true rfl) (Nat.le_of_ble_eq_true rfl) (Nat.le_of_ble_eq_true rfl) dX12_sightLine_38 rfl ?_
    refine zr_if_eq 66 dX12_sightLine_41 (by decide) (fun hc => ?_) (fun hc => ?_)
    · rw [if_pos hc] at hf
      refine zr_iconst 0 dX12_sightLine_66 (by decide) ?_
      cases hf
      exact zr_zret rfl dX12_sightLine_67
    · rw [if_neg hc] at hf
      refine zr_aload_n 0 dX12_sightLine_44 rfl ?_
      refine zr_iconst 2 dX12_sightLine_45 (by decide) ?_
      refine zr_iconst 0 dX12_sightLine_46 (by decide) ?_
      refine zr_bipush 99 dX12_sightLine_47 (by decide) ?_
      replace hf := zb2_s hf
      obtain ⟨v10, m9, h8, hf⟩ := hf
      refine zr_callV (ci := 12) [.int 2, .int 0, .int 99] (cX12_take_ok h8) zvs_X12_take zl_935 zl_936 (fX12_take_ck h8) rfl rfl zl_934 rfl (Nat.le_of_ble_eq_true rfl) (Nat.le_of_ble_eq_true rfl) (Nat.le_of_ble_eq_true rfl) (Nat.le_of_ble_eq_true rfl) dX12_sightLine_49 rfl ?_
      refine zr_if_eq 66 dX12_sightLine_52 (by decide) (fun hc => ?_) (fun hc => ?_)
      · rw [if_pos hc] at hf
        refine zr_iconst 0 dX12_sightLine_66 (by decide) ?_
        cases hf
        exact zr_zret rfl dX12_sightLine_67
      · rw [if_neg hc] at hf
        refine zr_aload_n 0 dX12_sightLine_55 rfl ?_
        refine zr_iconst 3 dX12_sightLine_56 (by decide) ?_
        refine zr_iconst 0 dX12_sightLine_57 (by decide) ?_
        refine zr_bipush 7 dX12_sightLine_58 (by decide) ?_
        replace hf := zb2_s hf
        obtain ⟨v13, m12, h11, hf⟩ := hf
        refine zr_callV (ci := 12) [.int 3, .int 0, .int 7] (cX12_take_ok h11) zvs_X12_take zl_935 zl_936 (fX12_take_ck h11) rfl rfl zl_934 rfl (Nat.le_of_ble_eq_true rfl) (Nat.le_of_ble_eq_true rfl) (Nat.le_of_ble_eq_true rfl) (Nat.le_of_ble_eq_true rfl) dX12_sightLine_60 rfl ?_
        refine zr_if_ne 68 dX12_sightLine_63 (by decide) (fun hc => ?_) (fun hc => ?_)
        · rw [if_neg hc] at hf
          refine zr_aload_n 0 dX12_sightLine_68 rfl ?_
          replace hf := zb1_s hf
          obtain ⟨v14, h15, hf⟩ := hf
          refine zr_get (zm_gR_g h15) zk12 (by decide) zl_874 dX12_sightLine_69 ?_
          refine zr_iconst 0 dX12_sightLine_72 (by decide) ?_
          refine zr_lload_n 1 dX12_sightLine_73 rfl ?_
          refine zr_ldc2 zl_980 dX12_sightLine_74 ?_
          refine zr_lcmp dX12_sightLine_77 ?_
          replace hf := zb1_s hf
          obtain ⟨s16, hg, hf⟩ := hf
          have hj17 : zz K cX12_sightLine (4, RX12, some .boolean, 3, 0, 0, some (.int r), mo) 0 0 86 [(0, .ref x0)] [.int s16, .int 0, .ref v14] m12 := by
            replace hf := zb1_s hf
            obtain ⟨m18, h19, hf⟩ := hf
            refine zr_iast h19 dX12_sightLine_86 ?_
            refine zr_aload_n 0 dX12_sightLine_87 rfl ?_
            refine zr_iconst 0 dX12_sightLine_88 (by decide) ?_
            refine zr_iconst 1 dX12_sightLine_89 (by decide) ?_
            refine zr_iconst 4 dX12_sightLine_90 (by decide) ?_
            refine zr_bipush 8 dX12_sightLine_91 (by decide) ?_
            replace hf := zb1_s hf
            obtain ⟨m21, h20, hf⟩ := hf
            refine zr_callV (ci := 12) [.int 0, .int 1, .int 4, .int 8] (cX12_keep_ok h20) zvs_X12_keep zl_976 zl_977 (fX12_keep_ck h20) rfl rfl zl_975 rfl (Nat.le_of_ble_eq_true rfl) (Nat.le_of_ble_eq_true rfl) (Nat.le_of_ble_eq_true rfl) (Nat.le_of_ble_eq_true rfl) dX12_sightLine_93 rfl ?_
            refine zr_iconst 1 dX12_sightLine_96 (by decide) ?_
            cases hf
            exact zr_zret rfl dX12_sightLine_97
          clear hf
          have hf := hg
          clear hg
          refine zr_if_ne 85 dX12_sightLine_78 (by decide) (fun hc => ?_) (fun hc => ?_)
          · rw [if_neg hc] at hf
            refine zr_iconst 0 dX12_sightLine_85 (by decide) ?_
            cases hf
            exact zr_lv [0] rfl hj17
          · rw [if_pos hc] at hf
            refine zr_iconst 1 dX12_sightLine_81 (by decide) ?_
            refine zr_goto 86 dX12_sightLine_82 (by decide) ?_
            cases hf
            exact zr_lv [0] rfl hj17
        · rw [if_pos hc] at hf
          refine zr_iconst 0 dX12_sightLine_66 (by decide) ?_
          cases hf
          exact zr_zret rfl dX12_sightLine_67
  refine zr_if_eq 21 dX12_sightLine_5 (by decide) (fun hc => ?_) (fun hc => ?_)
  · rw [if_pos hc] at hf
    exact zr_lv [0, 1, 2] rfl (hb22 () hf)
  · rw [if_neg hc] at hf
    refine zr_lload_n 1 dX12_sightLine_8 rfl ?_
    refine zr_ldc2 zl_981 dX12_sightLine_9 ?_
    refine zr_lcmp dX12_sightLine_12 ?_
    refine zr_if_eq 21 dX12_sightLine_13 (by decide) (fun hc => ?_) (fun hc => ?_)
    · rw [if_pos hc] at hf
      exact zr_lv [0, 1, 2] rfl (hb22 () hf)
    · rw [if_neg hc] at hf
      refine zr_aload_n 0 dX12_sightLine_16 rfl ?_
      replace hf := zb2_s hf
      obtain ⟨v25, m24, h23, hf⟩ := hf
      refine zr_callV (ci := 12) [] (cX12_fails_ok h23) zvs_X12_fails zl_928 zl_929 (fX12_fails_ck h23) rfl rfl zl_927 rfl (Nat.le_of_ble_eq_true rfl) (Nat.le_of_ble_eq_true rfl) (Nat.le_of_ble_eq_true rfl) (Nat.le_of_ble_eq_true rfl) dX12_sightLine_17 rfl ?_
      replace hf := zb1_s hf
      obtain ⟨v26, hn27, hf⟩ := hf
      replace hn27 := zbz_s hn27
      obtain ⟨hn27, rfl⟩ := hn27
      cases hf
      exact zr_zret hn27 dX12_sightLine_20
theorem zl_982 : Cond.code yX12_valleyLine cX12_valleyLine 6 (some .boolean) ∈ zt := zt_at 1555 (by decide +kernel)
theorem zvs_X12_valleyLine : zvS yX12_valleyLine cX12_valleyLine 6 (some .boolean) 2 := ⟨zl_982, zl_893, ⟨by decide +kernel, by decide +kernel, by decide +kernel⟩, by decide⟩
theorem zl_983 : Cond.methodLink RX12 229 yX12_valleyLine ∈ zt := zt_at 1552 (by decide +kernel)
theorem zl_984 : Cond.instanceMethod yX12_valleyLine ∈ zt := zt_at 1554 (by decide +kernel)
theorem zl_985 : Cond.selects RX12 yX12_valleyLine yX12_valleyLine ∈ zt := zt_at 55 (by decide +kernel)
theorem zl_986 : Cond.code yX12_dayLine cX12_dayLine 6 (some .boolean) ∈ zt := zt_at 1602 (by decide +kernel)
theorem zvs_X12_dayLine : zvS yX12_dayLine cX12_dayLine 6 (some .boolean) 2 := ⟨zl_986, zl_893, ⟨by decide +kernel, by decide +kernel, by decide +kernel⟩, by decide⟩
theorem zl_987 : Cond.methodLink RX12 233 yX12_dayLine ∈ zt := zt_at 1599 (by decide +kernel)
theorem zl_988 : Cond.instanceMethod yX12_dayLine ∈ zt := zt_at 1601 (by decide +kernel)
theorem zl_989 : Cond.selects RX12 yX12_dayLine yX12_dayLine ∈ zt := zt_at 63 (by decide +kernel)
theorem zl_990 : Cond.code yX12_lessonLine cX12_lessonLine 4 (some .boolean) ∈ zt := zt_at 1618 (by decide +kernel)
theorem zvs_X12_lessonLine : zvS yX12_lessonLine cX12_lessonLine 4 (some .boolean) 2 := ⟨zl_990, zl_893, ⟨by decide +kernel, by decide +kernel, by decide +kernel⟩, by decide⟩
theorem zl_991 : Cond.methodLink RX12 236 yX12_lessonLine ∈ zt := zt_at 1615 (by decide +kernel)
theorem zl_992 : Cond.instanceMethod yX12_lessonLine ∈ zt := zt_at 1617 (by decide +kernel)
theorem zl_993 : Cond.selects RX12 yX12_lessonLine yX12_lessonLine ∈ zt := zt_at 65 (by decide +kernel)
theorem zl_994 : Cond.code yX12_sightLine cX12_sightLine 4 (some .boolean) ∈ zt := zt_at 1624 (by decide +kernel)
theorem zvs_X12_sightLine : zvS yX12_sightLine cX12_sightLine 4 (some .boolean) 2 := ⟨zl_994, zl_893, ⟨by decide +kernel, by decide +kernel, by decide +kernel⟩, by decide⟩
theorem zl_995 : Cond.methodLink RX12 239 yX12_sightLine ∈ zt := zt_at 1621 (by decide +kernel)
theorem zl_996 : Cond.instanceMethod yX12_sightLine ∈ zt := zt_at 1623 (by decide +kernel)
theorem zl_997 : Cond.selects RX12 yX12_sightLine yX12_sightLine ∈ zt := zt_at 66 (by decide +kernel)
theorem dX12_lineOf_0 : decode cX12_lineOf 0 = .ok (.iload_n 1, 1) := by decide +kernel
theorem dX12_lineOf_1 : decode cX12_lineOf 1 = .ok (.tableswitch 51 0 2 #[27, 35, 43], 27) := by decide +kernel
theorem dX12_lineOf_28 : decode cX12_lineOf 28 = .ok (.aload_n 0, 1) := by decide +kernel
theorem dX12_lineOf_29 : decode cX12_lineOf 29 = .ok (.lload_n 2, 1) := by decide +kernel
theorem dX12_lineOf_30 : decode cX12_lineOf 30 = .ok (.iload 4, 2) := by decide +kernel
theorem dX12_lineOf_32 : decode cX12_lineOf 32 = .ok (.invokevirtual 229, 3) := by decide +kernel
theorem dX12_lineOf_35 : decode cX12_lineOf 35 = .ok (.ireturn, 1) := by decide +kernel
theorem dX12_lineOf_36 : decode cX12_lineOf 36 = .ok (.aload_n 0, 1) := by decide +kernel
theorem dX12_lineOf_37 : decode cX12_lineOf 37 = .ok (.lload_n 2, 1) := by decide +kernel
theorem dX12_lineOf_38 : decode cX12_lineOf 38 = .ok (.iload 4, 2) := by decide +kernel
theorem dX12_lineOf_40 : decode cX12_lineOf 40 = .ok (.invokevirtual 233, 3) := by decide +kernel
theorem dX12_lineOf_43 : decode cX12_lineOf 43 = .ok (.ireturn, 1) := by decide +kernel
theorem dX12_lineOf_44 : decode cX12_lineOf 44 = .ok (.aload_n 0, 1) := by decide +kernel
theorem dX12_lineOf_45 : decode cX12_lineOf 45 = .ok (.lload_n 2, 1) := by decide +kernel
theorem dX12_lineOf_46 : decode cX12_lineOf 46 = .ok (.iload 4, 2) := by decide +kernel
theorem dX12_lineOf_48 : decode cX12_lineOf 48 = .ok (.invokevirtual 236, 3) := by decide +kernel
theorem dX12_lineOf_51 : decode cX12_lineOf 51 = .ok (.ireturn, 1) := by decide +kernel
theorem dX12_lineOf_52 : decode cX12_lineOf 52 = .ok (.aload_n 0, 1) := by decide +kernel
theorem dX12_lineOf_53 : decode cX12_lineOf 53 = .ok (.lload_n 2, 1) := by decide +kernel
theorem dX12_lineOf_54 : decode cX12_lineOf 54 = .ok (.iload 4, 2) := by decide +kernel
theorem dX12_lineOf_56 : decode cX12_lineOf 56 = .ok (.invokevirtual 239, 3) := by decide +kernel
theorem dX12_lineOf_59 : decode cX12_lineOf 59 = .ok (.ireturn, 1) := by decide +kernel
noncomputable def fX12_lineOf (μ : zM) (x0 : Nat) (x1 : Int32) (x2 : Int64) (x4 : Int32) : Option (Int32 × zM) := zgd (zm_ck μ 12 x0) <|
  if x1 = 0 then (
  zb2 (fX12_valleyLine μ x0 x2 x4) fun v3 m2 =>
  zb1 (zbz v3) fun v4 =>
  some (v4, m2))
  else (
  if x1 = 1 then (
  zb2 (fX12_dayLine μ x0 x2 x4) fun v9 m8 =>
  zb1 (zbz v9) fun v10 =>
  some (v10, m8))
  else (
  if x1 = 2 then (
  zb2 (fX12_lessonLine μ x0 x2 x4) fun v15 m14 =>
  zb1 (zbz v15) fun v16 =>
  some (v16, m14))
  else (
  zb2 (fX12_sightLine μ x0 x2 x4) fun v21 m20 =>
  zb1 (zbz v21) fun v22 =>
  some (v22, m20))))
theorem fX12_lineOf_ck {μ : zM} {x0 : Nat} {x1 : Int32} {x2 : Int64} {x4 : Int32} {z : Int32 × zM} (h : fX12_lineOf μ x0 x1 x2 x4 = some z) : zm_ck μ 12 x0 = true := (zgd_s h).1
set_option maxHeartbeats 4000000 in
set_option maxRecDepth 100000 in
theorem cX12_lineOf_ok {μ : zM} {x0 : Nat} {x1 : Int32} {x2 : Int64} {x4 : Int32} {r : Int32} {mo : zM} (hf : fX12_lineOf μ x0 x1 x2 x4 = some (r, mo)) : zC yX12_lineOf cX12_lineOf 5 (some .boolean) 5 0 0 [.ref x0, .int x1, .long x2, .int x4] μ (some (.int r)) mo := by
  replace hf := (zgd_s hf).2
  refine zC.of (by decide) (Nat.le_of_ble_eq_true rfl) (fun K hin => ?_)
  clear hin
  show zz K cX12_lineOf (5, RX12, some .boolean, 5, 0, 0, some (.int r), mo) 0 0 0 [(0, .ref x0), (1, .int x1), (2, .long x2), (4, .int x4)] [] μ
  refine zr_iload_n 1 dX12_lineOf_0 rfl ?_
  rcases zdec (x1 = 0) with hs6 | hs6
  · rw [if_pos hs6] at hf
    refine zr_tableIn (off := 27) 28 dX12_lineOf_1 (by rw [hs6]; decide) (by rw [hs6]; decide) (by rw [hs6]; rfl) (by decide) ?_
    refine zr_aload_n 0 dX12_lineOf_28 rfl ?_
    refine zr_lload_n 2 dX12_lineOf_29 rfl ?_
    refine zr_iload 3 dX12_lineOf_30 rfl ?_
    replace hf := zb2_s hf
    obtain ⟨v3, m2, h1, hf⟩ := hf
    refine zr_callV (ci := 12) [.long x2, .int x4] (cX12_valleyLine_ok h1) zvs_X12_valleyLine zl_984 zl_985 (fX12_valleyLine_ck h1) rfl rfl zl_983 rfl (Nat.le_of_ble_eq_true rfl) (Nat.le_of_ble_eq_true rfl) (Nat.le_of_ble_eq_true rfl) (Nat.le_of_ble_eq_true rfl) dX12_lineOf_32 rfl ?_
    replace hf := zb1_s hf
    obtain ⟨v4, hn5, hf⟩ := hf
    replace hn5 := zbz_s hn5
    obtain ⟨hn5, rfl⟩ := hn5
    cases hf
    exact zr_zret hn5 dX12_lineOf_35
  rw [if_neg hs6] at hf
  rcases zdec (x1 = 1) with hs12 | hs12
  · rw [if_pos hs12] at hf
    refine zr_tableIn (off := 35) 36 dX12_lineOf_1 (by rw [hs12]; decide) (by rw [hs12]; decide) (by rw [hs12]; rfl) (by decide) ?_
    refine zr_aload_n 0 dX12_lineOf_36 rfl ?_
    refine zr_lload_n 2 dX12_lineOf_37 rfl ?_
    refine zr_iload 3 dX12_lineOf_38 rfl ?_
    replace hf := zb2_s hf
    obtain ⟨v9, m8, h7, hf⟩ := hf
    refine zr_callV (ci := 12) [.long x2, .int x4] (cX12_dayLine_ok h7) zvs_X12_dayLine zl_988 zl_989 (fX12_dayLine_ck h7) rfl rfl zl_987 rfl (Nat.le_of_ble_eq_true rfl) (Nat.le_of_ble_eq_true rfl) (Nat.le_of_ble_eq_true rfl) (Nat.le_of_ble_eq_true rfl) dX12_lineOf_40 rfl ?_
    replace hf := zb1_s hf
    obtain ⟨v10, hn11, hf⟩ := hf
    replace hn11 := zbz_s hn11
    obtain ⟨hn11, rfl⟩ := hn11
    cases hf
    exact zr_zret hn11 dX12_lineOf_43
  rw [if_neg hs12] at hf
  rcases zdec (x1 = 2) with hs18 | hs18
  · rw [if_pos hs18] at hf
    refine zr_tableIn (off := 43) 44 dX12_lineOf_1 (by rw [hs18]; decide) (by rw [hs18]; decide) (by rw [hs18]; rfl) (by decide) ?_
    refine zr_aload_n 0 dX12_lineOf_44 rfl ?_
    refine zr_lload_n 2 dX12_lineOf_45 rfl ?_
    refine zr_iload 3 dX12_lineOf_46 rfl ?_
    replace hf := zb2_s hf
    obtain ⟨v15, m14, h13, hf⟩ := hf
    refine zr_callV (ci := 12) [.long x2, .int x4] (cX12_lessonLine_ok h13) zvs_X12_lessonLine zl_992 zl_993 (fX12_lessonLine_ck h13) rfl rfl zl_991 rfl (Nat.le_of_ble_eq_true rfl) (Nat.le_of_ble_eq_true rfl) (Nat.le_of_ble_eq_true rfl) (Nat.le_of_ble_eq_true rfl) dX12_lineOf_48 rfl ?_
    replace hf := zb1_s hf
    obtain ⟨v16, hn17, hf⟩ := hf
    replace hn17 := zbz_s hn17
    obtain ⟨hn17, rfl⟩ := hn17
    cases hf
    exact zr_zret hn17 dX12_lineOf_51
  rw [if_neg hs18] at hf
  refine zr_tableOut 52 dX12_lineOf_1 (by simp only [← Int32.toInt_inj] at hs6 hs12 hs18; simp at hs6 hs12 hs18; omega) (by decide) ?_
  refine zr_aload_n 0 dX12_lineOf_52 rfl ?_
  refine zr_lload_n 2 dX12_lineOf_53 rfl ?_
  refine zr_iload 3 dX12_lineOf_54 rfl ?_
  replace hf := zb2_s hf
  obtain ⟨v21, m20, h19, hf⟩ := hf
  refine zr_callV (ci := 12) [.long x2, .int x4] (cX12_sightLine_ok h19) zvs_X12_sightLine zl_996 zl_997 (fX12_sightLine_ck h19) rfl rfl zl_995 rfl (Nat.le_of_ble_eq_true rfl) (Nat.le_of_ble_eq_true rfl) (Nat.le_of_ble_eq_true rfl) (Nat.le_of_ble_eq_true rfl) dX12_lineOf_56 rfl ?_
  replace hf := zb1_s hf
  obtain ⟨v22, hn23, hf⟩ := hf
  replace hn23 := zbz_s hn23
  obtain ⟨hn23, rfl⟩ := hn23
  cases hf
  exact zr_zret hn23 dX12_lineOf_59
theorem zl_998 : Cond.code yX12_lineOf cX12_lineOf 5 (some .boolean) ∈ zt := zt_at 1551 (by decide +kernel)
theorem zvs_X12_lineOf : zvS yX12_lineOf cX12_lineOf 5 (some .boolean) 3 := ⟨zl_998, zl_893, ⟨by decide +kernel, by decide +kernel, by decide +kernel⟩, by decide⟩
theorem zl_999 : Cond.methodLink RX12 242 yX12_lineOf ∈ zt := zt_at 1548 (by decide +kernel)
theorem zl_1000 : Cond.instanceMethod yX12_lineOf ∈ zt := zt_at 1550 (by decide +kernel)
theorem zl_1001 : Cond.selects RX12 yX12_lineOf yX12_lineOf ∈ zt := zt_at 54 (by decide +kernel)
theorem dX12_lines_0 : decode cX12_lines 0 = .ok (.iconst 1, 1) := by decide +kernel
theorem dX12_lines_1 : decode cX12_lines 1 = .ok (.istore_n 2, 1) := by decide +kernel
theorem dX12_lines_2 : decode cX12_lines 2 = .ok (.iload_n 2, 1) := by decide +kernel
theorem dX12_lines_3 : decode cX12_lines 3 = .ok (.ifCond .eq 71, 3) := by decide +kernel
theorem dX12_lines_6 : decode cX12_lines 6 = .ok (.aload_n 0, 1) := by decide +kernel
theorem dX12_lines_7 : decode cX12_lines 7 = .ok (.getfield 126, 3) := by decide +kernel
theorem dX12_lines_10 : decode cX12_lines 10 = .ok (.ifCond .eq 64, 3) := by decide +kernel
theorem dX12_lines_13 : decode cX12_lines 13 = .ok (.aload_n 0, 1) := by decide +kernel
theorem dX12_lines_14 : decode cX12_lines 14 = .ok (.getfield 119, 3) := by decide +kernel
theorem dX12_lines_17 : decode cX12_lines 17 = .ok (.istore_n 3, 1) := by decide +kernel
theorem dX12_lines_18 : decode cX12_lines 18 = .ok (.aload_n 0, 1) := by decide +kernel
theorem dX12_lines_19 : decode cX12_lines 19 = .ok (.iconst 1, 1) := by decide +kernel
theorem dX12_lines_20 : decode cX12_lines 20 = .ok (.putfield 149, 3) := by decide +kernel
theorem dX12_lines_23 : decode cX12_lines 23 = .ok (.aload_n 0, 1) := by decide +kernel
theorem dX12_lines_24 : decode cX12_lines 24 = .ok (.iload_n 1, 1) := by decide +kernel
theorem dX12_lines_25 : decode cX12_lines 25 = .ok (.aload_n 0, 1) := by decide +kernel
theorem dX12_lines_26 : decode cX12_lines 26 = .ok (.getfield 126, 3) := by decide +kernel
theorem dX12_lines_29 : decode cX12_lines 29 = .ok (.iconst 2, 1) := by decide +kernel
theorem dX12_lines_30 : decode cX12_lines 30 = .ok (.if_icmp .ne 10, 3) := by decide +kernel
theorem dX12_lines_33 : decode cX12_lines 33 = .ok (.aload_n 0, 1) := by decide +kernel
theorem dX12_lines_34 : decode cX12_lines 34 = .ok (.getfield 122, 3) := by decide +kernel
theorem dX12_lines_37 : decode cX12_lines 37 = .ok (.goto 4, 3) := by decide +kernel
theorem dX12_lines_40 : decode cX12_lines 40 = .ok (.lconst 0, 1) := by decide +kernel
theorem dX12_lines_41 : decode cX12_lines 41 = .ok (.iload_n 3, 1) := by decide +kernel
theorem dX12_lines_42 : decode cX12_lines 42 = .ok (.invokevirtual 242, 3) := by decide +kernel
theorem dX12_lines_45 : decode cX12_lines 45 = .ok (.istore_n 2, 1) := by decide +kernel
theorem dX12_lines_46 : decode cX12_lines 46 = .ok (.iload_n 2, 1) := by decide +kernel
theorem dX12_lines_47 : decode cX12_lines 47 = .ok (.ifCond .eq 16, 3) := by decide +kernel
theorem dX12_lines_50 : decode cX12_lines 50 = .ok (.aload_n 0, 1) := by decide +kernel
theorem dX12_lines_51 : decode cX12_lines 51 = .ok (.getfield 126, 3) := by decide +kernel
theorem dX12_lines_54 : decode cX12_lines 54 = .ok (.iconst 4, 1) := by decide +kernel
theorem dX12_lines_55 : decode cX12_lines 55 = .ok (.if_icmp .eq 8, 3) := by decide +kernel
theorem dX12_lines_58 : decode cX12_lines 58 = .ok (.aload_n 0, 1) := by decide +kernel
theorem dX12_lines_59 : decode cX12_lines 59 = .ok (.invokevirtual 141, 3) := by decide +kernel
theorem dX12_lines_62 : decode cX12_lines 62 = .ok (.istore_n 2, 1) := by decide +kernel
theorem dX12_lines_63 : decode cX12_lines 63 = .ok (.iload_n 2, 1) := by decide +kernel
theorem dX12_lines_64 : decode cX12_lines 64 = .ok (.ifCond .eq 7, 3) := by decide +kernel
theorem dX12_lines_67 : decode cX12_lines 67 = .ok (.aload_n 0, 1) := by decide +kernel
theorem dX12_lines_68 : decode cX12_lines 68 = .ok (.invokevirtual 153, 3) := by decide +kernel
theorem dX12_lines_71 : decode cX12_lines 71 = .ok (.goto (-69), 3) := by decide +kernel
theorem dX12_lines_74 : decode cX12_lines 74 = .ok (.iload_n 2, 1) := by decide +kernel
theorem dX12_lines_75 : decode cX12_lines 75 = .ok (.ireturn, 1) := by decide +kernel
noncomputable def fX12_lines_l2 (x0 : Nat) (x1 : Int32) (F3 : Int32 → zM → Option (Int32 × zM)) (x2_1 : Int32) (m2 : zM) : Option (Int32 × zM) :=
  if x2_1 = 0 then (
  some (x2_1, m2))
  else (
  zb1 (zm_gI m2 12 x0 13) fun v8 =>
  if v8 = 0 then (
  some (x2_1, m2))
  else (
  zb1 (zm_gI m2 12 x0 12) fun v10 =>
  zb1 (zm_p m2 12 x0 22 (.int 1)) fun m12 =>
  zb1 (zm_gI m12 12 x0 13) fun v14 =>
  zb1 (if v14 = 2 then (
  zb1 (zm_gL m12 12 x0 15) fun v33 =>
  some v33)
  else (
  some 0) : Option (Int64)) fun (s16 : Int64) =>
  zb2 (fX12_lineOf m12 x0 x1 s16 v10) fun v20 m19 =>
  zc2 (if v20 = 0 then (
  some (v20, m19))
  else (
  zb1 (zm_gI m19 12 x0 13) fun v28 =>
  if v28 = 4 then (
  some (v20, m19))
  else (
  zb2 (fX12_fails m19 x0) fun v32 m31 =>
  some (v32, m31))) : Option (Int32 × zM)) fun (x2_21 : Int32) (m22 : zM) =>
  zc1 (if x2_21 = 0 then (
  some m22)
  else (
  zb1 (fX12_token m22 x0) fun m27 =>
  some m27) : Option (zM)) fun (m24 : zM) =>
  F3 x2_21 m24))
noncomputable def fX12_lines (μ : zM) (x0 : Nat) (x1 : Int32) : Option (Int32 × zM) := zgd (zm_ck μ 12 x0) <|
  zb2 (zf2 (fX12_lines_l2 x0 x1) zfu 1 μ : Option (Int32 × zM)) fun (x2_5 : Int32) (m6 : zM) =>
  zb1 (zbz x2_5) fun v36 =>
  some (v36, m6)
theorem fX12_lines_ck {μ : zM} {x0 : Nat} {x1 : Int32} {z : Int32 × zM} (h : fX12_lines μ x0 x1 = some z) : zm_ck μ 12 x0 = true := (zgd_s h).1
set_option maxHeartbeats 4000000 in
set_option maxRecDepth 100000 in
theorem cX12_lines_ok {μ : zM} {x0 : Nat} {x1 : Int32} {r : Int32} {mo : zM} (hf : fX12_lines μ x0 x1 = some (r, mo)) : zC yX12_lines cX12_lines 4 (some .boolean) 6 0 0 [.ref x0, .int x1] μ (some (.int r)) mo := by
  replace hf := (zgd_s hf).2
  refine zC.of (by decide) (Nat.le_of_ble_eq_true rfl) (fun K hin => ?_)
  clear hin
  show zz K cX12_lines (4, RX12, some .boolean, 6, 0, 0, some (.int r), mo) 0 0 0 [(0, .ref x0), (1, .int x1)] [] μ
  refine zr_iconst 1 dX12_lines_0 (by decide) ?_
  refine zr_istore_n [(2, .int 1), (0, .ref x0), (1, .int x1)] dX12_lines_1 (Nat.le_of_ble_eq_true rfl) rfl ?_
  replace hf := zb2_s hf
  obtain ⟨x2_5, m6, hg, hf⟩ := hf
  have hj7 : zz K cX12_lines (4, RX12, some .boolean, 6, 0, 0, some (.int r), mo) 0 0 74 [(2, .int x2_5)] [] m6 := by
    refine zr_iload_n 0 dX12_lines_74 rfl ?_
    replace hf := zb1_s hf
    obtain ⟨v36, hn37, hf⟩ := hf
    replace hn37 := zbz_s hn37
    obtain ⟨hn37, rfl⟩ := hn37
    cases hf
    exact zr_zret hn37 dX12_lines_75
  clear hf
  have hf := hg
  clear hg
  have hL35 : ∀ (n : Nat) (x2_1 : Int32) (m2 : zM), zf2 (fX12_lines_l2 x0 x1) n x2_1 m2 = some (x2_5, m6) → zz K cX12_lines (4, RX12, some .boolean, 6, 0, 0, some (.int r), mo) 0 0 2 [(0, .ref x0), (1, .int x1), (2, .int x2_1)] [] m2 := by
    intro n
    induction n with
    | zero => intro x2_1 m2 hf; cases hf
    | succ n ih4 =>
      intro x2_1 m2 hf
      replace hf := zf2_s hf
      generalize zf2 (fX12_lines_l2 x0 x1) n = F3 at hf ih4
      unfold fX12_lines_l2 at hf
      refine zr_iload_n 2 dX12_lines_2 rfl ?_
      refine zr_if_eq 74 dX12_lines_3 (by decide) (fun hc => ?_) (fun hc => ?_)
      · rw [if_pos hc] at hf
        cases hf
        exact zr_lv [2] rfl hj7
      · rw [if_neg hc] at hf
        refine zr_aload_n 0 dX12_lines_6 rfl ?_
        replace hf := zb1_s hf
        obtain ⟨v8, h9, hf⟩ := hf
        refine zr_get (zm_gI_g h9) zk12 (by decide) zl_912 dX12_lines_7 ?_
        refine zr_if_eq 74 dX12_lines_10 (by decide) (fun hc => ?_) (fun hc => ?_)
        · rw [if_pos hc] at hf
          cases hf
          exact zr_lv [2] rfl hj7
        · rw [if_neg hc] at hf
          refine zr_aload_n 0 dX12_lines_13 rfl ?_
          replace hf := zb1_s hf
          obtain ⟨v10, h11, hf⟩ := hf
          refine zr_get (zm_gI_g h11) zk12 (by decide) zl_910 dX12_lines_14 ?_
          refine zr_istore_n [(3, .int v10), (0, .ref x0), (1, .int x1), (2, .int x2_1)] dX12_lines_17 (Nat.le_of_ble_eq_true rfl) rfl ?_
          refine zr_aload_n 1 dX12_lines_18 rfl ?_
          refine zr_iconst 1 dX12_lines_19 (by decide) ?_
          replace hf := zb1_s hf
          obtain ⟨m12, h13, hf⟩ := hf
          refine zr_put h13 zk12 (by decide) zl_925 rfl (by decide) (by decide) dX12_lines_20 ?_
          refine zr_aload_n 1 dX12_lines_23 rfl ?_
          refine zr_iload_n 2 dX12_lines_24 rfl ?_
          refine zr_aload_n 1 dX12_lines_25 rfl ?_
          replace hf := zb1_s hf
          obtain ⟨v14, h15, hf⟩ := hf
          refine zr_get (zm_gI_g h15) zk12 (by decide) zl_912 dX12_lines_26 ?_
          refine zr_iconst 2 dX12_lines_29 (by decide) ?_
          replace hf := zb1_s hf
          obtain ⟨s16, hg, hf⟩ := hf
          have hj17 : zz K cX12_lines (4, RX12, some .boolean, 6, 0, 0, some (.int r), mo) 0 0 41 [(0, .ref x0), (1, .int x1), (3, .int v10)] [.long s16, .int x1, .ref x0] m12 := by
            refine zr_iload_n 2 dX12_lines_41 rfl ?_
            replace hf := zb2_s hf
            obtain ⟨v20, m19, h18, hf⟩ := hf
            refine zr_callV (ci := 12) [.int x1, .long s16, .int v10] (cX12_lineOf_ok h18) zvs_X12_lineOf zl_1000 zl_1001 (fX12_lineOf_ck h18) rfl rfl zl_999 rfl (Nat.le_of_ble_eq_true rfl) (Nat.le_of_ble_eq_true rfl) (Nat.le_of_ble_eq_true rfl) (Nat.le_of_ble_eq_true rfl) dX12_lines_42 rfl ?_
            refine zr_istore_n [(2, .int v20), (0, .ref x0), (1, .int x1), (3, .int v10)] dX12_lines_45 (Nat.le_of_ble_eq_true rfl) rfl ?_
            refine zr_iload_n 0 dX12_lines_46 rfl ?_
            replace hf := zc2_s hf
            obtain ⟨x2_21, m22, hg, hf⟩ := hf
            have hj23 : zz K cX12_lines (4, RX12, some .boolean, 6, 0, 0, some (.int r), mo) 0 0 63 [(0, .ref x0), (1, .int x1), (2, .int x2_21)] [] m22 := by
              refine zr_iload_n 2 dX12_lines_63 rfl ?_
              replace hf := zc1_s hf
              obtain ⟨m24, hg, hf⟩ := hf
              have hj25 : zz K cX12_lines (4, RX12, some .boolean, 6, 0, 0, some (.int r), mo) 0 0 71 [(0, .ref x0), (1, .int x1), (2, .int x2_21)] [] m24 := by
                refine zr_goto 2 dX12_lines_71 (by decide) ?_
                exact zr_lv [0, 1, 2] rfl (ih4 x2_21 m24 hf)
              clear hf
              have hf := hg
              clear hg
              refine zr_if_eq 71 dX12_lines_64 (by decide) (fun hc => ?_) (fun hc => ?_)
              · rw [if_pos hc] at hf
                cases hf
                exact zr_lv [0, 1, 2] rfl hj25
              · rw [if_neg hc] at hf
                refine zr_aload_n 0 dX12_lines_67 rfl ?_
                replace hf := zb1_s hf
                obtain ⟨m27, h26, hf⟩ := hf
                refine zr_callV (ci := 12) [] (cX12_token_ok h26) zvs_X12_token zl_919 zl_920 (fX12_token_ck h26) rfl rfl zl_918 rfl (Nat.le_of_ble_eq_true rfl) (Nat.le_of_ble_eq_true rfl) (Nat.le_of_ble_eq_true rfl) (Nat.le_of_ble_eq_true rfl) dX12_lines_68 rfl ?_
                cases hf
                exact zr_lv [0, 1, 2] rfl hj25
            clear hf
            have hf := hg
            clear hg
            refine zr_if_eq 63 dX12_lines_47 (by decide) (fun hc => ?_) (fun hc => ?_)
            · rw [if_pos hc] at hf
              cases hf
              exact zr_lv [1, 2, 0] rfl hj23
            · rw [if_neg hc] at hf
              refine zr_aload_n 1 dX12_lines_50 rfl ?_
              replace hf := zb1_s hf
              obtain ⟨v28, h29, hf⟩ := hf
              refine zr_get (zm_gI_g h29) zk12 (by decide) zl_912 dX12_lines_51 ?_
              refine zr_iconst 4 dX12_lines_54 (by decide) ?_
              refine zr_icmp_eq 63 dX12_lines_55 (by decide) (fun hc => ?_) (fun hc => ?_)
              · rw [if_pos hc] at hf
                cases hf
                exact zr_lv [1, 2, 0] rfl hj23
              · rw [if_neg hc] at hf
                refine zr_aload_n 1 dX12_lines_58 rfl ?_
                replace hf := zb2_s hf
                obtain ⟨v32, m31, h30, hf⟩ := hf
                refine zr_callV (ci := 12) [] (cX12_fails_ok h30) zvs_X12_fails zl_928 zl_929 (fX12_fails_ck h30) rfl rfl zl_927 rfl (Nat.le_of_ble_eq_true rfl) (Nat.le_of_ble_eq_true rfl) (Nat.le_of_ble_eq_true rfl) (Nat.le_of_ble_eq_true rfl) dX12_lines_59 rfl ?_
                refine zr_istore_n [(2, .int v32), (0, .ref x0), (1, .int x1), (3, .int v10)] dX12_lines_62 (Nat.le_of_ble_eq_true rfl) rfl ?_
                cases hf
                exact zr_lv [1, 2, 0] rfl hj23
          clear hf
          have hf := hg
          clear hg
          refine zr_icmp_ne 40 dX12_lines_30 (by decide) (fun hc => ?_) (fun hc => ?_)
          · rw [if_neg hc] at hf
            refine zr_lconst 0 dX12_lines_40 (by decide) ?_
            cases hf
            exact zr_lv [1, 2, 0] rfl hj17
          · rw [if_pos hc] at hf
            refine zr_aload_n 1 dX12_lines_33 rfl ?_
            replace hf := zb1_s hf
            obtain ⟨v33, h34, hf⟩ := hf
            refine zr_get (zm_gL_g h34) zk12 (by decide) zl_911 dX12_lines_34 ?_
            refine zr_goto 41 dX12_lines_37 (by decide) ?_
            cases hf
            exact zr_lv [1, 2, 0] rfl hj17
  exact zr_lv [1, 2, 0] rfl (hL35 _ 1 μ hf)
theorem dX12_blank_0 : decode cX12_blank 0 = .ok (.iconst 0, 1) := by decide +kernel
theorem dX12_blank_1 : decode cX12_blank 1 = .ok (.istore_n 2, 1) := by decide +kernel
theorem dX12_blank_2 : decode cX12_blank 2 = .ok (.iload_n 2, 1) := by decide +kernel
theorem dX12_blank_3 : decode cX12_blank 3 = .ok (.bipush 121, 2) := by decide +kernel
theorem dX12_blank_5 : decode cX12_blank 5 = .ok (.if_icmp .ge 16, 3) := by decide +kernel
theorem dX12_blank_8 : decode cX12_blank 8 = .ok (.aload_n 0, 1) := by decide +kernel
theorem dX12_blank_9 : decode cX12_blank 9 = .ok (.getfield 38, 3) := by decide +kernel
theorem dX12_blank_12 : decode cX12_blank 12 = .ok (.iload_n 2, 1) := by decide +kernel
theorem dX12_blank_13 : decode cX12_blank 13 = .ok (.iconst 0, 1) := by decide +kernel
theorem dX12_blank_14 : decode cX12_blank 14 = .ok (.iastore, 1) := by decide +kernel
theorem dX12_blank_15 : decode cX12_blank 15 = .ok (.iinc 2 1, 3) := by decide +kernel
theorem dX12_blank_18 : decode cX12_blank 18 = .ok (.goto (-16), 3) := by decide +kernel
theorem dX12_blank_21 : decode cX12_blank 21 = .ok (.iconst 0, 1) := by decide +kernel
theorem dX12_blank_22 : decode cX12_blank 22 = .ok (.istore_n 2, 1) := by decide +kernel
theorem dX12_blank_23 : decode cX12_blank 23 = .ok (.iload_n 2, 1) := by decide +kernel
theorem dX12_blank_24 : decode cX12_blank 24 = .ok (.bipush 8, 2) := by decide +kernel
theorem dX12_blank_26 : decode cX12_blank 26 = .ok (.if_icmp .ge 32, 3) := by decide +kernel
theorem dX12_blank_29 : decode cX12_blank 29 = .ok (.iload_n 1, 1) := by decide +kernel
theorem dX12_blank_30 : decode cX12_blank 30 = .ok (.ifCond .ne 28, 3) := by decide +kernel
theorem dX12_blank_33 : decode cX12_blank 33 = .ok (.aload_n 0, 1) := by decide +kernel
theorem dX12_blank_34 : decode cX12_blank 34 = .ok (.getfield 38, 3) := by decide +kernel
theorem dX12_blank_37 : decode cX12_blank 37 = .ok (.iconst 3, 1) := by decide +kernel
theorem dX12_blank_38 : decode cX12_blank 38 = .ok (.iload_n 2, 1) := by decide +kernel
theorem dX12_blank_39 : decode cX12_blank 39 = .ok (.iadd, 1) := by decide +kernel
theorem dX12_blank_40 : decode cX12_blank 40 = .ok (.iload_n 2, 1) := by decide +kernel
theorem dX12_blank_41 : decode cX12_blank 41 = .ok (.iastore, 1) := by decide +kernel
theorem dX12_blank_42 : decode cX12_blank 42 = .ok (.aload_n 0, 1) := by decide +kernel
theorem dX12_blank_43 : decode cX12_blank 43 = .ok (.getfield 38, 3) := by decide +kernel
theorem dX12_blank_46 : decode cX12_blank 46 = .ok (.bipush 19, 2) := by decide +kernel
theorem dX12_blank_48 : decode cX12_blank 48 = .ok (.iload_n 2, 1) := by decide +kernel
theorem dX12_blank_49 : decode cX12_blank 49 = .ok (.iadd, 1) := by decide +kernel
theorem dX12_blank_50 : decode cX12_blank 50 = .ok (.iconst 1, 1) := by decide +kernel
theorem dX12_blank_51 : decode cX12_blank 51 = .ok (.iastore, 1) := by decide +kernel
theorem dX12_blank_52 : decode cX12_blank 52 = .ok (.iinc 2 1, 3) := by decide +kernel
theorem dX12_blank_55 : decode cX12_blank 55 = .ok (.goto (-32), 3) := by decide +kernel
theorem dX12_blank_58 : decode cX12_blank 58 = .ok (.aload_n 0, 1) := by decide +kernel
theorem dX12_blank_59 : decode cX12_blank 59 = .ok (.getfield 38, 3) := by decide +kernel
theorem dX12_blank_62 : decode cX12_blank 62 = .ok (.iconst 0, 1) := by decide +kernel
theorem dX12_blank_63 : decode cX12_blank 63 = .ok (.iload_n 1, 1) := by decide +kernel
theorem dX12_blank_64 : decode cX12_blank 64 = .ok (.ifCond .ne 8, 3) := by decide +kernel
theorem dX12_blank_67 : decode cX12_blank 67 = .ok (.bipush 12, 2) := by decide +kernel
theorem dX12_blank_69 : decode cX12_blank 69 = .ok (.goto 4, 3) := by decide +kernel
theorem dX12_blank_72 : decode cX12_blank 72 = .ok (.iconst 0, 1) := by decide +kernel
theorem dX12_blank_73 : decode cX12_blank 73 = .ok (.iastore, 1) := by decide +kernel
theorem dX12_blank_74 : decode cX12_blank 74 = .ok (.return_, 1) := by decide +kernel
noncomputable def fX12_blank_l2 (x0 : Nat) (F3 : Int32 → zM → Option (zM)) (x2_1 : Int32) (m2 : zM) : Option (zM) :=
  if 121 ≤ x2_1 then (
  some m2)
  else (
  zb1 (zm_gR m2 12 x0 19) fun v7 =>
  zb1 (zm_sI m2 0 v7 x2_1 0) fun m9 =>
  F3 (x2_1 + 1) m9)
noncomputable def fX12_blank_l23 (x1 : Int32) (x0 : Nat) (F14 : Int32 → zM → Option (zM)) (x2_12 : Int32) (m13 : zM) : Option (zM) :=
  if 8 ≤ x2_12 then (
  some m13)
  else (
  if x1 = 0 then (
  zb1 (zm_gR m13 12 x0 19) fun v18 =>
  zb1 (zm_sI m13 0 v18 (3 + x2_12) x2_12) fun m20 =>
  zb1 (zm_gR m20 12 x0 19) fun v22 =>
  zb1 (zm_sI m20 0 v22 (19 + x2_12) 1) fun m24 =>
  F14 (x2_12 + 1) m24)
  else (
  some m13))
noncomputable def fX12_blank (μ : zM) (x0 : Nat) (x1 : Int32) : Option (zM) := zgd (zm_ck μ 12 x0) <|
  zb1 (zf2 (fX12_blank_l2 x0) zfu 0 μ : Option (zM)) fun (m5 : zM) =>
  zb1 (zf2 (fX12_blank_l23 x1 x0) zfu 0 m5 : Option (zM)) fun (m16 : zM) =>
  zb1 (zm_gR m16 12 x0 19) fun v27 =>
  zb1 (if x1 = 0 then (
  some 12)
  else (
  some 0) : Option (Int32)) fun (s29 : Int32) =>
  zb1 (zm_sI m16 0 v27 0 s29) fun m31 =>
  some m31
theorem fX12_blank_ck {μ : zM} {x0 : Nat} {x1 : Int32} {z : zM} (h : fX12_blank μ x0 x1 = some z) : zm_ck μ 12 x0 = true := (zgd_s h).1
set_option maxHeartbeats 4000000 in
set_option maxRecDepth 100000 in
theorem cX12_blank_ok {μ : zM} {x0 : Nat} {x1 : Int32} {mo : zM} (hf : fX12_blank μ x0 x1 = some mo) : zC yX12_blank cX12_blank 3 (none) 0 0 0 [.ref x0, .int x1] μ (none) mo := by
  replace hf := (zgd_s hf).2
  refine zC.of (by decide) (Nat.le_of_ble_eq_true rfl) (fun K hin => ?_)
  clear hin
  show zz K cX12_blank (3, RX12, none, 0, 0, 0, none, mo) 0 0 0 [(0, .ref x0), (1, .int x1)] [] μ
  refine zr_iconst 0 dX12_blank_0 (by decide) ?_
  refine zr_istore_n [(2, .int 0), (0, .ref x0), (1, .int x1)] dX12_blank_1 (Nat.le_of_ble_eq_true rfl) rfl ?_
  replace hf := zb1_s hf
  obtain ⟨m5, hg, hf⟩ := hf
  have hj6 : zz K cX12_blank (3, RX12, none, 0, 0, 0, none, mo) 0 0 21 [(0, .ref x0), (1, .int x1)] [] m5 := by
    refine zr_iconst 0 dX12_blank_21 (by decide) ?_
    refine zr_istore_n [(2, .int 0), (0, .ref x0), (1, .int x1)] dX12_blank_22 (Nat.le_of_ble_eq_true rfl) rfl ?_
    replace hf := zb1_s hf
    obtain ⟨m16, hg, hf⟩ := hf
    have hj17 : zz K cX12_blank (3, RX12, none, 0, 0, 0, none, mo) 0 0 58 [(0, .ref x0), (1, .int x1)] [] m16 := by
      refine zr_aload_n 0 dX12_blank_58 rfl ?_
      replace hf := zb1_s hf
      obtain ⟨v27, h28, hf⟩ := hf
      refine zr_get (zm_gR_g h28) zk12 (by decide) zl_873 dX12_blank_59 ?_
      refine zr_iconst 0 dX12_blank_62 (by decide) ?_
      refine zr_iload_n 1 dX12_blank_63 rfl ?_
      replace hf := zb1_s hf
      obtain ⟨s29, hg, hf⟩ := hf
      have hj30 : zz K cX12_blank (3, RX12, none, 0, 0, 0, none, mo) 0 0 73 [] [.int s29, .int 0, .ref v27] m16 := by
        replace hf := zb1_s hf
        obtain ⟨m31, h32, hf⟩ := hf
        refine zr_iast h32 dX12_blank_73 ?_
        cases hf
        exact zr_vret dX12_blank_74
      clear hf
      have hf := hg
      clear hg
      refine zr_if_ne 72 dX12_blank_64 (by decide) (fun hc => ?_) (fun hc => ?_)
      · rw [if_neg hc] at hf
        refine zr_iconst 0 dX12_blank_72 (by decide) ?_
        cases hf
        exact zr_lv [] rfl hj30
      · rw [if_pos hc] at hf
        refine zr_bipush 12 dX12_blank_67 (by decide) ?_
        refine zr_goto 73 dX12_blank_69 (by decide) ?_
        cases hf
        exact zr_lv [] rfl hj30
    clear hf
    have hf := hg
    clear hg
    have hL26 : ∀ (n : Nat) (x2_12 : Int32) (m13 : zM), zf2 (fX12_blank_l23 x1 x0) n x2_12 m13 = some m16 → zz K cX12_blank (3, RX12, none, 0, 0, 0, none, mo) 0 0 23 [(0, .ref x0), (1, .int x1), (2, .int x2_12)] [] m13 := by
      intro n
      induction n with
      | zero => intro x2_12 m13 hf; cases hf
      | succ n ih15 =>
        intro x2_12 m13 hf
        replace hf := zf2_s hf
        generalize zf2 (fX12_blank_l23 x1 x0) n = F14 at hf ih15
        unfold fX12_blank_l23 at hf
        refine zr_iload_n 2 dX12_blank_23 rfl ?_
        refine zr_bipush 8 dX12_blank_24 (by decide) ?_
        refine zr_icmp_ge 58 dX12_blank_26 (by decide) (fun hc => ?_) (fun hc => ?_)
        · rw [if_pos hc] at hf
          cases hf
          exact zr_lv [0, 1] rfl hj17
        · rw [if_neg hc] at hf
          refine zr_iload_n 1 dX12_blank_29 rfl ?_
          refine zr_if_ne 58 dX12_blank_30 (by decide) (fun hc => ?_) (fun hc => ?_)
          · rw [if_neg hc] at hf
            cases hf
            exact zr_lv [0, 1] rfl hj17
          · rw [if_pos hc] at hf
            refine zr_aload_n 0 dX12_blank_33 rfl ?_
            replace hf := zb1_s hf
            obtain ⟨v18, h19, hf⟩ := hf
            refine zr_get (zm_gR_g h19) zk12 (by decide) zl_873 dX12_blank_34 ?_
            refine zr_iconst 3 dX12_blank_37 (by decide) ?_
            refine zr_iload_n 2 dX12_blank_38 rfl ?_
            refine zr_iadd dX12_blank_39 ?_
            refine zr_iload_n 2 dX12_blank_40 rfl ?_
            replace hf := zb1_s hf
            obtain ⟨m20, h21, hf⟩ := hf
            refine zr_iast h21 dX12_blank_41 ?_
            refine zr_aload_n 0 dX12_blank_42 rfl ?_
            replace hf := zb1_s hf
            obtain ⟨v22, h23, hf⟩ := hf
            refine zr_get (zm_gR_g h23) zk12 (by decide) zl_873 dX12_blank_43 ?_
            refine zr_bipush 19 dX12_blank_46 (by decide) ?_
            refine zr_iload_n 2 dX12_blank_48 rfl ?_
            refine zr_iadd dX12_blank_49 ?_
            refine zr_iconst 1 dX12_blank_50 (by decide) ?_
            replace hf := zb1_s hf
            obtain ⟨m24, h25, hf⟩ := hf
            refine zr_iast h25 dX12_blank_51 ?_
            refine zr_iinc (j := 2) (x2_12 + 1) [(2, .int (x2_12 + 1)), (0, .ref x0), (1, .int x1)] dX12_blank_52 rfl rfl (Nat.le_of_ble_eq_true rfl) rfl ?_
            refine zr_goto 23 dX12_blank_55 (by decide) ?_
            exact zr_lv [1, 2, 0] rfl (ih15 (x2_12 + 1) m24 hf)
    exact zr_lv [1, 2, 0] rfl (hL26 _ 0 m5 hf)
  clear hf
  have hf := hg
  clear hg
  have hL11 : ∀ (n : Nat) (x2_1 : Int32) (m2 : zM), zf2 (fX12_blank_l2 x0) n x2_1 m2 = some m5 → zz K cX12_blank (3, RX12, none, 0, 0, 0, none, mo) 0 0 2 [(0, .ref x0), (1, .int x1), (2, .int x2_1)] [] m2 := by
    intro n
    induction n with
    | zero => intro x2_1 m2 hf; cases hf
    | succ n ih4 =>
      intro x2_1 m2 hf
      replace hf := zf2_s hf
      generalize zf2 (fX12_blank_l2 x0) n = F3 at hf ih4
      unfold fX12_blank_l2 at hf
      refine zr_iload_n 2 dX12_blank_2 rfl ?_
      refine zr_bipush 121 dX12_blank_3 (by decide) ?_
      refine zr_icmp_ge 21 dX12_blank_5 (by decide) (fun hc => ?_) (fun hc => ?_)
      · rw [if_pos hc] at hf
        cases hf
        exact zr_lv [0, 1] rfl hj6
      · rw [if_neg hc] at hf
        refine zr_aload_n 0 dX12_blank_8 rfl ?_
        replace hf := zb1_s hf
        obtain ⟨v7, h8, hf⟩ := hf
        refine zr_get (zm_gR_g h8) zk12 (by decide) zl_873 dX12_blank_9 ?_
        refine zr_iload_n 2 dX12_blank_12 rfl ?_
        refine zr_iconst 0 dX12_blank_13 (by decide) ?_
        replace hf := zb1_s hf
        obtain ⟨m9, h10, hf⟩ := hf
        refine zr_iast h10 dX12_blank_14 ?_
        refine zr_iinc (j := 2) (x2_1 + 1) [(2, .int (x2_1 + 1)), (0, .ref x0), (1, .int x1)] dX12_blank_15 rfl rfl (Nat.le_of_ble_eq_true rfl) rfl ?_
        refine zr_goto 2 dX12_blank_18 (by decide) ?_
        exact zr_lv [1, 2, 0] rfl (ih4 (x2_1 + 1) m9 hf)
  exact zr_lv [1, 2, 0] rfl (hL11 _ 0 μ hf)
theorem zl_1002 : Cond.code yX12_blank cX12_blank 3 (none) ∈ zt := zt_at 1535 (by decide +kernel)
theorem zvs_X12_blank : zvS yX12_blank cX12_blank 3 (none) 1 := ⟨zl_1002, zl_893, ⟨by decide +kernel, by decide +kernel, by decide +kernel⟩, by decide⟩
theorem zl_1003 : Cond.methodLink RX12 246 yX12_blank ∈ zt := zt_at 1532 (by decide +kernel)
theorem zl_1004 : Cond.instanceMethod yX12_blank ∈ zt := zt_at 1534 (by decide +kernel)
theorem zl_1005 : Cond.selects RX12 yX12_blank yX12_blank ∈ zt := zt_at 50 (by decide +kernel)
theorem zl_1006 : Cond.code yX12_lines cX12_lines 4 (some .boolean) ∈ zt := zt_at 1547 (by decide +kernel)
theorem zvs_X12_lines : zvS yX12_lines cX12_lines 4 (some .boolean) 1 := ⟨zl_1006, zl_893, ⟨by decide +kernel, by decide +kernel, by decide +kernel⟩, by decide⟩
theorem zl_1007 : Cond.methodLink RX12 249 yX12_lines ∈ zt := zt_at 1544 (by decide +kernel)
theorem zl_1008 : Cond.instanceMethod yX12_lines ∈ zt := zt_at 1546 (by decide +kernel)
theorem zl_1009 : Cond.selects RX12 yX12_lines yX12_lines ∈ zt := zt_at 53 (by decide +kernel)
theorem dX12_readText_0 : decode cX12_readText 0 = .ok (.aload_n 0, 1) := by decide +kernel
theorem dX12_readText_1 : decode cX12_readText 1 = .ok (.iload_n 1, 1) := by decide +kernel
theorem dX12_readText_2 : decode cX12_readText 2 = .ok (.invokevirtual 246, 3) := by decide +kernel
theorem dX12_readText_5 : decode cX12_readText 5 = .ok (.aload_n 0, 1) := by decide +kernel
theorem dX12_readText_6 : decode cX12_readText 6 = .ok (.iconst (-1), 1) := by decide +kernel
theorem dX12_readText_7 : decode cX12_readText 7 = .ok (.putfield 165, 3) := by decide +kernel
theorem dX12_readText_10 : decode cX12_readText 10 = .ok (.aload_n 0, 1) := by decide +kernel
theorem dX12_readText_11 : decode cX12_readText 11 = .ok (.iconst 0, 1) := by decide +kernel
theorem dX12_readText_12 : decode cX12_readText 12 = .ok (.putfield 109, 3) := by decide +kernel
theorem dX12_readText_15 : decode cX12_readText 15 = .ok (.aload_n 0, 1) := by decide +kernel
theorem dX12_readText_16 : decode cX12_readText 16 = .ok (.iconst 0, 1) := by decide +kernel
theorem dX12_readText_17 : decode cX12_readText 17 = .ok (.putfield 135, 3) := by decide +kernel
theorem dX12_readText_20 : decode cX12_readText 20 = .ok (.aload_n 0, 1) := by decide +kernel
theorem dX12_readText_21 : decode cX12_readText 21 = .ok (.invokevirtual 153, 3) := by decide +kernel
theorem dX12_readText_24 : decode cX12_readText 24 = .ok (.aload_n 0, 1) := by decide +kernel
theorem dX12_readText_25 : decode cX12_readText 25 = .ok (.iload_n 1, 1) := by decide +kernel
theorem dX12_readText_26 : decode cX12_readText 26 = .ok (.invokevirtual 249, 3) := by decide +kernel
theorem dX12_readText_29 : decode cX12_readText 29 = .ok (.istore_n 2, 1) := by decide +kernel
theorem dX12_readText_30 : decode cX12_readText 30 = .ok (.iload_n 2, 1) := by decide +kernel
theorem dX12_readText_31 : decode cX12_readText 31 = .ok (.ifCond .eq 36, 3) := by decide +kernel
theorem dX12_readText_34 : decode cX12_readText 34 = .ok (.iload_n 1, 1) := by decide +kernel
theorem dX12_readText_35 : decode cX12_readText 35 = .ok (.ifCond .ne 32, 3) := by decide +kernel
theorem dX12_readText_38 : decode cX12_readText 38 = .ok (.aload_n 0, 1) := by decide +kernel
theorem dX12_readText_39 : decode cX12_readText 39 = .ok (.getfield 135, 3) := by decide +kernel
theorem dX12_readText_42 : decode cX12_readText 42 = .ok (.ifCond .ne 25, 3) := by decide +kernel
theorem dX12_readText_45 : decode cX12_readText 45 = .ok (.aload_n 0, 1) := by decide +kernel
theorem dX12_readText_46 : decode cX12_readText 46 = .ok (.getfield 165, 3) := by decide +kernel
theorem dX12_readText_49 : decode cX12_readText 49 = .ok (.aload_n 0, 1) := by decide +kernel
theorem dX12_readText_50 : decode cX12_readText 50 = .ok (.getfield 38, 3) := by decide +kernel
theorem dX12_readText_53 : decode cX12_readText 53 = .ok (.iconst 0, 1) := by decide +kernel
theorem dX12_readText_54 : decode cX12_readText 54 = .ok (.iaload, 1) := by decide +kernel
theorem dX12_readText_55 : decode cX12_readText 55 = .ok (.if_icmp .le 12, 3) := by decide +kernel
theorem dX12_readText_58 : decode cX12_readText 58 = .ok (.aload_n 0, 1) := by decide +kernel
theorem dX12_readText_59 : decode cX12_readText 59 = .ok (.iconst 4, 1) := by decide +kernel
theorem dX12_readText_60 : decode cX12_readText 60 = .ok (.aload_n 0, 1) := by decide +kernel
theorem dX12_readText_61 : decode cX12_readText 61 = .ok (.getfield 119, 3) := by decide +kernel
theorem dX12_readText_64 : decode cX12_readText 64 = .ok (.invokevirtual 145, 3) := by decide +kernel
theorem dX12_readText_67 : decode cX12_readText 67 = .ok (.aload_n 0, 1) := by decide +kernel
theorem dX12_readText_68 : decode cX12_readText 68 = .ok (.getfield 17, 3) := by decide +kernel
theorem dX12_readText_71 : decode cX12_readText 71 = .ok (.iconst 0, 1) := by decide +kernel
theorem dX12_readText_72 : decode cX12_readText 72 = .ok (.iload_n 2, 1) := by decide +kernel
theorem dX12_readText_73 : decode cX12_readText 73 = .ok (.ifCond .eq 10, 3) := by decide +kernel
theorem dX12_readText_76 : decode cX12_readText 76 = .ok (.aload_n 0, 1) := by decide +kernel
theorem dX12_readText_77 : decode cX12_readText 77 = .ok (.getfield 135, 3) := by decide +kernel
theorem dX12_readText_80 : decode cX12_readText 80 = .ok (.goto 4, 3) := by decide +kernel
theorem dX12_readText_83 : decode cX12_readText 83 = .ok (.iconst 1, 1) := by decide +kernel
theorem dX12_readText_84 : decode cX12_readText 84 = .ok (.iastore, 1) := by decide +kernel
theorem dX12_readText_85 : decode cX12_readText 85 = .ok (.aload_n 0, 1) := by decide +kernel
theorem dX12_readText_86 : decode cX12_readText 86 = .ok (.getfield 20, 3) := by decide +kernel
theorem dX12_readText_89 : decode cX12_readText 89 = .ok (.iconst 0, 1) := by decide +kernel
theorem dX12_readText_90 : decode cX12_readText 90 = .ok (.iload_n 2, 1) := by decide +kernel
theorem dX12_readText_91 : decode cX12_readText 91 = .ok (.ifCond .ne 10, 3) := by decide +kernel
theorem dX12_readText_94 : decode cX12_readText 94 = .ok (.aload_n 0, 1) := by decide +kernel
theorem dX12_readText_95 : decode cX12_readText 95 = .ok (.getfield 132, 3) := by decide +kernel
theorem dX12_readText_98 : decode cX12_readText 98 = .ok (.goto 18, 3) := by decide +kernel
theorem dX12_readText_101 : decode cX12_readText 101 = .ok (.aload_n 0, 1) := by decide +kernel
theorem dX12_readText_102 : decode cX12_readText 102 = .ok (.getfield 135, 3) := by decide +kernel
theorem dX12_readText_105 : decode cX12_readText 105 = .ok (.ifCond .le 10, 3) := by decide +kernel
theorem dX12_readText_108 : decode cX12_readText 108 = .ok (.aload_n 0, 1) := by decide +kernel
theorem dX12_readText_109 : decode cX12_readText 109 = .ok (.getfield 138, 3) := by decide +kernel
theorem dX12_readText_112 : decode cX12_readText 112 = .ok (.goto 4, 3) := by decide +kernel
theorem dX12_readText_115 : decode cX12_readText 115 = .ok (.iconst (-1), 1) := by decide +kernel
theorem dX12_readText_116 : decode cX12_readText 116 = .ok (.iastore, 1) := by decide +kernel
theorem dX12_readText_117 : decode cX12_readText 117 = .ok (.aload_n 0, 1) := by decide +kernel
theorem dX12_readText_118 : decode cX12_readText 118 = .ok (.getfield 17, 3) := by decide +kernel
theorem dX12_readText_121 : decode cX12_readText 121 = .ok (.iconst 0, 1) := by decide +kernel
theorem dX12_readText_122 : decode cX12_readText 122 = .ok (.iaload, 1) := by decide +kernel
theorem dX12_readText_123 : decode cX12_readText 123 = .ok (.ifCond .ne 7, 3) := by decide +kernel
theorem dX12_readText_126 : decode cX12_readText 126 = .ok (.iconst 1, 1) := by decide +kernel
theorem dX12_readText_127 : decode cX12_readText 127 = .ok (.goto 4, 3) := by decide +kernel
theorem dX12_readText_130 : decode cX12_readText 130 = .ok (.iconst 0, 1) := by decide +kernel
theorem dX12_readText_131 : decode cX12_readText 131 = .ok (.ireturn, 1) := by decide +kernel
noncomputable def fX12_readText (μ : zM) (x0 : Nat) (x1 : Int32) : Option (Int32 × zM) := zgd (zm_ck μ 12 x0) <|
  zb1 (fX12_blank μ x0 x1) fun m2 =>
  zb1 (zm_p m2 12 x0 21 (.int (-1))) fun m3 =>
  zb1 (zm_p m3 12 x0 10 (.int 0)) fun m5 =>
  zb1 (zm_p m5 12 x0 17 (.int 0)) fun m7 =>
  zb1 (fX12_token m7 x0) fun m10 =>
  zb2 (fX12_lines m10 x0 x1) fun v13 m12 =>
  zc1 (if v13 = 0 then (
  some m12)
  else (
  if x1 = 0 then (
  zb1 (zm_gI m12 12 x0 17) fun v44 =>
  if v44 = 0 then (
  zb1 (zm_gI m12 12 x0 21) fun v46 =>
  zb1 (zm_gR m12 12 x0 19) fun v48 =>
  zb1 (zm_aI m12 0 v48 0) fun v50 =>
  if v46 ≤ v50 then (
  some m12)
  else (
  zb1 (zm_gI m12 12 x0 12) fun v52 =>
  zb1 (fX12_later m12 x0 4 v52) fun m55 =>
  some m55))
  else (
  some m12))
  else (
  some m12)) : Option (zM)) fun (m14 : zM) =>
  zb1 (zm_gR m14 12 x0 3) fun v16 =>
  zb1 (if v13 = 0 then (
  some 1)
  else (
  zb1 (zm_gI m14 12 x0 17) fun v42 =>
  some v42) : Option (Int32)) fun (s18 : Int32) =>
  zb1 (zm_sI m14 0 v16 0 s18) fun m20 =>
  zb1 (zm_gR m20 12 x0 4) fun v22 =>
  zb1 (if v13 = 0 then (
  zb1 (zm_gI m20 12 x0 16) fun v40 =>
  some v40)
  else (
  zb1 (zm_gI m20 12 x0 17) fun v36 =>
  if v36 ≤ 0 then (
  some (-1))
  else (
  zb1 (zm_gI m20 12 x0 18) fun v38 =>
  some v38)) : Option (Int32)) fun (s24 : Int32) =>
  zb1 (zm_sI m20 0 v22 0 s24) fun m26 =>
  zb1 (zm_gR m26 12 x0 3) fun v28 =>
  zb1 (zm_aI m26 0 v28 0) fun v30 =>
  zb1 (if v30 = 0 then (
  some 1)
  else (
  some 0) : Option (Int32)) fun (s32 : Int32) =>
  zb1 (zbz s32) fun v34 =>
  some (v34, m26)
theorem fX12_readText_ck {μ : zM} {x0 : Nat} {x1 : Int32} {z : Int32 × zM} (h : fX12_readText μ x0 x1 = some z) : zm_ck μ 12 x0 = true := (zgd_s h).1
set_option maxHeartbeats 4000000 in
set_option maxRecDepth 100000 in
theorem cX12_readText_ok {μ : zM} {x0 : Nat} {x1 : Int32} {r : Int32} {mo : zM} (hf : fX12_readText μ x0 x1 = some (r, mo)) : zC yX12_readText cX12_readText 3 (some .boolean) 7 0 0 [.ref x0, .int x1] μ (some (.int r)) mo := by
  replace hf := (zgd_s hf).2
  refine zC.of (by decide) (Nat.le_of_ble_eq_true rfl) (fun K hin => ?_)
  clear hin
  show zz K cX12_readText (3, RX12, some .boolean, 7, 0, 0, some (.int r), mo) 0 0 0 [(0, .ref x0), (1, .int x1)] [] μ
  refine zr_aload_n 0 dX12_readText_0 rfl ?_
  refine zr_iload_n 1 dX12_readText_1 rfl ?_
  replace hf := zb1_s hf
  obtain ⟨m2, h1, hf⟩ := hf
  refine zr_callV (ci := 12) [.int x1] (cX12_blank_ok h1) zvs_X12_blank zl_1004 zl_1005 (fX12_blank_ck h1) rfl rfl zl_1003 rfl (Nat.le_of_ble_eq_true rfl) (Nat.le_of_ble_eq_true rfl) (Nat.le_of_ble_eq_true rfl) (Nat.le_of_ble_eq_true rfl) dX12_readText_2 rfl ?_
  refine zr_aload_n 0 dX12_readText_5 rfl ?_
  refine zr_iconst (-1) dX12_readText_6 (by decide) ?_
  replace hf := zb1_s hf
  obtain ⟨m3, h4, hf⟩ := hf
  refine zr_put h4 zk12 (by decide) zl_937 rfl rfl rfl dX12_readText_7 ?_
  refine zr_aload_n 0 dX12_readText_10 rfl ?_
  refine zr_iconst 0 dX12_readText_11 (by decide) ?_
  replace hf := zb1_s hf
  obtain ⟨m5, h6, hf⟩ := hf
  refine zr_put h6 zk12 (by decide) zl_904 rfl rfl rfl dX12_readText_12 ?_
  refine zr_aload_n 0 dX12_readText_15 rfl ?_
  refine zr_iconst 0 dX12_readText_16 (by decide) ?_
  replace hf := zb1_s hf
  obtain ⟨m7, h8, hf⟩ := hf
  refine zr_put h8 zk12 (by decide) zl_915 rfl rfl rfl dX12_readText_17 ?_
  refine zr_aload_n 0 dX12_readText_20 rfl ?_
  replace hf := zb1_s hf
  obtain ⟨m10, h9, hf⟩ := hf
  refine zr_callV (ci := 12) [] (cX12_token_ok h9) zvs_X12_token zl_919 zl_920 (fX12_token_ck h9) rfl rfl zl_918 rfl (Nat.le_of_ble_eq_true rfl) (Nat.le_of_ble_eq_true rfl) (Nat.le_of_ble_eq_true rfl) (Nat.le_of_ble_eq_true rfl) dX12_readText_21 rfl ?_
  refine zr_aload_n 0 dX12_readText_24 rfl ?_
  refine zr_iload_n 1 dX12_readText_25 rfl ?_
  replace hf := zb2_s hf
  obtain ⟨v13, m12, h11, hf⟩ := hf
  refine zr_callV (ci := 12) [.int x1] (cX12_lines_ok h11) zvs_X12_lines zl_1008 zl_1009 (fX12_lines_ck h11) rfl rfl zl_1007 rfl (Nat.le_of_ble_eq_true rfl) (Nat.le_of_ble_eq_true rfl) (Nat.le_of_ble_eq_true rfl) (Nat.le_of_ble_eq_true rfl) dX12_readText_26 rfl ?_
  refine zr_istore_n [(2, .int v13), (0, .ref x0), (1, .int x1)] dX12_readText_29 (Nat.le_of_ble_eq_true rfl) rfl ?_
  refine zr_iload_n 0 dX12_readText_30 rfl ?_
  replace hf := zc1_s hf
  obtain ⟨m14, hg, hf⟩ := hf
  have hj15 : zz K cX12_readText (3, RX12, some .boolean, 7, 0, 0, some (.int r), mo) 0 0 67 [(0, .ref x0), (2, .int v13)] [] m14 := by
    refine zr_aload_n 0 dX12_readText_67 rfl ?_
    replace hf := zb1_s hf
    obtain ⟨v16, h17, hf⟩ := hf
    refine zr_get (zm_gR_g h17) zk12 (by decide) zl_866 dX12_readText_68 ?_
    refine zr_iconst 0 dX12_readText_71 (by decide) ?_
    refine zr_iload_n 1 dX12_readText_72 rfl ?_
    replace hf := zb1_s hf
    obtain ⟨s18, hg, hf⟩ := hf
    have hj19 : zz K cX12_readText (3, RX12, some .boolean, 7, 0, 0, some (.int r), mo) 0 0 84 [(0, .ref x0), (2, .int v13)] [.int s18, .int 0, .ref v16] m14 := by
      replace hf := zb1_s hf
      obtain ⟨m20, h21, hf⟩ := hf
      refine zr_iast h21 dX12_readText_84 ?_
      refine zr_aload_n 0 dX12_readText_85 rfl ?_
      replace hf := zb1_s hf
      obtain ⟨v22, h23, hf⟩ := hf
      refine zr_get (zm_gR_g h23) zk12 (by decide) zl_867 dX12_readText_86 ?_
      refine zr_iconst 0 dX12_readText_89 (by decide) ?_
      refine zr_iload_n 1 dX12_readText_90 rfl ?_
      replace hf := zb1_s hf
      obtain ⟨s24, hg, hf⟩ := hf
      have hj25 : zz K cX12_readText (3, RX12, some .boolean, 7, 0, 0, some (.int r), mo) 0 0 116 [(0, .ref x0)] [.int s24, .int 0, .ref v22] m20 := by
        replace hf := zb1_s hf
        obtain ⟨m26, h27, hf⟩ := hf
        refine zr_iast h27 dX12_readText_116 ?_
        refine zr_aload_n 0 dX12_readText_117 rfl ?_
        replace hf := zb1_s hf
        obtain ⟨v28, h29, hf⟩ := hf
        refine zr_get (zm_gR_g h29) zk12 (by decide) zl_866 dX12_readText_118 ?_
        refine zr_iconst 0 dX12_readText_121 (by decide) ?_
        replace hf := zb1_s hf
        obtain ⟨v30, h31, hf⟩ := hf
        refine zr_iald h31 dX12_readText_122 ?_
        replace hf := zb1_s hf
        obtain ⟨s32, hg, hf⟩ := hf
        have hj33 : zz K cX12_readText (3, RX12, some .boolean, 7, 0, 0, some (.int r), mo) 0 0 131 [] [.int s32] m26 := by
          replace hf := zb1_s hf
          obtain ⟨v34, hn35, hf⟩ := hf
          replace hn35 := zbz_s hn35
          obtain ⟨hn35, rfl⟩ := hn35
          cases hf
          exact zr_zret hn35 dX12_readText_131
        clear hf
        have hf := hg
        clear hg
        refine zr_if_ne 130 dX12_readText_123 (by decide) (fun hc => ?_) (fun hc => ?_)
        · rw [if_neg hc] at hf
          refine zr_iconst 0 dX12_readText_130 (by decide) ?_
          cases hf
          exact zr_lv [] rfl hj33
        · rw [if_pos hc] at hf
          refine zr_iconst 1 dX12_readText_126 (by decide) ?_
          refine zr_goto 131 dX12_readText_127 (by decide) ?_
          cases hf
          exact zr_lv [] rfl hj33
      clear hf
      have hf := hg
      clear hg
      refine zr_if_ne 101 dX12_readText_91 (by decide) (fun hc => ?_) (fun hc => ?_)
      · rw [if_neg hc] at hf
        refine zr_aload_n 0 dX12_readText_101 rfl ?_
        replace hf := zb1_s hf
        obtain ⟨v36, h37, hf⟩ := hf
        refine zr_get (zm_gI_g h37) zk12 (by decide) zl_915 dX12_readText_102 ?_
        refine zr_if_le 115 dX12_readText_105 (by decide) (fun hc => ?_) (fun hc => ?_)
        · rw [if_pos hc] at hf
          refine zr_iconst (-1) dX12_readText_115 (by decide) ?_
          cases hf
          exact zr_lv [0] rfl hj25
        · rw [if_neg hc] at hf
          refine zr_aload_n 0 dX12_readText_108 rfl ?_
          replace hf := zb1_s hf
          obtain ⟨v38, h39, hf⟩ := hf
          refine zr_get (zm_gI_g h39) zk12 (by decide) zl_916 dX12_readText_109 ?_
          refine zr_goto 116 dX12_readText_112 (by decide) ?_
          cases hf
          exact zr_lv [0] rfl hj25
      · rw [if_pos hc] at hf
        refine zr_aload_n 0 dX12_readText_94 rfl ?_
        replace hf := zb1_s hf
        obtain ⟨v40, h41, hf⟩ := hf
        refine zr_get (zm_gI_g h41) zk12 (by decide) zl_914 dX12_readText_95 ?_
        refine zr_goto 116 dX12_readText_98 (by decide) ?_
        cases hf
        exact zr_lv [0] rfl hj25
    clear hf
    have hf := hg
    clear hg
    refine zr_if_eq 83 dX12_readText_73 (by decide) (fun hc => ?_) (fun hc => ?_)
    · rw [if_pos hc] at hf
      refine zr_iconst 1 dX12_readText_83 (by decide) ?_
      cases hf
      exact zr_lv [0, 1] rfl hj19
    · rw [if_neg hc] at hf
      refine zr_aload_n 0 dX12_readText_76 rfl ?_
      replace hf := zb1_s hf
      obtain ⟨v42, h43, hf⟩ := hf
      refine zr_get (zm_gI_g h43) zk12 (by decide) zl_915 dX12_readText_77 ?_
      refine zr_goto 84 dX12_readText_80 (by decide) ?_
      cases hf
      exact zr_lv [0, 1] rfl hj19
  clear hf
  have hf := hg
  clear hg
  refine zr_if_eq 67 dX12_readText_31 (by decide) (fun hc => ?_) (fun hc => ?_)
  · rw [if_pos hc] at hf
    cases hf
    exact zr_lv [1, 0] rfl hj15
  · rw [if_neg hc] at hf
    refine zr_iload_n 2 dX12_readText_34 rfl ?_
    refine zr_if_ne 67 dX12_readText_35 (by decide) (fun hc => ?_) (fun hc => ?_)
    · rw [if_neg hc] at hf
      cases hf
      exact zr_lv [1, 0] rfl hj15
    · rw [if_pos hc] at hf
      refine zr_aload_n 1 dX12_readText_38 rfl ?_
      replace hf := zb1_s hf
      obtain ⟨v44, h45, hf⟩ := hf
      refine zr_get (zm_gI_g h45) zk12 (by decide) zl_915 dX12_readText_39 ?_
      refine zr_if_ne 67 dX12_readText_42 (by decide) (fun hc => ?_) (fun hc => ?_)
      · rw [if_neg hc] at hf
        cases hf
        exact zr_lv [1, 0] rfl hj15
      · rw [if_pos hc] at hf
        refine zr_aload_n 1 dX12_readText_45 rfl ?_
        replace hf := zb1_s hf
        obtain ⟨v46, h47, hf⟩ := hf
        refine zr_get (zm_gI_g h47) zk12 (by decide) zl_937 dX12_readText_46 ?_
        refine zr_aload_n 1 dX12_readText_49 rfl ?_
        replace hf := zb1_s hf
        obtain ⟨v48, h49, hf⟩ := hf
        refine zr_get (zm_gR_g h49) zk12 (by decide) zl_873 dX12_readText_50 ?_
        refine zr_iconst 0 dX12_readText_53 (by decide) ?_
        replace hf := zb1_s hf
        obtain ⟨v50, h51, hf⟩ := hf
        refine zr_iald h51 dX12_readText_54 ?_
        refine zr_icmp_le 67 dX12_readText_55 (by decide) (fun hc => ?_) (fun hc => ?_)
        · rw [if_pos hc] at hf
          cases hf
          exact zr_lv [1, 0] rfl hj15
        · rw [if_neg hc] at hf
          refine zr_aload_n 1 dX12_readText_58 rfl ?_
          refine zr_iconst 4 dX12_readText_59 (by decide) ?_
          refine zr_aload_n 1 dX12_readText_60 rfl ?_
          replace hf := zb1_s hf
          obtain ⟨v52, h53, hf⟩ := hf
          refine zr_get (zm_gI_g h53) zk12 (by decide) zl_910 dX12_readText_61 ?_
          replace hf := zb1_s hf
          obtain ⟨m55, h54, hf⟩ := hf
          refine zr_callV (ci := 12) [.int 4, .int v52] (cX12_later_ok h54) zvs_X12_later zl_923 zl_924 (fX12_later_ck h54) rfl rfl zl_922 rfl (Nat.le_of_ble_eq_true rfl) (Nat.le_of_ble_eq_true rfl) (Nat.le_of_ble_eq_true rfl) (Nat.le_of_ble_eq_true rfl) dX12_readText_64 rfl ?_
          cases hf
          exact zr_lv [1, 0] rfl hj15
theorem dX12_store_0 : decode cX12_store 0 = .ok (.iconst 0, 1) := by decide +kernel
theorem dX12_store_1 : decode cX12_store 1 = .ok (.istore 4, 2) := by decide +kernel
theorem dX12_store_3 : decode cX12_store 3 = .ok (.iload 4, 2) := by decide +kernel
theorem dX12_store_5 : decode cX12_store 5 = .ok (.iload_n 2, 1) := by decide +kernel
theorem dX12_store_6 : decode cX12_store 6 = .ok (.if_icmp .ge 24, 3) := by decide +kernel
theorem dX12_store_9 : decode cX12_store 9 = .ok (.aload_n 1, 1) := by decide +kernel
theorem dX12_store_10 : decode cX12_store 10 = .ok (.iload_n 2, 1) := by decide +kernel
theorem dX12_store_11 : decode cX12_store 11 = .ok (.iload_n 3, 1) := by decide +kernel
theorem dX12_store_12 : decode cX12_store 12 = .ok (.imul, 1) := by decide +kernel
theorem dX12_store_13 : decode cX12_store 13 = .ok (.iload 4, 2) := by decide +kernel
theorem dX12_store_15 : decode cX12_store 15 = .ok (.iadd, 1) := by decide +kernel
theorem dX12_store_16 : decode cX12_store 16 = .ok (.aload_n 0, 1) := by decide +kernel
theorem dX12_store_17 : decode cX12_store 17 = .ok (.getfield 38, 3) := by decide +kernel
theorem dX12_store_20 : decode cX12_store 20 = .ok (.iload 4, 2) := by decide +kernel
theorem dX12_store_22 : decode cX12_store 22 = .ok (.iaload, 1) := by decide +kernel
theorem dX12_store_23 : decode cX12_store 23 = .ok (.iastore, 1) := by decide +kernel
theorem dX12_store_24 : decode cX12_store 24 = .ok (.iinc 4 1, 3) := by decide +kernel
theorem dX12_store_27 : decode cX12_store 27 = .ok (.goto (-24), 3) := by decide +kernel
theorem dX12_store_30 : decode cX12_store 30 = .ok (.return_, 1) := by decide +kernel
noncomputable def fX12_store_l3 (x2 : Int32) (x0 : Nat) (x1 : Nat) (x3 : Int32) (F3 : Int32 → zM → Option (zM)) (x4_1 : Int32) (m2 : zM) : Option (zM) :=
  if x2 ≤ x4_1 then (
  some m2)
  else (
  zb1 (zm_gR m2 12 x0 19) fun v7 =>
  zb1 (zm_aI m2 0 v7 x4_1) fun v9 =>
  zb1 (zm_sI m2 0 x1 ((x2 * x3) + x4_1) v9) fun m11 =>
  F3 (x4_1 + 1) m11)
noncomputable def fX12_store (μ : zM) (x0 : Nat) (x1 : Nat) (x2 : Int32) (x3 : Int32) : Option (zM) := zgd (zm_ck μ 12 x0) <|
  zb1 (zf2 (fX12_store_l3 x2 x0 x1 x3) zfu 0 μ : Option (zM)) fun (m5 : zM) =>
  some m5
theorem fX12_store_ck {μ : zM} {x0 : Nat} {x1 : Nat} {x2 : Int32} {x3 : Int32} {z : zM} (h : fX12_store μ x0 x1 x2 x3 = some z) : zm_ck μ 12 x0 = true := (zgd_s h).1
set_option maxHeartbeats 4000000 in
set_option maxRecDepth 100000 in
theorem cX12_store_ok {μ : zM} {x0 : Nat} {x1 : Nat} {x2 : Int32} {x3 : Int32} {mo : zM} (hf : fX12_store μ x0 x1 x2 x3 = some mo) : zC yX12_store cX12_store 5 (none) 0 0 0 [.ref x0, .ref x1, .int x2, .int x3] μ (none) mo := by
  replace hf := (zgd_s hf).2
  refine zC.of (by decide) (Nat.le_of_ble_eq_true rfl) (fun K hin => ?_)
  clear hin
  show zz K cX12_store (5, RX12, none, 0, 0, 0, none, mo) 0 0 0 [(0, .ref x0), (1, .ref x1), (2, .int x2), (3, .int x3)] [] μ
  refine zr_iconst 0 dX12_store_0 (by decide) ?_
  refine zr_istore [(4, .int 0), (0, .ref x0), (1, .ref x1), (2, .int x2), (3, .int x3)] dX12_store_1 (Nat.le_of_ble_eq_true rfl) rfl ?_
  replace hf := zb1_s hf
  obtain ⟨m5, hg, hf⟩ := hf
  have hj6 : zz K cX12_store (5, RX12, none, 0, 0, 0, none, mo) 0 0 30 [] [] m5 := by
    cases hf
    exact zr_vret dX12_store_30
  clear hf
  have hf := hg
  clear hg
  have hL13 : ∀ (n : Nat) (x4_1 : Int32) (m2 : zM), zf2 (fX12_store_l3 x2 x0 x1 x3) n x4_1 m2 = some m5 → zz K cX12_store (5, RX12, none, 0, 0, 0, none, mo) 0 0 3 [(0, .ref x0), (1, .ref x1), (2, .int x2), (3, .int x3), (4, .int x4_1)] [] m2 := by
    intro n
    induction n with
    | zero => intro x4_1 m2 hf; cases hf
    | succ n ih4 =>
      intro x4_1 m2 hf
      replace hf := zf2_s hf
      generalize zf2 (fX12_store_l3 x2 x0 x1 x3) n = F3 at hf ih4
      unfold fX12_store_l3 at hf
      refine zr_iload 4 dX12_store_3 rfl ?_
      refine zr_iload_n 2 dX12_store_5 rfl ?_
      refine zr_icmp_ge 30 dX12_store_6 (by decide) (fun hc => ?_) (fun hc => ?_)
      · rw [if_pos hc] at hf
        cases hf
        exact zr_lv [] rfl hj6
      · rw [if_neg hc] at hf
        refine zr_aload_n 1 dX12_store_9 rfl ?_
        refine zr_iload_n 2 dX12_store_10 rfl ?_
        refine zr_iload_n 3 dX12_store_11 rfl ?_
        refine zr_imul dX12_store_12 ?_
        refine zr_iload 4 dX12_store_13 rfl ?_
        refine zr_iadd dX12_store_15 ?_
        refine zr_aload_n 0 dX12_store_16 rfl ?_
        replace hf := zb1_s hf
        obtain ⟨v7, h8, hf⟩ := hf
        refine zr_get (zm_gR_g h8) zk12 (by decide) zl_873 dX12_store_17 ?_
        refine zr_iload 4 dX12_store_20 rfl ?_
        replace hf := zb1_s hf
        obtain ⟨v9, h10, hf⟩ := hf
        refine zr_iald h10 dX12_store_22 ?_
        replace hf := zb1_s hf
        obtain ⟨m11, h12, hf⟩ := hf
        refine zr_iast h12 dX12_store_23 ?_
        refine zr_iinc (j := 4) (x4_1 + 1) [(4, .int (x4_1 + 1)), (0, .ref x0), (1, .ref x1), (2, .int x2), (3, .int x3)] dX12_store_24 rfl rfl (Nat.le_of_ble_eq_true rfl) rfl ?_
        refine zr_goto 3 dX12_store_27 (by decide) ?_
        exact zr_lv [1, 2, 3, 4, 0] rfl (ih4 (x4_1 + 1) m11 hf)
  exact zr_lv [1, 2, 3, 4, 0] rfl (hL13 _ 0 μ hf)
theorem zl_1010 : Cond.code yX12_store cX12_store 5 (none) ∈ zt := zt_at 1634 (by decide +kernel)
theorem zvs_X12_store : zvS yX12_store cX12_store 5 (none) 3 := ⟨zl_1010, zl_893, ⟨by decide +kernel, by decide +kernel, by decide +kernel⟩, by decide⟩
theorem zl_1011 : Cond.methodLink RX12 252 yX12_store ∈ zt := zt_at 1631 (by decide +kernel)
theorem zl_1012 : Cond.instanceMethod yX12_store ∈ zt := zt_at 1633 (by decide +kernel)
theorem zl_1013 : Cond.selects RX12 yX12_store yX12_store ∈ zt := zt_at 68 (by decide +kernel)
theorem dX12_storeAll_0 : decode cX12_storeAll 0 = .ok (.iload_n 1, 1) := by decide +kernel
theorem dX12_storeAll_1 : decode cX12_storeAll 1 = .ok (.tableswitch 63 0 2 #[27, 39, 51], 27) := by decide +kernel
theorem dX12_storeAll_28 : decode cX12_storeAll 28 = .ok (.aload_n 0, 1) := by decide +kernel
theorem dX12_storeAll_29 : decode cX12_storeAll 29 = .ok (.aload_n 0, 1) := by decide +kernel
theorem dX12_storeAll_30 : decode cX12_storeAll 30 = .ok (.getfield 26, 3) := by decide +kernel
theorem dX12_storeAll_33 : decode cX12_storeAll 33 = .ok (.bipush 57, 2) := by decide +kernel
theorem dX12_storeAll_35 : decode cX12_storeAll 35 = .ok (.iload_n 2, 1) := by decide +kernel
theorem dX12_storeAll_36 : decode cX12_storeAll 36 = .ok (.invokevirtual 252, 3) := by decide +kernel
theorem dX12_storeAll_39 : decode cX12_storeAll 39 = .ok (.return_, 1) := by decide +kernel
theorem dX12_storeAll_40 : decode cX12_storeAll 40 = .ok (.aload_n 0, 1) := by decide +kernel
theorem dX12_storeAll_41 : decode cX12_storeAll 41 = .ok (.aload_n 0, 1) := by decide +kernel
theorem dX12_storeAll_42 : decode cX12_storeAll 42 = .ok (.getfield 29, 3) := by decide +kernel
theorem dX12_storeAll_45 : decode cX12_storeAll 45 = .ok (.bipush 121, 2) := by decide +kernel
theorem dX12_storeAll_47 : decode cX12_storeAll 47 = .ok (.iload_n 2, 1) := by decide +kernel
theorem dX12_storeAll_48 : decode cX12_storeAll 48 = .ok (.invokevirtual 252, 3) := by decide +kernel
theorem dX12_storeAll_51 : decode cX12_storeAll 51 = .ok (.return_, 1) := by decide +kernel
theorem dX12_storeAll_52 : decode cX12_storeAll 52 = .ok (.aload_n 0, 1) := by decide +kernel
theorem dX12_storeAll_53 : decode cX12_storeAll 53 = .ok (.aload_n 0, 1) := by decide +kernel
theorem dX12_storeAll_54 : decode cX12_storeAll 54 = .ok (.getfield 32, 3) := by decide +kernel
theorem dX12_storeAll_57 : decode cX12_storeAll 57 = .ok (.bipush 22, 2) := by decide +kernel
theorem dX12_storeAll_59 : decode cX12_storeAll 59 = .ok (.iload_n 2, 1) := by decide +kernel
theorem dX12_storeAll_60 : decode cX12_storeAll 60 = .ok (.invokevirtual 252, 3) := by decide +kernel
theorem dX12_storeAll_63 : decode cX12_storeAll 63 = .ok (.return_, 1) := by decide +kernel
theorem dX12_storeAll_64 : decode cX12_storeAll 64 = .ok (.aload_n 0, 1) := by decide +kernel
theorem dX12_storeAll_65 : decode cX12_storeAll 65 = .ok (.aload_n 0, 1) := by decide +kernel
theorem dX12_storeAll_66 : decode cX12_storeAll 66 = .ok (.getfield 35, 3) := by decide +kernel
theorem dX12_storeAll_69 : decode cX12_storeAll 69 = .ok (.bipush 33, 2) := by decide +kernel
theorem dX12_storeAll_71 : decode cX12_storeAll 71 = .ok (.iload_n 2, 1) := by decide +kernel
theorem dX12_storeAll_72 : decode cX12_storeAll 72 = .ok (.invokevirtual 252, 3) := by decide +kernel
theorem dX12_storeAll_75 : decode cX12_storeAll 75 = .ok (.return_, 1) := by decide +kernel
noncomputable def fX12_storeAll (μ : zM) (x0 : Nat) (x1 : Int32) (x2 : Int32) : Option (zM) := zgd (zm_ck μ 12 x0) <|
  if x1 = 0 then (
  zb1 (zm_gR μ 12 x0 6) fun v1 =>
  zb1 (fX12_store μ x0 v1 57 x2) fun m4 =>
  some m4)
  else (
  if x1 = 1 then (
  zb1 (zm_gR μ 12 x0 7) fun v6 =>
  zb1 (fX12_store μ x0 v6 121 x2) fun m9 =>
  some m9)
  else (
  if x1 = 2 then (
  zb1 (zm_gR μ 12 x0 8) fun v11 =>
  zb1 (fX12_store μ x0 v11 22 x2) fun m14 =>
  some m14)
  else (
  zb1 (zm_gR μ 12 x0 9) fun v16 =>
  zb1 (fX12_store μ x0 v16 33 x2) fun m19 =>
  some m19)))
theorem fX12_storeAll_ck {μ : zM} {x0 : Nat} {x1 : Int32} {x2 : Int32} {z : zM} (h : fX12_storeAll μ x0 x1 x2 = some z) : zm_ck μ 12 x0 = true := (zgd_s h).1
set_option maxHeartbeats 4000000 in
set_option maxRecDepth 100000 in
theorem cX12_storeAll_ok {μ : zM} {x0 : Nat} {x1 : Int32} {x2 : Int32} {mo : zM} (hf : fX12_storeAll μ x0 x1 x2 = some mo) : zC yX12_storeAll cX12_storeAll 3 (none) 1 0 0 [.ref x0, .int x1, .int x2] μ (none) mo := by
  replace hf := (zgd_s hf).2
  refine zC.of (by decide) (Nat.le_of_ble_eq_true rfl) (fun K hin => ?_)
  clear hin
  show zz K cX12_storeAll (3, RX12, none, 1, 0, 0, none, mo) 0 0 0 [(0, .ref x0), (1, .int x1), (2, .int x2)] [] μ
  refine zr_iload_n 1 dX12_storeAll_0 rfl ?_
  rcases zdec (x1 = 0) with hs5 | hs5
  · rw [if_pos hs5] at hf
    refine zr_tableIn (off := 27) 28 dX12_storeAll_1 (by rw [hs5]; decide) (by rw [hs5]; decide) (by rw [hs5]; rfl) (by decide) ?_
    refine zr_aload_n 0 dX12_storeAll_28 rfl ?_
    refine zr_aload_n 0 dX12_storeAll_29 rfl ?_
    replace hf := zb1_s hf
    obtain ⟨v1, h2, hf⟩ := hf
    refine zr_get (zm_gR_g h2) zk12 (by decide) zl_869 dX12_storeAll_30 ?_
    refine zr_bipush 57 dX12_storeAll_33 (by decide) ?_
    refine zr_iload_n 2 dX12_storeAll_35 rfl ?_
    replace hf := zb1_s hf
    obtain ⟨m4, h3, hf⟩ := hf
    refine zr_callV (ci := 12) [.ref v1, .int 57, .int x2] (cX12_store_ok h3) zvs_X12_store zl_1012 zl_1013 (fX12_store_ck h3) rfl rfl zl_1011 rfl (Nat.le_of_ble_eq_true rfl) (Nat.le_of_ble_eq_true rfl) (Nat.le_of_ble_eq_true rfl) (Nat.le_of_ble_eq_true rfl) dX12_storeAll_36 rfl ?_
    cases hf
    exact zr_vret dX12_storeAll_39
  rw [if_neg hs5] at hf
  rcases zdec (x1 = 1) with hs10 | hs10
  · rw [if_pos hs10] at hf
    refine zr_tableIn (off := 39) 40 dX12_storeAll_1 (by rw [hs10]; decide) (by rw [hs10]; decide) (by rw [hs10]; rfl) (by decide) ?_
    refine zr_aload_n 0 dX12_storeAll_40 rfl ?_
    refine zr_aload_n 0 dX12_storeAll_41 rfl ?_
    replace hf := zb1_s hf
    obtain ⟨v6, h7, hf⟩ := hf
    refine zr_get (zm_gR_g h7) zk12 (by decide) zl_870 dX12_storeAll_42 ?_
    refine zr_bipush 121 dX12_storeAll_45 (by decide) ?_
    refine zr_iload_n 2 dX12_storeAll_47 rfl ?_
    replace hf := zb1_s hf
    obtain ⟨m9, h8, hf⟩ := hf
    refine zr_callV (ci := 12) [.ref v6, .int 121, .int x2] (cX12_store_ok h8) zvs_X12_store zl_1012 zl_1013 (fX12_store_ck h8) rfl rfl zl_1011 rfl (Nat.le_of_ble_eq_true rfl) (Nat.le_of_ble_eq_true rfl) (Nat.le_of_ble_eq_true rfl) (Nat.le_of_ble_eq_true rfl) dX12_storeAll_48 rfl ?_
    cases hf
    exact zr_vret dX12_storeAll_51
  rw [if_neg hs10] at hf
  rcases zdec (x1 = 2) with hs15 | hs15
  · rw [if_pos hs15] at hf
    refine zr_tableIn (off := 51) 52 dX12_storeAll_1 (by rw [hs15]; decide) (by rw [hs15]; decide) (by rw [hs15]; rfl) (by decide) ?_
    refine zr_aload_n 0 dX12_storeAll_52 rfl ?_
    refine zr_aload_n 0 dX12_storeAll_53 rfl ?_
    replace hf := zb1_s hf
    obtain ⟨v11, h12, hf⟩ := hf
    refine zr_get (zm_gR_g h12) zk12 (by decide) zl_871 dX12_storeAll_54 ?_
    refine zr_bipush 22 dX12_storeAll_57 (by decide) ?_
    refine zr_iload_n 2 dX12_storeAll_59 rfl ?_
    replace hf := zb1_s hf
    obtain ⟨m14, h13, hf⟩ := hf
    refine zr_callV (ci := 12) [.ref v11, .int 22, .int x2] (cX12_store_ok h13) zvs_X12_store zl_1012 zl_1013 (fX12_store_ck h13) rfl rfl zl_1011 rfl (Nat.le_of_ble_eq_true rfl) (Nat.le_of_ble_eq_true rfl) (Nat.le_of_ble_eq_true rfl) (Nat.le_of_ble_eq_true rfl) dX12_storeAll_60 rfl ?_
    cases hf
    exact zr_vret dX12_storeAll_63
  rw [if_neg hs15] at hf
  refine zr_tableOut 64 dX12_storeAll_1 (by simp only [← Int32.toInt_inj] at hs5 hs10 hs15; simp at hs5 hs10 hs15; omega) (by decide) ?_
  refine zr_aload_n 0 dX12_storeAll_64 rfl ?_
  refine zr_aload_n 0 dX12_storeAll_65 rfl ?_
  replace hf := zb1_s hf
  obtain ⟨v16, h17, hf⟩ := hf
  refine zr_get (zm_gR_g h17) zk12 (by decide) zl_872 dX12_storeAll_66 ?_
  refine zr_bipush 33 dX12_storeAll_69 (by decide) ?_
  refine zr_iload_n 2 dX12_storeAll_71 rfl ?_
  replace hf := zb1_s hf
  obtain ⟨m19, h18, hf⟩ := hf
  refine zr_callV (ci := 12) [.ref v16, .int 33, .int x2] (cX12_store_ok h18) zvs_X12_store zl_1012 zl_1013 (fX12_store_ck h18) rfl rfl zl_1011 rfl (Nat.le_of_ble_eq_true rfl) (Nat.le_of_ble_eq_true rfl) (Nat.le_of_ble_eq_true rfl) (Nat.le_of_ble_eq_true rfl) dX12_storeAll_72 rfl ?_
  cases hf
  exact zr_vret dX12_storeAll_75
theorem zl_1014 : Cond.code yX12_readText cX12_readText 3 (some .boolean) ∈ zt := zt_at 1531 (by decide +kernel)
theorem zvs_X12_readText : zvS yX12_readText cX12_readText 3 (some .boolean) 1 := ⟨zl_1014, zl_893, ⟨by decide +kernel, by decide +kernel, by decide +kernel⟩, by decide⟩
theorem zl_1015 : Cond.methodLink RX12 260 yX12_readText ∈ zt := zt_at 1528 (by decide +kernel)
theorem zl_1016 : Cond.instanceMethod yX12_readText ∈ zt := zt_at 1530 (by decide +kernel)
theorem zl_1017 : Cond.selects RX12 yX12_readText yX12_readText ∈ zt := zt_at 49 (by decide +kernel)
theorem zl_1018 : Cond.code yX12_storeAll cX12_storeAll 3 (none) ∈ zt := zt_at 1630 (by decide +kernel)
theorem zvs_X12_storeAll : zvS yX12_storeAll cX12_storeAll 3 (none) 2 := ⟨zl_1018, zl_893, ⟨by decide +kernel, by decide +kernel, by decide +kernel⟩, by decide⟩
theorem zl_1019 : Cond.methodLink RX12 263 yX12_storeAll ∈ zt := zt_at 1627 (by decide +kernel)
theorem zl_1020 : Cond.instanceMethod yX12_storeAll ∈ zt := zt_at 1629 (by decide +kernel)
theorem zl_1021 : Cond.selects RX12 yX12_storeAll yX12_storeAll ∈ zt := zt_at 67 (by decide +kernel)
theorem zl_1022 : Cond.code yX12_is cX12_is 3 (some .boolean) ∈ zt := zt_at 1527 (by decide +kernel)
theorem zvs_X12_is : zvS yX12_is cX12_is 3 (some .boolean) 2 := ⟨zl_1022, zl_893, ⟨by decide +kernel, by decide +kernel, by decide +kernel⟩, by decide⟩
theorem zl_1023 : Cond.methodLink RX12 256 yX12_is ∈ zt := zt_at 1524 (by decide +kernel)
theorem zl_1024 : Cond.instanceMethod yX12_is ∈ zt := zt_at 1526 (by decide +kernel)
theorem zl_1025 : Cond.selects RX12 yX12_is yX12_is ∈ zt := zt_at 48 (by decide +kernel)
theorem dX12_text_0 : decode cX12_text 0 = .ok (.aload_n 0, 1) := by decide +kernel
theorem dX12_text_1 : decode cX12_text 1 = .ok (.iconst 0, 1) := by decide +kernel
theorem dX12_text_2 : decode cX12_text 2 = .ok (.putfield 93, 3) := by decide +kernel
theorem dX12_text_5 : decode cX12_text 5 = .ok (.aload_n 0, 1) := by decide +kernel
theorem dX12_text_6 : decode cX12_text 6 = .ok (.aload_n 0, 1) := by decide +kernel
theorem dX12_text_7 : decode cX12_text 7 = .ok (.getfield 13, 3) := by decide +kernel
theorem dX12_text_10 : decode cX12_text 10 = .ok (.iconst 0, 1) := by decide +kernel
theorem dX12_text_11 : decode cX12_text 11 = .ok (.iaload, 1) := by decide +kernel
theorem dX12_text_12 : decode cX12_text 12 = .ok (.putfield 112, 3) := by decide +kernel
theorem dX12_text_15 : decode cX12_text 15 = .ok (.aload_n 0, 1) := by decide +kernel
theorem dX12_text_16 : decode cX12_text 16 = .ok (.getfield 13, 3) := by decide +kernel
theorem dX12_text_19 : decode cX12_text 19 = .ok (.iconst 0, 1) := by decide +kernel
theorem dX12_text_20 : decode cX12_text 20 = .ok (.iconst 0, 1) := by decide +kernel
theorem dX12_text_21 : decode cX12_text 21 = .ok (.iastore, 1) := by decide +kernel
theorem dX12_text_22 : decode cX12_text 22 = .ok (.aload_n 0, 1) := by decide +kernel
theorem dX12_text_23 : decode cX12_text 23 = .ok (.getfield 17, 3) := by decide +kernel
theorem dX12_text_26 : decode cX12_text 26 = .ok (.iconst 0, 1) := by decide +kernel
theorem dX12_text_27 : decode cX12_text 27 = .ok (.iconst 0, 1) := by decide +kernel
theorem dX12_text_28 : decode cX12_text 28 = .ok (.iastore, 1) := by decide +kernel
theorem dX12_text_29 : decode cX12_text 29 = .ok (.aload_n 0, 1) := by decide +kernel
theorem dX12_text_30 : decode cX12_text 30 = .ok (.getfield 20, 3) := by decide +kernel
theorem dX12_text_33 : decode cX12_text 33 = .ok (.iconst 0, 1) := by decide +kernel
theorem dX12_text_34 : decode cX12_text 34 = .ok (.iconst (-1), 1) := by decide +kernel
theorem dX12_text_35 : decode cX12_text 35 = .ok (.iastore, 1) := by decide +kernel
theorem dX12_text_36 : decode cX12_text 36 = .ok (.iload_n 1, 1) := by decide +kernel
theorem dX12_text_37 : decode cX12_text 37 = .ok (.iconst 0, 1) := by decide +kernel
theorem dX12_text_38 : decode cX12_text 38 = .ok (.iconst 3, 1) := by decide +kernel
theorem dX12_text_39 : decode cX12_text 39 = .ok (.invokestatic 101, 3) := by decide +kernel
theorem dX12_text_42 : decode cX12_text 42 = .ok (.ifCond .eq 30, 3) := by decide +kernel
theorem dX12_text_45 : decode cX12_text 45 = .ok (.iload_n 2, 1) := by decide +kernel
theorem dX12_text_46 : decode cX12_text 46 = .ok (.iconst (-1), 1) := by decide +kernel
theorem dX12_text_47 : decode cX12_text 47 = .ok (.if_icmp .ne 16, 3) := by decide +kernel
theorem dX12_text_50 : decode cX12_text 50 = .ok (.aload_n 0, 1) := by decide +kernel
theorem dX12_text_51 : decode cX12_text 51 = .ok (.getfield 23, 3) := by decide +kernel
theorem dX12_text_54 : decode cX12_text 54 = .ok (.iload_n 1, 1) := by decide +kernel
theorem dX12_text_55 : decode cX12_text 55 = .ok (.iaload, 1) := by decide +kernel
theorem dX12_text_56 : decode cX12_text 56 = .ok (.iconst 2, 1) := by decide +kernel
theorem dX12_text_57 : decode cX12_text 57 = .ok (.if_icmp .ne 18, 3) := by decide +kernel
theorem dX12_text_60 : decode cX12_text 60 = .ok (.goto 12, 3) := by decide +kernel
theorem dX12_text_63 : decode cX12_text 63 = .ok (.aload_n 0, 1) := by decide +kernel
theorem dX12_text_64 : decode cX12_text 64 = .ok (.iload_n 1, 1) := by decide +kernel
theorem dX12_text_65 : decode cX12_text 65 = .ok (.iload_n 2, 1) := by decide +kernel
theorem dX12_text_66 : decode cX12_text 66 = .ok (.invokevirtual 256, 3) := by decide +kernel
theorem dX12_text_69 : decode cX12_text 69 = .ok (.ifCond .ne 6, 3) := by decide +kernel
theorem dX12_text_72 : decode cX12_text 72 = .ok (.bipush (-2), 2) := by decide +kernel
theorem dX12_text_74 : decode cX12_text 74 = .ok (.ireturn, 1) := by decide +kernel
theorem dX12_text_75 : decode cX12_text 75 = .ok (.aload_n 0, 1) := by decide +kernel
theorem dX12_text_76 : decode cX12_text 76 = .ok (.iload_n 1, 1) := by decide +kernel
theorem dX12_text_77 : decode cX12_text 77 = .ok (.invokevirtual 260, 3) := by decide +kernel
theorem dX12_text_80 : decode cX12_text 80 = .ok (.ifCond .ne 5, 3) := by decide +kernel
theorem dX12_text_83 : decode cX12_text 83 = .ok (.iconst (-1), 1) := by decide +kernel
theorem dX12_text_84 : decode cX12_text 84 = .ok (.ireturn, 1) := by decide +kernel
theorem dX12_text_85 : decode cX12_text 85 = .ok (.iload_n 2, 1) := by decide +kernel
theorem dX12_text_86 : decode cX12_text 86 = .ok (.iconst (-1), 1) := by decide +kernel
theorem dX12_text_87 : decode cX12_text 87 = .ok (.if_icmp .ne 12, 3) := by decide +kernel
theorem dX12_text_90 : decode cX12_text 90 = .ok (.aload_n 0, 1) := by decide +kernel
theorem dX12_text_91 : decode cX12_text 91 = .ok (.getfield 23, 3) := by decide +kernel
theorem dX12_text_94 : decode cX12_text 94 = .ok (.iload_n 1, 1) := by decide +kernel
theorem dX12_text_95 : decode cX12_text 95 = .ok (.iaload, 1) := by decide +kernel
theorem dX12_text_96 : decode cX12_text 96 = .ok (.goto 4, 3) := by decide +kernel
theorem dX12_text_99 : decode cX12_text 99 = .ok (.iload_n 2, 1) := by decide +kernel
theorem dX12_text_100 : decode cX12_text 100 = .ok (.istore_n 3, 1) := by decide +kernel
theorem dX12_text_101 : decode cX12_text 101 = .ok (.aload_n 0, 1) := by decide +kernel
theorem dX12_text_102 : decode cX12_text 102 = .ok (.getfield 23, 3) := by decide +kernel
theorem dX12_text_105 : decode cX12_text 105 = .ok (.iload_n 1, 1) := by decide +kernel
theorem dX12_text_106 : decode cX12_text 106 = .ok (.dup2, 1) := by decide +kernel
theorem dX12_text_107 : decode cX12_text 107 = .ok (.iaload, 1) := by decide +kernel
theorem dX12_text_108 : decode cX12_text 108 = .ok (.iload_n 2, 1) := by decide +kernel
theorem dX12_text_109 : decode cX12_text 109 = .ok (.iconst (-1), 1) := by decide +kernel
theorem dX12_text_110 : decode cX12_text 110 = .ok (.if_icmp .ne 7, 3) := by decide +kernel
theorem dX12_text_113 : decode cX12_text 113 = .ok (.iconst 1, 1) := by decide +kernel
theorem dX12_text_114 : decode cX12_text 114 = .ok (.goto 4, 3) := by decide +kernel
theorem dX12_text_117 : decode cX12_text 117 = .ok (.iconst 0, 1) := by decide +kernel
theorem dX12_text_118 : decode cX12_text 118 = .ok (.iadd, 1) := by decide +kernel
theorem dX12_text_119 : decode cX12_text 119 = .ok (.iastore, 1) := by decide +kernel
theorem dX12_text_120 : decode cX12_text 120 = .ok (.aload_n 0, 1) := by decide +kernel
theorem dX12_text_121 : decode cX12_text 121 = .ok (.iload_n 1, 1) := by decide +kernel
theorem dX12_text_122 : decode cX12_text 122 = .ok (.iload_n 3, 1) := by decide +kernel
theorem dX12_text_123 : decode cX12_text 123 = .ok (.invokevirtual 263, 3) := by decide +kernel
theorem dX12_text_126 : decode cX12_text 126 = .ok (.iload_n 3, 1) := by decide +kernel
theorem dX12_text_127 : decode cX12_text 127 = .ok (.ireturn, 1) := by decide +kernel
noncomputable def fX12_text_b75 (m19 : zM) (x0 : Nat) (x1 : Int32) (x2 : Int32) : Option (Int32 × zM) :=
  zb2 (fX12_readText m19 x0 x1) fun v25 m24 =>
  if v25 = 0 then (
  some ((-1), m24))
  else (
  zb1 (if x2 = (-1) then (
  zb1 (zm_gR m24 12 x0 5) fun v38 =>
  zb1 (zm_aI m24 0 v38 x1) fun v40 =>
  some v40)
  else (
  some x2) : Option (Int32)) fun (s26 : Int32) =>
  zb1 (zm_gR m24 12 x0 5) fun v28 =>
  zb1 (zm_aI m24 0 v28 x1) fun v30 =>
  zb1 (if x2 = (-1) then (
  some 1)
  else (
  some 0) : Option (Int32)) fun (s32 : Int32) =>
  zb1 (zm_sI m24 0 v28 x1 (v30 + s32)) fun m34 =>
  zb1 (fX12_storeAll m34 x0 x1 s26) fun m37 =>
  some (s26, m37))
noncomputable def fX12_text (μ : zM) (x0 : Nat) (x1 : Int32) (x2 : Int32) : Option (Int32 × zM) := zgd (zm_ck μ 12 x0) <|
  zb1 (zm_p μ 12 x0 0 (.int 0)) fun m1 =>
  zb1 (zm_gR m1 12 x0 2) fun v3 =>
  zb1 (zm_aI m1 0 v3 0) fun v5 =>
  zb1 (zm_p m1 12 x0 11 (.int v5)) fun m7 =>
  zb1 (zm_gR m7 12 x0 2) fun v9 =>
  zb1 (zm_sI m7 0 v9 0 0) fun m11 =>
  zb1 (zm_gR m11 12 x0 3) fun v13 =>
  zb1 (zm_sI m11 0 v13 0 0) fun m15 =>
  zb1 (zm_gR m15 12 x0 4) fun v17 =>
  zb1 (zm_sI m15 0 v17 0 (-1)) fun m19 =>
  zb1 (fX12_in m19 x1 0 3) fun v22 =>
  if v22 = 0 then (
  some ((-2), m19))
  else (
  if x2 = (-1) then (
  zb1 (zm_gR m19 12 x0 5) fun v45 =>
  zb1 (zm_aI m19 0 v45 x1) fun v47 =>
  if v47 = 2 then (
  some ((-2), m19))
  else (
  fX12_text_b75 m19 x0 x1 x2))
  else (
  zb1 (fX12_is m19 x0 x1 x2) fun v44 =>
  if v44 = 0 then (
  some ((-2), m19))
  else (
  fX12_text_b75 m19 x0 x1 x2)))
theorem fX12_text_ck {μ : zM} {x0 : Nat} {x1 : Int32} {x2 : Int32} {z : Int32 × zM} (h : fX12_text μ x0 x1 x2 = some z) : zm_ck μ 12 x0 = true := (zgd_s h).1
set_option maxHeartbeats 4000000 in
set_option maxRecDepth 100000 in
theorem cX12_text_ok {μ : zM} {x0 : Nat} {x1 : Int32} {x2 : Int32} {r : Int32} {mo : zM} (hf : fX12_text μ x0 x1 x2 = some (r, mo)) : zC yX12_text cX12_text 4 (some .int) 8 0 0 [.ref x0, .int x1, .int x2] μ (some (.int r)) mo := by
  replace hf := (zgd_s hf).2
  refine zC.of (by decide) (Nat.le_of_ble_eq_true rfl) (fun K hin => ?_)
  clear hin
  show zz K cX12_text (4, RX12, some .int, 8, 0, 0, some (.int r), mo) 0 0 0 [(0, .ref x0), (1, .int x1), (2, .int x2)] [] μ
  refine zr_aload_n 0 dX12_text_0 rfl ?_
  refine zr_iconst 0 dX12_text_1 (by decide) ?_
  replace hf := zb1_s hf
  obtain ⟨m1, h2, hf⟩ := hf
  refine zr_put h2 zk12 (by decide) zl_899 rfl rfl rfl dX12_text_2 ?_
  refine zr_aload_n 0 dX12_text_5 rfl ?_
  refine zr_aload_n 0 dX12_text_6 rfl ?_
  replace hf := zb1_s hf
  obtain ⟨v3, h4, hf⟩ := hf
  refine zr_get (zm_gR_g h4) zk12 (by decide) zl_865 dX12_text_7 ?_
  refine zr_iconst 0 dX12_text_10 (by decide) ?_
  replace hf := zb1_s hf
  obtain ⟨v5, h6, hf⟩ := hf
  refine zr_iald h6 dX12_text_11 ?_
  replace hf := zb1_s hf
  obtain ⟨m7, h8, hf⟩ := hf
  refine zr_put h8 zk12 (by decide) zl_905 rfl rfl rfl dX12_text_12 ?_
  refine zr_aload_n 0 dX12_text_15 rfl ?_
  replace hf := zb1_s hf
  obtain ⟨v9, h10, hf⟩ := hf
  refine zr_get (zm_gR_g h10) zk12 (by decide) zl_865 dX12_text_16 ?_
  refine zr_iconst 0 dX12_text_19 (by decide) ?_
  refine zr_iconst 0 dX12_text_20 (by decide) ?_
  replace hf := zb1_s hf
  obtain ⟨m11, h12, hf⟩ := hf
  refine zr_iast h12 dX12_text_21 ?_
  refine zr_aload_n 0 dX12_text_22 rfl ?_
  replace hf := zb1_s hf
  obtain ⟨v13, h14, hf⟩ := hf
  refine zr_get (zm_gR_g h14) zk12 (by decide) zl_866 dX12_text_23 ?_
  refine zr_iconst 0 dX12_text_26 (by decide) ?_
  refine zr_iconst 0 dX12_text_27 (by decide) ?_
  replace hf := zb1_s hf
  obtain ⟨m15, h16, hf⟩ := hf
  refine zr_iast h16 dX12_text_28 ?_
  refine zr_aload_n 0 dX12_text_29 rfl ?_
  replace hf := zb1_s hf
  obtain ⟨v17, h18, hf⟩ := hf
  refine zr_get (zm_gR_g h18) zk12 (by decide) zl_867 dX12_text_30 ?_
  refine zr_iconst 0 dX12_text_33 (by decide) ?_
  refine zr_iconst (-1) dX12_text_34 (by decide) ?_
  replace hf := zb1_s hf
  obtain ⟨m19, h20, hf⟩ := hf
  refine zr_iast h20 dX12_text_35 ?_
  refine zr_iload_n 1 dX12_text_36 rfl ?_
  refine zr_iconst 0 dX12_text_37 (by decide) ?_
  refine zr_iconst 3 dX12_text_38 (by decide) ?_
  replace hf := zb1_s hf
  obtain ⟨v22, h21, hf⟩ := hf
  refine zr_callS [.int x1, .int 0, .int 3] (cX12_in_ok h21) zvs_X12_in zl_898 zl_897 rfl (Nat.le_of_ble_eq_true rfl) (Nat.le_of_ble_eq_true rfl) (Nat.le_of_ble_eq_true rfl) (Nat.le_of_ble_eq_true rfl) dX12_text_39 rfl ?_
  refine zr_if_eq 72 dX12_text_42 (by decide) (fun hc => ?_) (fun hc => ?_)
  · rw [if_pos hc] at hf
    refine zr_bipush (-2) dX12_text_72 (by decide) ?_
    cases hf
    exact zr_iret dX12_text_74
  · rw [if_neg hc] at hf
    refine zr_iload_n 2 dX12_text_45 rfl ?_
    refine zr_iconst (-1) dX12_text_46 (by decide) ?_
    have hb42 : ∀ (_ : Unit), fX12_text_b75 m19 x0 x1 x2 = some (r, mo) → zz K cX12_text (4, RX12, some .int, 8, 0, 0, some (.int r), mo) 0 0 75 [(0, .ref x0), (1, .int x1), (2, .int x2)] [] m19 := by
      intro _ hf
      unfold fX12_text_b75 at hf
      refine zr_aload_n 0 dX12_text_75 rfl ?_
      refine zr_iload_n 1 dX12_text_76 rfl ?_
      replace hf := zb2_s hf
      obtain ⟨v25, m24, h23, hf⟩ := hf
      refine zr_callV (ci := 12) [.int x1] (cX12_readText_ok h23) zvs_X12_readText zl_1016 zl_1017 (fX12_readText_ck h23) rfl rfl zl_1015 rfl (Nat.le_of_ble_eq_true rfl) (Nat.le_of_ble_eq_true rfl) (Nat.le_of_ble_eq_true rfl) (Nat.le_of_ble_eq_true rfl) dX12_text_77 rfl ?_
      refine zr_if_ne 85 dX12_text_80 (by decide) (fun hc => ?_) (fun hc => ?_)
      · rw [if_neg hc] at hf
        refine zr_iload_n 2 dX12_text_85 rfl ?_
        refine zr_iconst (-1) dX12_text_86 (by decide) ?_
        replace hf := zb1_s hf
        obtain ⟨s26, hg, hf⟩ := hf
        have hj27 : zz K cX12_text (4, RX12, some .int, 8, 0, 0, some (.int r), mo) 0 0 100 [(0, .ref x0), (1, .int x1), (2, .int x2)] [.int s26] m24 := by
          refine zr_istore_n [(3, .int s26), (0, .ref x0), (1, .int x1), (2, .int x2)] dX12_text_100 (Nat.le_of_ble_eq_true rfl) rfl ?_
          refine zr_aload_n 1 dX12_text_101 rfl ?_
          replace hf := zb1_s hf
          obtain ⟨v28, h29, hf⟩ := hf
          refine zr_get (zm_gR_g h29) zk12 (by decide) zl_868 dX12_text_102 ?_
          refine zr_iload_n 2 dX12_text_105 rfl ?_
          refine zr_dup2 dX12_text_106 rfl rfl ?_
          replace hf := zb1_s hf
          obtain ⟨v30, h31, hf⟩ := hf
          refine zr_iald h31 dX12_text_107 ?_
          refine zr_iload_n 3 dX12_text_108 rfl ?_
          refine zr_iconst (-1) dX12_text_109 (by decide) ?_
          replace hf := zb1_s hf
          obtain ⟨s32, hg, hf⟩ := hf
          have hj33 : zz K cX12_text (4, RX12, some .int, 8, 0, 0, some (.int r), mo) 0 0 118 [(0, .ref x0), (1, .int x1), (3, .int s26)] [.int s32, .int v30, .int x1, .ref v28] m24 := by
            refine zr_iadd dX12_text_118 ?_
            replace hf := zb1_s hf
            obtain ⟨m34, h35, hf⟩ := hf
            refine zr_iast h35 dX12_text_119 ?_
            refine zr_aload_n 0 dX12_text_120 rfl ?_
            refine zr_iload_n 1 dX12_text_121 rfl ?_
            refine zr_iload_n 2 dX12_text_122 rfl ?_
            replace hf := zb1_s hf
            obtain ⟨m37, h36, hf⟩ := hf
            refine zr_callV (ci := 12) [.int x1, .int s26] (cX12_storeAll_ok h36) zvs_X12_storeAll zl_1020 zl_1021 (fX12_storeAll_ck h36) rfl rfl zl_1019 rfl (Nat.le_of_ble_eq_true rfl) (Nat.le_of_ble_eq_true rfl) (Nat.le_of_ble_eq_true rfl) (Nat.le_of_ble_eq_true rfl) dX12_text_123 rfl ?_
            refine zr_iload_n 2 dX12_text_126 rfl ?_
            cases hf
            exact zr_iret dX12_text_127
          clear hf
          have hf := hg
          clear hg
          refine zr_icmp_ne 117 dX12_text_110 (by decide) (fun hc => ?_) (fun hc => ?_)
          · rw [if_neg hc] at hf
            refine zr_iconst 0 dX12_text_117 (by decide) ?_
            cases hf
            exact zr_lv [1, 2, 0] rfl hj33
          · rw [if_pos hc] at hf
            refine zr_iconst 1 dX12_text_113 (by decide) ?_
            refine zr_goto 118 dX12_text_114 (by decide) ?_
            cases hf
            exact zr_lv [1, 2, 0] rfl hj33
        clear hf
        have hf := hg
        clear hg
        refine zr_icmp_ne 99 dX12_text_87 (by decide) (fun hc => ?_) (fun hc => ?_)
        · rw [if_neg hc] at hf
          refine zr_iload_n 2 dX12_text_99 rfl ?_
          cases hf
          exact zr_lv [0, 1, 2] rfl hj27
        · rw [if_pos hc] at hf
          refine zr_aload_n 0 dX12_text_90 rfl ?_
          replace hf := zb1_s hf
          obtain ⟨v38, h39, hf⟩ := hf
          refine zr_get (zm_gR_g h39) zk12 (by decide) zl_868 dX12_text_91 ?_
          refine zr_iload_n 1 dX12_text_94 rfl ?_
          replace hf := zb1_s hf
          obtain ⟨v40, h41, hf⟩ := hf
          refine zr_iald h41 dX12_text_95 ?_
          refine zr_goto 100 dX12_text_96 (by decide) ?_
          cases hf
          exact zr_lv [0, 1, 2] rfl hj27
      · rw [if_pos hc] at hf
        refine zr_iconst (-1) dX12_text_83 (by decide) ?_
        cases hf
        exact zr_iret dX12_text_84
    refine zr_icmp_ne 63 dX12_text_47 (by decide) (fun hc => ?_) (fun hc => ?_)
    · rw [if_neg hc] at hf
      refine zr_aload_n 0 dX12_text_63 rfl ?_
      refine zr_iload_n 1 dX12_text_64 rfl ?_
      refine zr_iload_n 2 dX12_text_65 rfl ?_
      replace hf := zb1_s hf
      obtain ⟨v44, h43, hf⟩ := hf
      refine zr_callV (ci := 12) [.int x1, .int x2] (cX12_is_ok h43) zvs_X12_is zl_1024 zl_1025 (fX12_is_ck h43) rfl rfl zl_1023 rfl (Nat.le_of_ble_eq_true rfl) (Nat.le_of_ble_eq_true rfl) (Nat.le_of_ble_eq_true rfl) (Nat.le_of_ble_eq_true rfl) dX12_text_66 rfl ?_
      refine zr_if_ne 75 dX12_text_69 (by decide) (fun hc => ?_) (fun hc => ?_)
      · rw [if_neg hc] at hf
        exact zr_lv [0, 1, 2] rfl (hb42 () hf)
      · rw [if_pos hc] at hf
        refine zr_bipush (-2) dX12_text_72 (by decide) ?_
        cases hf
        exact zr_iret dX12_text_74
    · rw [if_pos hc] at hf
      refine zr_aload_n 0 dX12_text_50 rfl ?_
      replace hf := zb1_s hf
      obtain ⟨v45, h46, hf⟩ := hf
      refine zr_get (zm_gR_g h46) zk12 (by decide) zl_868 dX12_text_51 ?_
      refine zr_iload_n 1 dX12_text_54 rfl ?_
      replace hf := zb1_s hf
      obtain ⟨v47, h48, hf⟩ := hf
      refine zr_iald h48 dX12_text_55 ?_
      refine zr_iconst 2 dX12_text_56 (by decide) ?_
      refine zr_icmp_ne 75 dX12_text_57 (by decide) (fun hc => ?_) (fun hc => ?_)
      · rw [if_neg hc] at hf
        exact zr_lv [0, 1, 2] rfl (hb42 () hf)
      · rw [if_pos hc] at hf
        refine zr_goto 72 dX12_text_60 (by decide) ?_
        refine zr_bipush (-2) dX12_text_72 (by decide) ?_
        cases hf
        exact zr_iret dX12_text_74
theorem dX12_fault_0 : decode cX12_fault 0 = .ok (.aload_n 0, 1) := by decide +kernel
theorem dX12_fault_1 : decode cX12_fault 1 = .ok (.iconst 0, 1) := by decide +kernel
theorem dX12_fault_2 : decode cX12_fault 2 = .ok (.putfield 93, 3) := by decide +kernel
theorem dX12_fault_5 : decode cX12_fault 5 = .ok (.iload_n 1, 1) := by decide +kernel
theorem dX12_fault_6 : decode cX12_fault 6 = .ok (.ifCond .ne 12, 3) := by decide +kernel
theorem dX12_fault_9 : decode cX12_fault 9 = .ok (.aload_n 0, 1) := by decide +kernel
theorem dX12_fault_10 : decode cX12_fault 10 = .ok (.getfield 17, 3) := by decide +kernel
theorem dX12_fault_13 : decode cX12_fault 13 = .ok (.iconst 0, 1) := by decide +kernel
theorem dX12_fault_14 : decode cX12_fault 14 = .ok (.iaload, 1) := by decide +kernel
theorem dX12_fault_15 : decode cX12_fault 15 = .ok (.goto 18, 3) := by decide +kernel
theorem dX12_fault_18 : decode cX12_fault 18 = .ok (.iload_n 1, 1) := by decide +kernel
theorem dX12_fault_19 : decode cX12_fault 19 = .ok (.iconst 1, 1) := by decide +kernel
theorem dX12_fault_20 : decode cX12_fault 20 = .ok (.if_icmp .ne 12, 3) := by decide +kernel
theorem dX12_fault_23 : decode cX12_fault 23 = .ok (.aload_n 0, 1) := by decide +kernel
theorem dX12_fault_24 : decode cX12_fault 24 = .ok (.getfield 20, 3) := by decide +kernel
theorem dX12_fault_27 : decode cX12_fault 27 = .ok (.iconst 0, 1) := by decide +kernel
theorem dX12_fault_28 : decode cX12_fault 28 = .ok (.iaload, 1) := by decide +kernel
theorem dX12_fault_29 : decode cX12_fault 29 = .ok (.goto 4, 3) := by decide +kernel
theorem dX12_fault_32 : decode cX12_fault 32 = .ok (.iconst (-1), 1) := by decide +kernel
theorem dX12_fault_33 : decode cX12_fault 33 = .ok (.ireturn, 1) := by decide +kernel
noncomputable def fX12_fault (μ : zM) (x0 : Nat) (x1 : Int32) : Option (Int32 × zM) := zgd (zm_ck μ 12 x0) <|
  zb1 (zm_p μ 12 x0 0 (.int 0)) fun m1 =>
  zb1 (if x1 = 0 then (
  zb1 (zm_gR m1 12 x0 3) fun v9 =>
  zb1 (zm_aI m1 0 v9 0) fun v11 =>
  some v11)
  else (
  if x1 = 1 then (
  zb1 (zm_gR m1 12 x0 4) fun v5 =>
  zb1 (zm_aI m1 0 v5 0) fun v7 =>
  some v7)
  else (
  some (-1))) : Option (Int32)) fun (s3 : Int32) =>
  some (s3, m1)
theorem fX12_fault_ck {μ : zM} {x0 : Nat} {x1 : Int32} {z : Int32 × zM} (h : fX12_fault μ x0 x1 = some z) : zm_ck μ 12 x0 = true := (zgd_s h).1
set_option maxHeartbeats 4000000 in
set_option maxRecDepth 100000 in
theorem cX12_fault_ok {μ : zM} {x0 : Nat} {x1 : Int32} {r : Int32} {mo : zM} (hf : fX12_fault μ x0 x1 = some (r, mo)) : zC yX12_fault cX12_fault 2 (some .int) 0 0 0 [.ref x0, .int x1] μ (some (.int r)) mo := by
  replace hf := (zgd_s hf).2
  refine zC.of (by decide) (Nat.le_of_ble_eq_true rfl) (fun K hin => ?_)
  clear hin
  show zz K cX12_fault (2, RX12, some .int, 0, 0, 0, some (.int r), mo) 0 0 0 [(0, .ref x0), (1, .int x1)] [] μ
  refine zr_aload_n 0 dX12_fault_0 rfl ?_
  refine zr_iconst 0 dX12_fault_1 (by decide) ?_
  replace hf := zb1_s hf
  obtain ⟨m1, h2, hf⟩ := hf
  refine zr_put h2 zk12 (by decide) zl_899 rfl rfl rfl dX12_fault_2 ?_
  refine zr_iload_n 1 dX12_fault_5 rfl ?_
  replace hf := zb1_s hf
  obtain ⟨s3, hg, hf⟩ := hf
  have hj4 : zz K cX12_fault (2, RX12, some .int, 0, 0, 0, some (.int r), mo) 0 0 33 [] [.int s3] m1 := by
    cases hf
    exact zr_iret dX12_fault_33
  clear hf
  have hf := hg
  clear hg
  refine zr_if_ne 18 dX12_fault_6 (by decide) (fun hc => ?_) (fun hc => ?_)
  · rw [if_neg hc] at hf
    refine zr_iload_n 1 dX12_fault_18 rfl ?_
    refine zr_iconst 1 dX12_fault_19 (by decide) ?_
    refine zr_icmp_ne 32 dX12_fault_20 (by decide) (fun hc => ?_) (fun hc => ?_)
    · rw [if_neg hc] at hf
      refine zr_iconst (-1) dX12_fault_32 (by decide) ?_
      cases hf
      exact zr_lv [] rfl hj4
    · rw [if_pos hc] at hf
      refine zr_aload_n 0 dX12_fault_23 rfl ?_
      replace hf := zb1_s hf
      obtain ⟨v5, h6, hf⟩ := hf
      refine zr_get (zm_gR_g h6) zk12 (by decide) zl_867 dX12_fault_24 ?_
      refine zr_iconst 0 dX12_fault_27 (by decide) ?_
      replace hf := zb1_s hf
      obtain ⟨v7, h8, hf⟩ := hf
      refine zr_iald h8 dX12_fault_28 ?_
      refine zr_goto 33 dX12_fault_29 (by decide) ?_
      cases hf
      exact zr_lv [] rfl hj4
  · rw [if_pos hc] at hf
    refine zr_aload_n 0 dX12_fault_9 rfl ?_
    replace hf := zb1_s hf
    obtain ⟨v9, h10, hf⟩ := hf
    refine zr_get (zm_gR_g h10) zk12 (by decide) zl_866 dX12_fault_10 ?_
    refine zr_iconst 0 dX12_fault_13 (by decide) ?_
    replace hf := zb1_s hf
    obtain ⟨v11, h12, hf⟩ := hf
    refine zr_iald h12 dX12_fault_14 ?_
    refine zr_goto 33 dX12_fault_15 (by decide) ?_
    cases hf
    exact zr_lv [] rfl hj4
theorem zl_1026 : Cond.fieldLink RX12 266 "TwoEchoesModel" "valley" "I" ∈ zt := zt_at 1364 (by decide +kernel)
theorem dX12_of_0 : decode cX12_of 0 = .ok (.aload_n 0, 1) := by decide +kernel
theorem dX12_of_1 : decode cX12_of 1 = .ok (.getfield 26, 3) := by decide +kernel
theorem dX12_of_4 : decode cX12_of 4 = .ok (.bipush 57, 2) := by decide +kernel
theorem dX12_of_6 : decode cX12_of 6 = .ok (.aload_n 0, 1) := by decide +kernel
theorem dX12_of_7 : decode cX12_of 7 = .ok (.getfield 266, 3) := by decide +kernel
theorem dX12_of_10 : decode cX12_of 10 = .ok (.imul, 1) := by decide +kernel
theorem dX12_of_11 : decode cX12_of 11 = .ok (.iload_n 1, 1) := by decide +kernel
theorem dX12_of_12 : decode cX12_of 12 = .ok (.iadd, 1) := by decide +kernel
theorem dX12_of_13 : decode cX12_of 13 = .ok (.iaload, 1) := by decide +kernel
theorem dX12_of_14 : decode cX12_of 14 = .ok (.ireturn, 1) := by decide +kernel
noncomputable def fX12_of (μ : zM) (x0 : Nat) (x1 : Int32) : Option (Int32) := zgd (zm_ck μ 12 x0) <|
  zb1 (zm_gR μ 12 x0 6) fun v1 =>
  zb1 (zm_gI μ 12 x0 23) fun v3 =>
  zb1 (zm_aI μ 0 v1 ((57 * v3) + x1)) fun v5 =>
  some v5
theorem fX12_of_ck {μ : zM} {x0 : Nat} {x1 : Int32} {z : Int32} (h : fX12_of μ x0 x1 = some z) : zm_ck μ 12 x0 = true := (zgd_s h).1
set_option maxHeartbeats 4000000 in
set_option maxRecDepth 100000 in
theorem cX12_of_ok {μ : zM} {x0 : Nat} {x1 : Int32} {r : Int32} (hf : fX12_of μ x0 x1 = some r) : zC yX12_of cX12_of 2 (some .int) 0 0 0 [.ref x0, .int x1] μ (some (.int r)) μ := by
  replace hf := (zgd_s hf).2
  refine zC.of (by decide) (Nat.le_of_ble_eq_true rfl) (fun K hin => ?_)
  clear hin
  show zz K cX12_of (2, RX12, some .int, 0, 0, 0, some (.int r), μ) 0 0 0 [(0, .ref x0), (1, .int x1)] [] μ
  refine zr_aload_n 0 dX12_of_0 rfl ?_
  replace hf := zb1_s hf
  obtain ⟨v1, h2, hf⟩ := hf
  refine zr_get (zm_gR_g h2) zk12 (by decide) zl_869 dX12_of_1 ?_
  refine zr_bipush 57 dX12_of_4 (by decide) ?_
  refine zr_aload_n 0 dX12_of_6 rfl ?_
  replace hf := zb1_s hf
  obtain ⟨v3, h4, hf⟩ := hf
  refine zr_get (zm_gI_g h4) zk12 (by decide) zl_1026 dX12_of_7 ?_
  refine zr_imul dX12_of_10 ?_
  refine zr_iload_n 1 dX12_of_11 rfl ?_
  refine zr_iadd dX12_of_12 ?_
  replace hf := zb1_s hf
  obtain ⟨v5, h6, hf⟩ := hf
  refine zr_iald h6 dX12_of_13 ?_
  cases hf
  exact zr_iret dX12_of_14
theorem zl_1027 : Cond.code yX12_of cX12_of 2 (some .int) ∈ zt := zt_at 1650 (by decide +kernel)
theorem zvs_X12_of : zvS yX12_of cX12_of 2 (some .int) 1 := ⟨zl_1027, zl_893, ⟨by decide +kernel, by decide +kernel, by decide +kernel⟩, by decide⟩
theorem zl_1028 : Cond.methodLink RX12 269 yX12_of ∈ zt := zt_at 1647 (by decide +kernel)
theorem zl_1029 : Cond.instanceMethod yX12_of ∈ zt := zt_at 1649 (by decide +kernel)
theorem zl_1030 : Cond.selects RX12 yX12_of yX12_of ∈ zt := zt_at 70 (by decide +kernel)
theorem zl_1031 : Cond.fieldLink RX12 273 "TwoEchoesModel" "wide" "I" ∈ zt := zt_at 1365 (by decide +kernel)
theorem zl_1032 : Cond.fieldLink RX12 276 "TwoEchoesModel" "people" "I" ∈ zt := zt_at 1366 (by decide +kernel)
theorem dX12_hand_0 : decode cX12_hand 0 = .ok (.aload_n 0, 1) := by decide +kernel
theorem dX12_hand_1 : decode cX12_hand 1 = .ok (.iload_n 1, 1) := by decide +kernel
theorem dX12_hand_2 : decode cX12_hand 2 = .ok (.putfield 266, 3) := by decide +kernel
theorem dX12_hand_5 : decode cX12_hand 5 = .ok (.aload_n 0, 1) := by decide +kernel
theorem dX12_hand_6 : decode cX12_hand 6 = .ok (.iconst 0, 1) := by decide +kernel
theorem dX12_hand_7 : decode cX12_hand 7 = .ok (.iload_n 1, 1) := by decide +kernel
theorem dX12_hand_8 : decode cX12_hand 8 = .ok (.invokevirtual 256, 3) := by decide +kernel
theorem dX12_hand_11 : decode cX12_hand 11 = .ok (.ifCond .ne 5, 3) := by decide +kernel
theorem dX12_hand_14 : decode cX12_hand 14 = .ok (.iconst 0, 1) := by decide +kernel
theorem dX12_hand_15 : decode cX12_hand 15 = .ok (.ireturn, 1) := by decide +kernel
theorem dX12_hand_16 : decode cX12_hand 16 = .ok (.aload_n 0, 1) := by decide +kernel
theorem dX12_hand_17 : decode cX12_hand 17 = .ok (.aload_n 0, 1) := by decide +kernel
theorem dX12_hand_18 : decode cX12_hand 18 = .ok (.iconst 0, 1) := by decide +kernel
theorem dX12_hand_19 : decode cX12_hand 19 = .ok (.invokevirtual 269, 3) := by decide +kernel
theorem dX12_hand_22 : decode cX12_hand 22 = .ok (.putfield 273, 3) := by decide +kernel
theorem dX12_hand_25 : decode cX12_hand 25 = .ok (.aload_n 0, 1) := by decide +kernel
theorem dX12_hand_26 : decode cX12_hand 26 = .ok (.aload_n 0, 1) := by decide +kernel
theorem dX12_hand_27 : decode cX12_hand 27 = .ok (.iconst 1, 1) := by decide +kernel
theorem dX12_hand_28 : decode cX12_hand 28 = .ok (.invokevirtual 269, 3) := by decide +kernel
theorem dX12_hand_31 : decode cX12_hand 31 = .ok (.putfield 276, 3) := by decide +kernel
theorem dX12_hand_34 : decode cX12_hand 34 = .ok (.iconst 1, 1) := by decide +kernel
theorem dX12_hand_35 : decode cX12_hand 35 = .ok (.ireturn, 1) := by decide +kernel
noncomputable def fX12_hand (μ : zM) (x0 : Nat) (x1 : Int32) : Option (Int32 × zM) := zgd (zm_ck μ 12 x0) <|
  zb1 (zm_p μ 12 x0 23 (.int x1)) fun m1 =>
  zb1 (fX12_is m1 x0 0 x1) fun v4 =>
  if v4 = 0 then (
  some (0, m1))
  else (
  zb1 (fX12_of m1 x0 0) fun v6 =>
  zb1 (zm_p m1 12 x0 24 (.int v6)) fun m7 =>
  zb1 (fX12_of m7 x0 1) fun v10 =>
  zb1 (zm_p m7 12 x0 25 (.int v10)) fun m11 =>
  some (1, m11))
theorem fX12_hand_ck {μ : zM} {x0 : Nat} {x1 : Int32} {z : Int32 × zM} (h : fX12_hand μ x0 x1 = some z) : zm_ck μ 12 x0 = true := (zgd_s h).1
set_option maxHeartbeats 4000000 in
set_option maxRecDepth 100000 in
theorem cX12_hand_ok {μ : zM} {x0 : Nat} {x1 : Int32} {r : Int32} {mo : zM} (hf : fX12_hand μ x0 x1 = some (r, mo)) : zC yX12_hand cX12_hand 2 (some .boolean) 2 0 0 [.ref x0, .int x1] μ (some (.int r)) mo := by
  replace hf := (zgd_s hf).2
  refine zC.of (by decide) (Nat.le_of_ble_eq_true rfl) (fun K hin => ?_)
  clear hin
  show zz K cX12_hand (2, RX12, some .boolean, 2, 0, 0, some (.int r), mo) 0 0 0 [(0, .ref x0), (1, .int x1)] [] μ
  refine zr_aload_n 0 dX12_hand_0 rfl ?_
  refine zr_iload_n 1 dX12_hand_1 rfl ?_
  replace hf := zb1_s hf
  obtain ⟨m1, h2, hf⟩ := hf
  refine zr_put h2 zk12 (by decide) zl_1026 rfl rfl rfl dX12_hand_2 ?_
  refine zr_aload_n 0 dX12_hand_5 rfl ?_
  refine zr_iconst 0 dX12_hand_6 (by decide) ?_
  refine zr_iload_n 1 dX12_hand_7 rfl ?_
  replace hf := zb1_s hf
  obtain ⟨v4, h3, hf⟩ := hf
  refine zr_callV (ci := 12) [.int 0, .int x1] (cX12_is_ok h3) zvs_X12_is zl_1024 zl_1025 (fX12_is_ck h3) rfl rfl zl_1023 rfl (Nat.le_of_ble_eq_true rfl) (Nat.le_of_ble_eq_true rfl) (Nat.le_of_ble_eq_true rfl) (Nat.le_of_ble_eq_true rfl) dX12_hand_8 rfl ?_
  refine zr_if_ne 16 dX12_hand_11 (by decide) (fun hc => ?_) (fun hc => ?_)
  · rw [if_neg hc] at hf
    refine zr_aload_n 0 dX12_hand_16 rfl ?_
    refine zr_aload_n 0 dX12_hand_17 rfl ?_
    refine zr_iconst 0 dX12_hand_18 (by decide) ?_
    replace hf := zb1_s hf
    obtain ⟨v6, h5, hf⟩ := hf
    refine zr_callV (ci := 12) [.int 0] (cX12_of_ok h5) zvs_X12_of zl_1029 zl_1030 (fX12_of_ck h5) rfl rfl zl_1028 rfl (Nat.le_of_ble_eq_true rfl) (Nat.le_of_ble_eq_true rfl) (Nat.le_of_ble_eq_true rfl) (Nat.le_of_ble_eq_true rfl) dX12_hand_19 rfl ?_
    replace hf := zb1_s hf
    obtain ⟨m7, h8, hf⟩ := hf
    refine zr_put h8 zk12 (by decide) zl_1031 rfl rfl rfl dX12_hand_22 ?_
    refine zr_aload_n 0 dX12_hand_25 rfl ?_
    refine zr_aload_n 0 dX12_hand_26 rfl ?_
    refine zr_iconst 1 dX12_hand_27 (by decide) ?_
    replace hf := zb1_s hf
    obtain ⟨v10, h9, hf⟩ := hf
    refine zr_callV (ci := 12) [.int 1] (cX12_of_ok h9) zvs_X12_of zl_1029 zl_1030 (fX12_of_ck h9) rfl rfl zl_1028 rfl (Nat.le_of_ble_eq_true rfl) (Nat.le_of_ble_eq_true rfl) (Nat.le_of_ble_eq_true rfl) (Nat.le_of_ble_eq_true rfl) dX12_hand_28 rfl ?_
    replace hf := zb1_s hf
    obtain ⟨m11, h12, hf⟩ := hf
    refine zr_put h12 zk12 (by decide) zl_1032 rfl rfl rfl dX12_hand_31 ?_
    refine zr_iconst 1 dX12_hand_34 (by decide) ?_
    cases hf
    exact zr_zret rfl dX12_hand_35
  · rw [if_pos hc] at hf
    refine zr_iconst 0 dX12_hand_14 (by decide) ?_
    cases hf
    exact zr_zret rfl dX12_hand_15
theorem dX12_isPlace_0 : decode cX12_isPlace 0 = .ok (.iload_n 1, 1) := by decide +kernel
theorem dX12_isPlace_1 : decode cX12_isPlace 1 = .ok (.iconst 0, 1) := by decide +kernel
theorem dX12_isPlace_2 : decode cX12_isPlace 2 = .ok (.aload_n 0, 1) := by decide +kernel
theorem dX12_isPlace_3 : decode cX12_isPlace 3 = .ok (.getfield 273, 3) := by decide +kernel
theorem dX12_isPlace_6 : decode cX12_isPlace 6 = .ok (.invokestatic 101, 3) := by decide +kernel
theorem dX12_isPlace_9 : decode cX12_isPlace 9 = .ok (.ireturn, 1) := by decide +kernel
noncomputable def fX12_isPlace (μ : zM) (x0 : Nat) (x1 : Int32) : Option (Int32) := zgd (zm_ck μ 12 x0) <|
  zb1 (zm_gI μ 12 x0 24) fun v1 =>
  zb1 (fX12_in μ x1 0 v1) fun v4 =>
  zb1 (zbz v4) fun v5 =>
  some v5
theorem fX12_isPlace_ck {μ : zM} {x0 : Nat} {x1 : Int32} {z : Int32} (h : fX12_isPlace μ x0 x1 = some z) : zm_ck μ 12 x0 = true := (zgd_s h).1
set_option maxHeartbeats 4000000 in
set_option maxRecDepth 100000 in
theorem cX12_isPlace_ok {μ : zM} {x0 : Nat} {x1 : Int32} {r : Int32} (hf : fX12_isPlace μ x0 x1 = some r) : zC yX12_isPlace cX12_isPlace 2 (some .boolean) 1 0 0 [.ref x0, .int x1] μ (some (.int r)) μ := by
  replace hf := (zgd_s hf).2
  refine zC.of (by decide) (Nat.le_of_ble_eq_true rfl) (fun K hin => ?_)
  clear hin
  show zz K cX12_isPlace (2, RX12, some .boolean, 1, 0, 0, some (.int r), μ) 0 0 0 [(0, .ref x0), (1, .int x1)] [] μ
  refine zr_iload_n 1 dX12_isPlace_0 rfl ?_
  refine zr_iconst 0 dX12_isPlace_1 (by decide) ?_
  refine zr_aload_n 0 dX12_isPlace_2 rfl ?_
  replace hf := zb1_s hf
  obtain ⟨v1, h2, hf⟩ := hf
  refine zr_get (zm_gI_g h2) zk12 (by decide) zl_1031 dX12_isPlace_3 ?_
  replace hf := zb1_s hf
  obtain ⟨v4, h3, hf⟩ := hf
  refine zr_callS [.int x1, .int 0, .int v1] (cX12_in_ok h3) zvs_X12_in zl_898 zl_897 rfl (Nat.le_of_ble_eq_true rfl) (Nat.le_of_ble_eq_true rfl) (Nat.le_of_ble_eq_true rfl) (Nat.le_of_ble_eq_true rfl) dX12_isPlace_6 rfl ?_
  replace hf := zb1_s hf
  obtain ⟨v5, hn6, hf⟩ := hf
  replace hn6 := zbz_s hn6
  obtain ⟨hn6, rfl⟩ := hn6
  cases hf
  exact zr_zret hn6 dX12_isPlace_9
theorem dX12_isPerson_0 : decode cX12_isPerson 0 = .ok (.iload_n 1, 1) := by decide +kernel
theorem dX12_isPerson_1 : decode cX12_isPerson 1 = .ok (.iconst 0, 1) := by decide +kernel
theorem dX12_isPerson_2 : decode cX12_isPerson 2 = .ok (.aload_n 0, 1) := by decide +kernel
theorem dX12_isPerson_3 : decode cX12_isPerson 3 = .ok (.getfield 276, 3) := by decide +kernel
theorem dX12_isPerson_6 : decode cX12_isPerson 6 = .ok (.iconst 1, 1) := by decide +kernel
theorem dX12_isPerson_7 : decode cX12_isPerson 7 = .ok (.isub, 1) := by decide +kernel
theorem dX12_isPerson_8 : decode cX12_isPerson 8 = .ok (.invokestatic 101, 3) := by decide +kernel
theorem dX12_isPerson_11 : decode cX12_isPerson 11 = .ok (.ireturn, 1) := by decide +kernel
noncomputable def fX12_isPerson (μ : zM) (x0 : Nat) (x1 : Int32) : Option (Int32) := zgd (zm_ck μ 12 x0) <|
  zb1 (zm_gI μ 12 x0 25) fun v1 =>
  zb1 (fX12_in μ x1 0 (v1 - 1)) fun v4 =>
  zb1 (zbz v4) fun v5 =>
  some v5
theorem fX12_isPerson_ck {μ : zM} {x0 : Nat} {x1 : Int32} {z : Int32} (h : fX12_isPerson μ x0 x1 = some z) : zm_ck μ 12 x0 = true := (zgd_s h).1
set_option maxHeartbeats 4000000 in
set_option maxRecDepth 100000 in
theorem cX12_isPerson_ok {μ : zM} {x0 : Nat} {x1 : Int32} {r : Int32} (hf : fX12_isPerson μ x0 x1 = some r) : zC yX12_isPerson cX12_isPerson 2 (some .boolean) 1 0 0 [.ref x0, .int x1] μ (some (.int r)) μ := by
  replace hf := (zgd_s hf).2
  refine zC.of (by decide) (Nat.le_of_ble_eq_true rfl) (fun K hin => ?_)
  clear hin
  show zz K cX12_isPerson (2, RX12, some .boolean, 1, 0, 0, some (.int r), μ) 0 0 0 [(0, .ref x0), (1, .int x1)] [] μ
  refine zr_iload_n 1 dX12_isPerson_0 rfl ?_
  refine zr_iconst 0 dX12_isPerson_1 (by decide) ?_
  refine zr_aload_n 0 dX12_isPerson_2 rfl ?_
  replace hf := zb1_s hf
  obtain ⟨v1, h2, hf⟩ := hf
  refine zr_get (zm_gI_g h2) zk12 (by decide) zl_1032 dX12_isPerson_3 ?_
  refine zr_iconst 1 dX12_isPerson_6 (by decide) ?_
  refine zr_isub dX12_isPerson_7 ?_
  replace hf := zb1_s hf
  obtain ⟨v4, h3, hf⟩ := hf
  refine zr_callS [.int x1, .int 0, .int (v1 - 1)] (cX12_in_ok h3) zvs_X12_in zl_898 zl_897 rfl (Nat.le_of_ble_eq_true rfl) (Nat.le_of_ble_eq_true rfl) (Nat.le_of_ble_eq_true rfl) (Nat.le_of_ble_eq_true rfl) dX12_isPerson_8 rfl ?_
  replace hf := zb1_s hf
  obtain ⟨v5, hn6, hf⟩ := hf
  replace hn6 := zbz_s hn6
  obtain ⟨hn6, rfl⟩ := hn6
  cases hf
  exact zr_zret hn6 dX12_isPerson_11
theorem dX12_isWord_0 : decode cX12_isWord 0 = .ok (.iload_n 0, 1) := by decide +kernel
theorem dX12_isWord_1 : decode cX12_isWord 1 = .ok (.iconst 0, 1) := by decide +kernel
theorem dX12_isWord_2 : decode cX12_isWord 2 = .ok (.bipush 7, 2) := by decide +kernel
theorem dX12_isWord_4 : decode cX12_isWord 4 = .ok (.invokestatic 101, 3) := by decide +kernel
theorem dX12_isWord_7 : decode cX12_isWord 7 = .ok (.ireturn, 1) := by decide +kernel
noncomputable def fX12_isWord (μ : zM) (x0 : Int32) : Option (Int32) :=
  zb1 (fX12_in μ x0 0 7) fun v2 =>
  zb1 (zbz v2) fun v3 =>
  some v3
set_option maxHeartbeats 4000000 in
set_option maxRecDepth 100000 in
theorem cX12_isWord_ok {μ : zM} {x0 : Int32} {r : Int32} (hf : fX12_isWord μ x0 = some r) : zC yX12_isWord cX12_isWord 1 (some .boolean) 1 0 0 [.int x0] μ (some (.int r)) μ := by
  unfold fX12_isWord at hf
  refine zC.of (by decide) (Nat.le_of_ble_eq_true rfl) (fun K hin => ?_)
  clear hin
  show zz K cX12_isWord (1, RX12, some .boolean, 1, 0, 0, some (.int r), μ) 0 0 0 [(0, .int x0)] [] μ
  refine zr_iload_n 0 dX12_isWord_0 rfl ?_
  refine zr_iconst 0 dX12_isWord_1 (by decide) ?_
  refine zr_bipush 7 dX12_isWord_2 (by decide) ?_
  replace hf := zb1_s hf
  obtain ⟨v2, h1, hf⟩ := hf
  refine zr_callS [.int x0, .int 0, .int 7] (cX12_in_ok h1) zvs_X12_in zl_898 zl_897 rfl (Nat.le_of_ble_eq_true rfl) (Nat.le_of_ble_eq_true rfl) (Nat.le_of_ble_eq_true rfl) (Nat.le_of_ble_eq_true rfl) dX12_isWord_4 rfl ?_
  replace hf := zb1_s hf
  obtain ⟨v3, hn4, hf⟩ := hf
  replace hn4 := zbz_s hn4
  obtain ⟨hn4, rfl⟩ := hn4
  cases hf
  exact zr_zret hn4 dX12_isWord_7
theorem dX12_range_0 : decode cX12_range 0 = .ok (.iload_n 0, 1) := by decide +kernel
theorem dX12_range_1 : decode cX12_range 1 = .ok (.ifCond .ne 8, 3) := by decide +kernel
theorem dX12_range_4 : decode cX12_range 4 = .ok (.bipush 6, 2) := by decide +kernel
theorem dX12_range_6 : decode cX12_range 6 = .ok (.goto 15, 3) := by decide +kernel
theorem dX12_range_9 : decode cX12_range 9 = .ok (.iload_n 0, 1) := by decide +kernel
theorem dX12_range_10 : decode cX12_range 10 = .ok (.iconst 1, 1) := by decide +kernel
theorem dX12_range_11 : decode cX12_range 11 = .ok (.if_icmp .ne 8, 3) := by decide +kernel
theorem dX12_range_14 : decode cX12_range 14 = .ok (.bipush 18, 2) := by decide +kernel
theorem dX12_range_16 : decode cX12_range 16 = .ok (.goto 5, 3) := by decide +kernel
theorem dX12_range_19 : decode cX12_range 19 = .ok (.bipush 99, 2) := by decide +kernel
theorem dX12_range_21 : decode cX12_range 21 = .ok (.ireturn, 1) := by decide +kernel
noncomputable def fX12_range (μ : zM) (x0 : Int32) : Option (Int32) :=
  zb1 (if x0 = 0 then (
  some 6)
  else (
  if x0 = 1 then (
  some 18)
  else (
  some 99)) : Option (Int32)) fun (s1 : Int32) =>
  some s1
set_option maxHeartbeats 4000000 in
set_option maxRecDepth 100000 in
theorem cX12_range_ok {μ : zM} {x0 : Int32} {r : Int32} (hf : fX12_range μ x0 = some r) : zC yX12_range cX12_range 1 (some .int) 0 0 0 [.int x0] μ (some (.int r)) μ := by
  unfold fX12_range at hf
  refine zC.of (by decide) (Nat.le_of_ble_eq_true rfl) (fun K hin => ?_)
  clear hin
  show zz K cX12_range (1, RX12, some .int, 0, 0, 0, some (.int r), μ) 0 0 0 [(0, .int x0)] [] μ
  refine zr_iload_n 0 dX12_range_0 rfl ?_
  replace hf := zb1_s hf
  obtain ⟨s1, hg, hf⟩ := hf
  have hj2 : zz K cX12_range (1, RX12, some .int, 0, 0, 0, some (.int r), μ) 0 0 21 [] [.int s1] μ := by
    cases hf
    exact zr_iret dX12_range_21
  clear hf
  have hf := hg
  clear hg
  refine zr_if_ne 9 dX12_range_1 (by decide) (fun hc => ?_) (fun hc => ?_)
  · rw [if_neg hc] at hf
    refine zr_iload_n 0 dX12_range_9 rfl ?_
    refine zr_iconst 1 dX12_range_10 (by decide) ?_
    refine zr_icmp_ne 19 dX12_range_11 (by decide) (fun hc => ?_) (fun hc => ?_)
    · rw [if_neg hc] at hf
      refine zr_bipush 99 dX12_range_19 (by decide) ?_
      cases hf
      exact zr_lv [] rfl hj2
    · rw [if_pos hc] at hf
      refine zr_bipush 18 dX12_range_14 (by decide) ?_
      refine zr_goto 21 dX12_range_16 (by decide) ?_
      cases hf
      exact zr_lv [] rfl hj2
  · rw [if_pos hc] at hf
    refine zr_bipush 6 dX12_range_4 (by decide) ?_
    refine zr_goto 21 dX12_range_6 (by decide) ?_
    cases hf
    exact zr_lv [] rfl hj2
theorem dX12_isSky_0 : decode cX12_isSky 0 = .ok (.iconst 0, 1) := by decide +kernel
theorem dX12_isSky_1 : decode cX12_isSky 1 = .ok (.istore_n 3, 1) := by decide +kernel
theorem dX12_isSky_2 : decode cX12_isSky 2 = .ok (.iload_n 3, 1) := by decide +kernel
theorem dX12_isSky_3 : decode cX12_isSky 3 = .ok (.aload_n 0, 1) := by decide +kernel
theorem dX12_isSky_4 : decode cX12_isSky 4 = .ok (.iconst 2, 1) := by decide +kernel
theorem dX12_isSky_5 : decode cX12_isSky 5 = .ok (.invokevirtual 269, 3) := by decide +kernel
theorem dX12_isSky_8 : decode cX12_isSky 8 = .ok (.if_icmp .ge 46, 3) := by decide +kernel
theorem dX12_isSky_11 : decode cX12_isSky 11 = .ok (.aload_n 0, 1) := by decide +kernel
theorem dX12_isSky_12 : decode cX12_isSky 12 = .ok (.bipush 45, 2) := by decide +kernel
theorem dX12_isSky_14 : decode cX12_isSky 14 = .ok (.iload_n 3, 1) := by decide +kernel
theorem dX12_isSky_15 : decode cX12_isSky 15 = .ok (.iadd, 1) := by decide +kernel
theorem dX12_isSky_16 : decode cX12_isSky 16 = .ok (.invokevirtual 269, 3) := by decide +kernel
theorem dX12_isSky_19 : decode cX12_isSky 19 = .ok (.iload_n 1, 1) := by decide +kernel
theorem dX12_isSky_20 : decode cX12_isSky 20 = .ok (.if_icmp .ne 28, 3) := by decide +kernel
theorem dX12_isSky_23 : decode cX12_isSky 23 = .ok (.iload_n 2, 1) := by decide +kernel
theorem dX12_isSky_24 : decode cX12_isSky 24 = .ok (.aload_n 0, 1) := by decide +kernel
theorem dX12_isSky_25 : decode cX12_isSky 25 = .ok (.bipush 49, 2) := by decide +kernel
theorem dX12_isSky_27 : decode cX12_isSky 27 = .ok (.iload_n 3, 1) := by decide +kernel
theorem dX12_isSky_28 : decode cX12_isSky 28 = .ok (.iadd, 1) := by decide +kernel
theorem dX12_isSky_29 : decode cX12_isSky 29 = .ok (.invokevirtual 269, 3) := by decide +kernel
theorem dX12_isSky_32 : decode cX12_isSky 32 = .ok (.aload_n 0, 1) := by decide +kernel
theorem dX12_isSky_33 : decode cX12_isSky 33 = .ok (.bipush 53, 2) := by decide +kernel
theorem dX12_isSky_35 : decode cX12_isSky 35 = .ok (.iload_n 3, 1) := by decide +kernel
theorem dX12_isSky_36 : decode cX12_isSky 36 = .ok (.iadd, 1) := by decide +kernel
theorem dX12_isSky_37 : decode cX12_isSky 37 = .ok (.invokevirtual 269, 3) := by decide +kernel
theorem dX12_isSky_40 : decode cX12_isSky 40 = .ok (.invokestatic 101, 3) := by decide +kernel
theorem dX12_isSky_43 : decode cX12_isSky 43 = .ok (.ifCond .eq 5, 3) := by decide +kernel
theorem dX12_isSky_46 : decode cX12_isSky 46 = .ok (.iconst 1, 1) := by decide +kernel
theorem dX12_isSky_47 : decode cX12_isSky 47 = .ok (.ireturn, 1) := by decide +kernel
theorem dX12_isSky_48 : decode cX12_isSky 48 = .ok (.iinc 3 1, 3) := by decide +kernel
theorem dX12_isSky_51 : decode cX12_isSky 51 = .ok (.goto (-49), 3) := by decide +kernel
theorem dX12_isSky_54 : decode cX12_isSky 54 = .ok (.iconst 0, 1) := by decide +kernel
theorem dX12_isSky_55 : decode cX12_isSky 55 = .ok (.ireturn, 1) := by decide +kernel
noncomputable def fX12_isSky_l2 (μ : zM) (x0 : Nat) (x1 : Int32) (x2 : Int32) (F2 : Int32 → Option (Int32)) (x3_1 : Int32) : Option (Int32) :=
  zb1 (fX12_of μ x0 2) fun v5 =>
  if v5 ≤ x3_1 then (
  some 0)
  else (
  zb1 (fX12_of μ x0 (45 + x3_1)) fun v7 =>
  if v7 = x1 then (
  zb1 (fX12_of μ x0 (49 + x3_1)) fun v9 =>
  zb1 (fX12_of μ x0 (53 + x3_1)) fun v11 =>
  zb1 (fX12_in μ x2 v9 v11) fun v13 =>
  if v13 = 0 then (
  F2 (x3_1 + 1))
  else (
  some 1))
  else (
  F2 (x3_1 + 1)))
noncomputable def fX12_isSky (μ : zM) (x0 : Nat) (x1 : Int32) (x2 : Int32) : Option (Int32) := zgd (zm_ck μ 12 x0) <|
  zf1 (fX12_isSky_l2 μ x0 x1 x2) zfu 0
theorem fX12_isSky_ck {μ : zM} {x0 : Nat} {x1 : Int32} {x2 : Int32} {z : Int32} (h : fX12_isSky μ x0 x1 x2 = some z) : zm_ck μ 12 x0 = true := (zgd_s h).1
set_option maxHeartbeats 4000000 in
set_option maxRecDepth 100000 in
theorem cX12_isSky_ok {μ : zM} {x0 : Nat} {x1 : Int32} {x2 : Int32} {r : Int32} (hf : fX12_isSky μ x0 x1 x2 = some r) : zC yX12_isSky cX12_isSky 4 (some .boolean) 1 0 0 [.ref x0, .int x1, .int x2] μ (some (.int r)) μ := by
  replace hf := (zgd_s hf).2
  refine zC.of (by decide) (Nat.le_of_ble_eq_true rfl) (fun K hin => ?_)
  clear hin
  show zz K cX12_isSky (4, RX12, some .boolean, 1, 0, 0, some (.int r), μ) 0 0 0 [(0, .ref x0), (1, .int x1), (2, .int x2)] [] μ
  refine zr_iconst 0 dX12_isSky_0 (by decide) ?_
  refine zr_istore_n [(3, .int 0), (0, .ref x0), (1, .int x1), (2, .int x2)] dX12_isSky_1 (Nat.le_of_ble_eq_true rfl) rfl ?_
  have hL14 : ∀ (n : Nat) (x3_1 : Int32), zf1 (fX12_isSky_l2 μ x0 x1 x2) n x3_1 = some r → zz K cX12_isSky (4, RX12, some .boolean, 1, 0, 0, some (.int r), μ) 0 0 2 [(0, .ref x0), (1, .int x1), (2, .int x2), (3, .int x3_1)] [] μ := by
    intro n
    induction n with
    | zero => intro x3_1 hf; cases hf
    | succ n ih3 =>
      intro x3_1 hf
      replace hf := zf1_s hf
      generalize zf1 (fX12_isSky_l2 μ x0 x1 x2) n = F2 at hf ih3
      unfold fX12_isSky_l2 at hf
      refine zr_iload_n 3 dX12_isSky_2 rfl ?_
      refine zr_aload_n 0 dX12_isSky_3 rfl ?_
      refine zr_iconst 2 dX12_isSky_4 (by decide) ?_
      replace hf := zb1_s hf
      obtain ⟨v5, h4, hf⟩ := hf
      refine zr_callV (ci := 12) [.int 2] (cX12_of_ok h4) zvs_X12_of zl_1029 zl_1030 (fX12_of_ck h4) rfl rfl zl_1028 rfl (Nat.le_of_ble_eq_true rfl) (Nat.le_of_ble_eq_true rfl) (Nat.le_of_ble_eq_true rfl) (Nat.le_of_ble_eq_true rfl) dX12_isSky_5 rfl ?_
      refine zr_icmp_ge 54 dX12_isSky_8 (by decide) (fun hc => ?_) (fun hc => ?_)
      · rw [if_pos hc] at hf
        refine zr_iconst 0 dX12_isSky_54 (by decide) ?_
        cases hf
        exact zr_zret rfl dX12_isSky_55
      · rw [if_neg hc] at hf
        refine zr_aload_n 0 dX12_isSky_11 rfl ?_
        refine zr_bipush 45 dX12_isSky_12 (by decide) ?_
        refine zr_iload_n 3 dX12_isSky_14 rfl ?_
        refine zr_iadd dX12_isSky_15 ?_
        replace hf := zb1_s hf
        obtain ⟨v7, h6, hf⟩ := hf
        refine zr_callV (ci := 12) [.int (45 + x3_1)] (cX12_of_ok h6) zvs_X12_of zl_1029 zl_1030 (fX12_of_ck h6) rfl rfl zl_1028 rfl (Nat.le_of_ble_eq_true rfl) (Nat.le_of_ble_eq_true rfl) (Nat.le_of_ble_eq_true rfl) (Nat.le_of_ble_eq_true rfl) dX12_isSky_16 rfl ?_
        refine zr_iload_n 1 dX12_isSky_19 rfl ?_
        refine zr_icmp_ne 48 dX12_isSky_20 (by decide) (fun hc => ?_) (fun hc => ?_)
        · rw [if_neg hc] at hf
          refine zr_iinc (j := 3) (x3_1 + 1) [(3, .int (x3_1 + 1)), (0, .ref x0), (1, .int x1), (2, .int x2)] dX12_isSky_48 rfl rfl (Nat.le_of_ble_eq_true rfl) rfl ?_
          refine zr_goto 2 dX12_isSky_51 (by decide) ?_
          exact zr_lv [1, 2, 3, 0] rfl (ih3 (x3_1 + 1) hf)
        · rw [if_pos hc] at hf
          refine zr_iload_n 2 dX12_isSky_23 rfl ?_
          refine zr_aload_n 0 dX12_isSky_24 rfl ?_
          refine zr_bipush 49 dX12_isSky_25 (by decide) ?_
          refine zr_iload_n 3 dX12_isSky_27 rfl ?_
          refine zr_iadd dX12_isSky_28 ?_
          replace hf := zb1_s hf
          obtain ⟨v9, h8, hf⟩ := hf
          refine zr_callV (ci := 12) [.int (49 + x3_1)] (cX12_of_ok h8) zvs_X12_of zl_1029 zl_1030 (fX12_of_ck h8) rfl rfl zl_1028 rfl (Nat.le_of_ble_eq_true rfl) (Nat.le_of_ble_eq_true rfl) (Nat.le_of_ble_eq_true rfl) (Nat.le_of_ble_eq_true rfl) dX12_isSky_29 rfl ?_
          refine zr_aload_n 0 dX12_isSky_32 rfl ?_
          refine zr_bipush 53 dX12_isSky_33 (by decide) ?_
          refine zr_iload_n 3 dX12_isSky_35 rfl ?_
          refine zr_iadd dX12_isSky_36 ?_
          replace hf := zb1_s hf
          obtain ⟨v11, h10, hf⟩ := hf
          refine zr_callV (ci := 12) [.int (53 + x3_1)] (cX12_of_ok h10) zvs_X12_of zl_1029 zl_1030 (fX12_of_ck h10) rfl rfl zl_1028 rfl (Nat.le_of_ble_eq_true rfl) (Nat.le_of_ble_eq_true rfl) (Nat.le_of_ble_eq_true rfl) (Nat.le_of_ble_eq_true rfl) dX12_isSky_37 rfl ?_
          replace hf := zb1_s hf
          obtain ⟨v13, h12, hf⟩ := hf
          refine zr_callS [.int x2, .int v9, .int v11] (cX12_in_ok h12) zvs_X12_in zl_898 zl_897 rfl (Nat.le_of_ble_eq_true rfl) (Nat.le_of_ble_eq_true rfl) (Nat.le_of_ble_eq_true rfl) (Nat.le_of_ble_eq_true rfl) dX12_isSky_40 rfl ?_
          refine zr_if_eq 48 dX12_isSky_43 (by decide) (fun hc => ?_) (fun hc => ?_)
          · rw [if_pos hc] at hf
            refine zr_iinc (j := 3) (x3_1 + 1) [(3, .int (x3_1 + 1)), (0, .ref x0), (1, .int x1), (2, .int x2)] dX12_isSky_48 rfl rfl (Nat.le_of_ble_eq_true rfl) rfl ?_
            refine zr_goto 2 dX12_isSky_51 (by decide) ?_
            exact zr_lv [1, 2, 3, 0] rfl (ih3 (x3_1 + 1) hf)
          · rw [if_neg hc] at hf
            refine zr_iconst 1 dX12_isSky_46 (by decide) ?_
            cases hf
            exact zr_zret rfl dX12_isSky_47
  exact zr_lv [1, 2, 3, 0] rfl (hL14 _ 0 hf)
theorem zl_1033 : Cond.code yX12_isSky cX12_isSky 4 (some .boolean) ∈ zt := zt_at 1687 (by decide +kernel)
theorem zvs_X12_isSky : zvS yX12_isSky cX12_isSky 4 (some .boolean) 2 := ⟨zl_1033, zl_893, ⟨by decide +kernel, by decide +kernel, by decide +kernel⟩, by decide⟩
theorem zl_1034 : Cond.methodLink RX12 279 yX12_isSky ∈ zt := zt_at 1684 (by decide +kernel)
theorem zl_1035 : Cond.instanceMethod yX12_isSky ∈ zt := zt_at 1686 (by decide +kernel)
theorem zl_1036 : Cond.selects RX12 yX12_isSky yX12_isSky ∈ zt := zt_at 76 (by decide +kernel)
theorem dX12_judges_0 : decode cX12_judges 0 = .ok (.iload_n 1, 1) := by decide +kernel
theorem dX12_judges_1 : decode cX12_judges 1 = .ok (.aload_n 0, 1) := by decide +kernel
theorem dX12_judges_2 : decode cX12_judges 2 = .ok (.iconst 0, 1) := by decide +kernel
theorem dX12_judges_3 : decode cX12_judges 3 = .ok (.iload_n 2, 1) := by decide +kernel
theorem dX12_judges_4 : decode cX12_judges 4 = .ok (.invokevirtual 279, 3) := by decide +kernel
theorem dX12_judges_7 : decode cX12_judges 7 = .ok (.ifCond .eq 7, 3) := by decide +kernel
theorem dX12_judges_10 : decode cX12_judges 10 = .ok (.iconst 1, 1) := by decide +kernel
theorem dX12_judges_11 : decode cX12_judges 11 = .ok (.goto 4, 3) := by decide +kernel
theorem dX12_judges_14 : decode cX12_judges 14 = .ok (.iconst 2, 1) := by decide +kernel
theorem dX12_judges_15 : decode cX12_judges 15 = .ok (.if_icmp .ne 7, 3) := by decide +kernel
theorem dX12_judges_18 : decode cX12_judges 18 = .ok (.iconst 1, 1) := by decide +kernel
theorem dX12_judges_19 : decode cX12_judges 19 = .ok (.goto 4, 3) := by decide +kernel
theorem dX12_judges_22 : decode cX12_judges 22 = .ok (.iconst 0, 1) := by decide +kernel
theorem dX12_judges_23 : decode cX12_judges 23 = .ok (.ireturn, 1) := by decide +kernel
noncomputable def fX12_judges (μ : zM) (x0 : Nat) (x1 : Int32) (x2 : Int32) : Option (Int32) := zgd (zm_ck μ 12 x0) <|
  zb1 (fX12_isSky μ x0 0 x2) fun v2 =>
  zb1 (if v2 = 0 then (
  some 2)
  else (
  some 1) : Option (Int32)) fun (s3 : Int32) =>
  zb1 (if x1 = s3 then (
  some 1)
  else (
  some 0) : Option (Int32)) fun (s5 : Int32) =>
  zb1 (zbz s5) fun v7 =>
  some v7
theorem fX12_judges_ck {μ : zM} {x0 : Nat} {x1 : Int32} {x2 : Int32} {z : Int32} (h : fX12_judges μ x0 x1 x2 = some z) : zm_ck μ 12 x0 = true := (zgd_s h).1
set_option maxHeartbeats 4000000 in
set_option maxRecDepth 100000 in
theorem cX12_judges_ok {μ : zM} {x0 : Nat} {x1 : Int32} {x2 : Int32} {r : Int32} (hf : fX12_judges μ x0 x1 x2 = some r) : zC yX12_judges cX12_judges 3 (some .boolean) 2 0 0 [.ref x0, .int x1, .int x2] μ (some (.int r)) μ := by
  replace hf := (zgd_s hf).2
  refine zC.of (by decide) (Nat.le_of_ble_eq_true rfl) (fun K hin => ?_)
  clear hin
  show zz K cX12_judges (3, RX12, some .boolean, 2, 0, 0, some (.int r), μ) 0 0 0 [(0, .ref x0), (1, .int x1), (2, .int x2)] [] μ
  refine zr_iload_n 1 dX12_judges_0 rfl ?_
  refine zr_aload_n 0 dX12_judges_1 rfl ?_
  refine zr_iconst 0 dX12_judges_2 (by decide) ?_
  refine zr_iload_n 2 dX12_judges_3 rfl ?_
  replace hf := zb1_s hf
  obtain ⟨v2, h1, hf⟩ := hf
  refine zr_callV (ci := 12) [.int 0, .int x2] (cX12_isSky_ok h1) zvs_X12_isSky zl_1035 zl_1036 (fX12_isSky_ck h1) rfl rfl zl_1034 rfl (Nat.le_of_ble_eq_true rfl) (Nat.le_of_ble_eq_true rfl) (Nat.le_of_ble_eq_true rfl) (Nat.le_of_ble_eq_true rfl) dX12_judges_4 rfl ?_
  replace hf := zb1_s hf
  obtain ⟨s3, hg, hf⟩ := hf
  have hj4 : zz K cX12_judges (3, RX12, some .boolean, 2, 0, 0, some (.int r), μ) 0 0 15 [] [.int s3, .int x1] μ := by
    replace hf := zb1_s hf
    obtain ⟨s5, hg, hf⟩ := hf
    have hj6 : zz K cX12_judges (3, RX12, some .boolean, 2, 0, 0, some (.int r), μ) 0 0 23 [] [.int s5] μ := by
      replace hf := zb1_s hf
      obtain ⟨v7, hn8, hf⟩ := hf
      replace hn8 := zbz_s hn8
      obtain ⟨hn8, rfl⟩ := hn8
      cases hf
      exact zr_zret hn8 dX12_judges_23
    clear hf
    have hf := hg
    clear hg
    refine zr_icmp_ne 22 dX12_judges_15 (by decide) (fun hc => ?_) (fun hc => ?_)
    · rw [if_neg hc] at hf
      refine zr_iconst 0 dX12_judges_22 (by decide) ?_
      cases hf
      exact zr_lv [] rfl hj6
    · rw [if_pos hc] at hf
      refine zr_iconst 1 dX12_judges_18 (by decide) ?_
      refine zr_goto 23 dX12_judges_19 (by decide) ?_
      cases hf
      exact zr_lv [] rfl hj6
  clear hf
  have hf := hg
  clear hg
  refine zr_if_eq 14 dX12_judges_7 (by decide) (fun hc => ?_) (fun hc => ?_)
  · rw [if_pos hc] at hf
    refine zr_iconst 2 dX12_judges_14 (by decide) ?_
    cases hf
    exact zr_lv [] rfl hj4
  · rw [if_neg hc] at hf
    refine zr_iconst 1 dX12_judges_10 (by decide) ?_
    refine zr_goto 15 dX12_judges_11 (by decide) ?_
    cases hf
    exact zr_lv [] rfl hj4
theorem dX12_isStill_0 : decode cX12_isStill 0 = .ok (.iload_n 1, 1) := by decide +kernel
theorem dX12_isStill_1 : decode cX12_isStill 1 = .ok (.iconst 1, 1) := by decide +kernel
theorem dX12_isStill_2 : decode cX12_isStill 2 = .ok (.if_icmp .ne 16, 3) := by decide +kernel
theorem dX12_isStill_5 : decode cX12_isStill 5 = .ok (.aload_n 0, 1) := by decide +kernel
theorem dX12_isStill_6 : decode cX12_isStill 6 = .ok (.iconst 1, 1) := by decide +kernel
theorem dX12_isStill_7 : decode cX12_isStill 7 = .ok (.iload_n 2, 1) := by decide +kernel
theorem dX12_isStill_8 : decode cX12_isStill 8 = .ok (.invokevirtual 279, 3) := by decide +kernel
theorem dX12_isStill_11 : decode cX12_isStill 11 = .ok (.ifCond .eq 7, 3) := by decide +kernel
theorem dX12_isStill_14 : decode cX12_isStill 14 = .ok (.iconst 1, 1) := by decide +kernel
theorem dX12_isStill_15 : decode cX12_isStill 15 = .ok (.goto 4, 3) := by decide +kernel
theorem dX12_isStill_18 : decode cX12_isStill 18 = .ok (.iconst 0, 1) := by decide +kernel
theorem dX12_isStill_19 : decode cX12_isStill 19 = .ok (.ireturn, 1) := by decide +kernel
noncomputable def fX12_isStill (μ : zM) (x0 : Nat) (x1 : Int32) (x2 : Int32) : Option (Int32) := zgd (zm_ck μ 12 x0) <|
  zb1 (if x1 = 1 then (
  zb1 (fX12_isSky μ x0 1 x2) fun v6 =>
  if v6 = 0 then (
  some 0)
  else (
  some 1))
  else (
  some 0) : Option (Int32)) fun (s1 : Int32) =>
  zb1 (zbz s1) fun v3 =>
  some v3
theorem fX12_isStill_ck {μ : zM} {x0 : Nat} {x1 : Int32} {x2 : Int32} {z : Int32} (h : fX12_isStill μ x0 x1 x2 = some z) : zm_ck μ 12 x0 = true := (zgd_s h).1
set_option maxHeartbeats 4000000 in
set_option maxRecDepth 100000 in
theorem cX12_isStill_ok {μ : zM} {x0 : Nat} {x1 : Int32} {x2 : Int32} {r : Int32} (hf : fX12_isStill μ x0 x1 x2 = some r) : zC yX12_isStill cX12_isStill 3 (some .boolean) 2 0 0 [.ref x0, .int x1, .int x2] μ (some (.int r)) μ := by
  replace hf := (zgd_s hf).2
  refine zC.of (by decide) (Nat.le_of_ble_eq_true rfl) (fun K hin => ?_)
  clear hin
  show zz K cX12_isStill (3, RX12, some .boolean, 2, 0, 0, some (.int r), μ) 0 0 0 [(0, .ref x0), (1, .int x1), (2, .int x2)] [] μ
  refine zr_iload_n 1 dX12_isStill_0 rfl ?_
  refine zr_iconst 1 dX12_isStill_1 (by decide) ?_
  replace hf := zb1_s hf
  obtain ⟨s1, hg, hf⟩ := hf
  have hj2 : zz K cX12_isStill (3, RX12, some .boolean, 2, 0, 0, some (.int r), μ) 0 0 19 [] [.int s1] μ := by
    replace hf := zb1_s hf
    obtain ⟨v3, hn4, hf⟩ := hf
    replace hn4 := zbz_s hn4
    obtain ⟨hn4, rfl⟩ := hn4
    cases hf
    exact zr_zret hn4 dX12_isStill_19
  clear hf
  have hf := hg
  clear hg
  refine zr_icmp_ne 18 dX12_isStill_2 (by decide) (fun hc => ?_) (fun hc => ?_)
  · rw [if_neg hc] at hf
    refine zr_iconst 0 dX12_isStill_18 (by decide) ?_
    cases hf
    exact zr_lv [] rfl hj2
  · rw [if_pos hc] at hf
    refine zr_aload_n 0 dX12_isStill_5 rfl ?_
    refine zr_iconst 1 dX12_isStill_6 (by decide) ?_
    refine zr_iload_n 2 dX12_isStill_7 rfl ?_
    replace hf := zb1_s hf
    obtain ⟨v6, h5, hf⟩ := hf
    refine zr_callV (ci := 12) [.int 1, .int x2] (cX12_isSky_ok h5) zvs_X12_isSky zl_1035 zl_1036 (fX12_isSky_ck h5) rfl rfl zl_1034 rfl (Nat.le_of_ble_eq_true rfl) (Nat.le_of_ble_eq_true rfl) (Nat.le_of_ble_eq_true rfl) (Nat.le_of_ble_eq_true rfl) dX12_isStill_8 rfl ?_
    refine zr_if_eq 18 dX12_isStill_11 (by decide) (fun hc => ?_) (fun hc => ?_)
    · rw [if_pos hc] at hf
      refine zr_iconst 0 dX12_isStill_18 (by decide) ?_
      cases hf
      exact zr_lv [] rfl hj2
    · rw [if_neg hc] at hf
      refine zr_iconst 1 dX12_isStill_14 (by decide) ?_
      refine zr_goto 19 dX12_isStill_15 (by decide) ?_
      cases hf
      exact zr_lv [] rfl hj2
theorem zl_1037 : Cond.code yX12_apart cX12_apart 2 (some .int) ∈ zt := zt_at 1676 (by decide +kernel)
theorem zvs_X12_apart : zvS yX12_apart cX12_apart 2 (some .int) 2 := ⟨zl_1037, zl_893, ⟨by decide +kernel, by decide +kernel, by decide +kernel⟩, by decide⟩
theorem zl_1038 : Cond.methodLink RX12 282 yX12_apart ∈ zt := zt_at 1674 (by decide +kernel)
theorem zl_1039 : Cond.static yX12_apart ∈ zt := zt_at 1675 (by decide +kernel)
theorem dX12_wayOf_0 : decode cX12_wayOf 0 = .ok (.iload_n 3, 1) := by decide +kernel
theorem dX12_wayOf_1 : decode cX12_wayOf 1 = .ok (.ifCond .ne 11, 3) := by decide +kernel
theorem dX12_wayOf_4 : decode cX12_wayOf 4 = .ok (.iload_n 1, 1) := by decide +kernel
theorem dX12_wayOf_5 : decode cX12_wayOf 5 = .ok (.iload_n 2, 1) := by decide +kernel
theorem dX12_wayOf_6 : decode cX12_wayOf 6 = .ok (.invokestatic 282, 3) := by decide +kernel
theorem dX12_wayOf_9 : decode cX12_wayOf 9 = .ok (.goto 24, 3) := by decide +kernel
theorem dX12_wayOf_12 : decode cX12_wayOf 12 = .ok (.iload_n 3, 1) := by decide +kernel
theorem dX12_wayOf_13 : decode cX12_wayOf 13 = .ok (.iconst 1, 1) := by decide +kernel
theorem dX12_wayOf_14 : decode cX12_wayOf 14 = .ok (.if_icmp .ne 9, 3) := by decide +kernel
theorem dX12_wayOf_17 : decode cX12_wayOf 17 = .ok (.iload_n 1, 1) := by decide +kernel
theorem dX12_wayOf_18 : decode cX12_wayOf 18 = .ok (.iload_n 2, 1) := by decide +kernel
theorem dX12_wayOf_19 : decode cX12_wayOf 19 = .ok (.iadd, 1) := by decide +kernel
theorem dX12_wayOf_20 : decode cX12_wayOf 20 = .ok (.goto 13, 3) := by decide +kernel
theorem dX12_wayOf_23 : decode cX12_wayOf 23 = .ok (.iconst 2, 1) := by decide +kernel
theorem dX12_wayOf_24 : decode cX12_wayOf 24 = .ok (.aload_n 0, 1) := by decide +kernel
theorem dX12_wayOf_25 : decode cX12_wayOf 25 = .ok (.getfield 273, 3) := by decide +kernel
theorem dX12_wayOf_28 : decode cX12_wayOf 28 = .ok (.imul, 1) := by decide +kernel
theorem dX12_wayOf_29 : decode cX12_wayOf 29 = .ok (.iload_n 1, 1) := by decide +kernel
theorem dX12_wayOf_30 : decode cX12_wayOf 30 = .ok (.isub, 1) := by decide +kernel
theorem dX12_wayOf_31 : decode cX12_wayOf 31 = .ok (.iload_n 2, 1) := by decide +kernel
theorem dX12_wayOf_32 : decode cX12_wayOf 32 = .ok (.isub, 1) := by decide +kernel
theorem dX12_wayOf_33 : decode cX12_wayOf 33 = .ok (.ireturn, 1) := by decide +kernel
noncomputable def fX12_wayOf (μ : zM) (x0 : Nat) (x1 : Int32) (x2 : Int32) (x3 : Int32) : Option (Int32) := zgd (zm_ck μ 12 x0) <|
  zb1 (if x3 = 0 then (
  zb1 (fX12_apart μ x1 x2) fun v6 =>
  some v6)
  else (
  if x3 = 1 then (
  some (x1 + x2))
  else (
  zb1 (zm_gI μ 12 x0 24) fun v3 =>
  some (((2 * v3) - x1) - x2))) : Option (Int32)) fun (s1 : Int32) =>
  some s1
theorem fX12_wayOf_ck {μ : zM} {x0 : Nat} {x1 : Int32} {x2 : Int32} {x3 : Int32} {z : Int32} (h : fX12_wayOf μ x0 x1 x2 x3 = some z) : zm_ck μ 12 x0 = true := (zgd_s h).1
set_option maxHeartbeats 4000000 in
set_option maxRecDepth 100000 in
theorem cX12_wayOf_ok {μ : zM} {x0 : Nat} {x1 : Int32} {x2 : Int32} {x3 : Int32} {r : Int32} (hf : fX12_wayOf μ x0 x1 x2 x3 = some r) : zC yX12_wayOf cX12_wayOf 4 (some .int) 1 0 0 [.ref x0, .int x1, .int x2, .int x3] μ (some (.int r)) μ := by
  replace hf := (zgd_s hf).2
  refine zC.of (by decide) (Nat.le_of_ble_eq_true rfl) (fun K hin => ?_)
  clear hin
  show zz K cX12_wayOf (4, RX12, some .int, 1, 0, 0, some (.int r), μ) 0 0 0 [(0, .ref x0), (1, .int x1), (2, .int x2), (3, .int x3)] [] μ
  refine zr_iload_n 3 dX12_wayOf_0 rfl ?_
  replace hf := zb1_s hf
  obtain ⟨s1, hg, hf⟩ := hf
  have hj2 : zz K cX12_wayOf (4, RX12, some .int, 1, 0, 0, some (.int r), μ) 0 0 33 [] [.int s1] μ := by
    cases hf
    exact zr_iret dX12_wayOf_33
  clear hf
  have hf := hg
  clear hg
  refine zr_if_ne 12 dX12_wayOf_1 (by decide) (fun hc => ?_) (fun hc => ?_)
  · rw [if_neg hc] at hf
    refine zr_iload_n 3 dX12_wayOf_12 rfl ?_
    refine zr_iconst 1 dX12_wayOf_13 (by decide) ?_
    refine zr_icmp_ne 23 dX12_wayOf_14 (by decide) (fun hc => ?_) (fun hc => ?_)
    · rw [if_neg hc] at hf
      refine zr_iconst 2 dX12_wayOf_23 (by decide) ?_
      refine zr_aload_n 0 dX12_wayOf_24 rfl ?_
      replace hf := zb1_s hf
      obtain ⟨v3, h4, hf⟩ := hf
      refine zr_get (zm_gI_g h4) zk12 (by decide) zl_1031 dX12_wayOf_25 ?_
      refine zr_imul dX12_wayOf_28 ?_
      refine zr_iload_n 1 dX12_wayOf_29 rfl ?_
      refine zr_isub dX12_wayOf_30 ?_
      refine zr_iload_n 2 dX12_wayOf_31 rfl ?_
      refine zr_isub dX12_wayOf_32 ?_
      cases hf
      exact zr_lv [] rfl hj2
    · rw [if_pos hc] at hf
      refine zr_iload_n 1 dX12_wayOf_17 rfl ?_
      refine zr_iload_n 2 dX12_wayOf_18 rfl ?_
      refine zr_iadd dX12_wayOf_19 ?_
      refine zr_goto 33 dX12_wayOf_20 (by decide) ?_
      cases hf
      exact zr_lv [] rfl hj2
  · rw [if_pos hc] at hf
    refine zr_iload_n 1 dX12_wayOf_4 rfl ?_
    refine zr_iload_n 2 dX12_wayOf_5 rfl ?_
    replace hf := zb1_s hf
    obtain ⟨v6, h5, hf⟩ := hf
    refine zr_callS [.int x1, .int x2] (cX12_apart_ok h5) zvs_X12_apart zl_1039 zl_1038 rfl (Nat.le_of_ble_eq_true rfl) (Nat.le_of_ble_eq_true rfl) (Nat.le_of_ble_eq_true rfl) (Nat.le_of_ble_eq_true rfl) dX12_wayOf_6 rfl ?_
    refine zr_goto 33 dX12_wayOf_9 (by decide) ?_
    cases hf
    exact zr_lv [] rfl hj2
theorem zl_1040 : Cond.code yX12_isStill cX12_isStill 3 (some .boolean) ∈ zt := zt_at 1683 (by decide +kernel)
theorem zvs_X12_isStill : zvS yX12_isStill cX12_isStill 3 (some .boolean) 2 := ⟨zl_1040, zl_893, ⟨by decide +kernel, by decide +kernel, by decide +kernel⟩, by decide⟩
theorem zl_1041 : Cond.methodLink RX12 285 yX12_isStill ∈ zt := zt_at 1680 (by decide +kernel)
theorem zl_1042 : Cond.instanceMethod yX12_isStill ∈ zt := zt_at 1682 (by decide +kernel)
theorem zl_1043 : Cond.selects RX12 yX12_isStill yX12_isStill ∈ zt := zt_at 75 (by decide +kernel)
theorem zl_1044 : Cond.code yX12_judges cX12_judges 3 (some .boolean) ∈ zt := zt_at 1691 (by decide +kernel)
theorem zvs_X12_judges : zvS yX12_judges cX12_judges 3 (some .boolean) 2 := ⟨zl_1044, zl_893, ⟨by decide +kernel, by decide +kernel, by decide +kernel⟩, by decide⟩
theorem zl_1045 : Cond.methodLink RX12 288 yX12_judges ∈ zt := zt_at 1688 (by decide +kernel)
theorem zl_1046 : Cond.instanceMethod yX12_judges ∈ zt := zt_at 1690 (by decide +kernel)
theorem zl_1047 : Cond.selects RX12 yX12_judges yX12_judges ∈ zt := zt_at 77 (by decide +kernel)
theorem dX12_given_0 : decode cX12_given 0 = .ok (.aload_n 0, 1) := by decide +kernel
theorem dX12_given_1 : decode cX12_given 1 = .ok (.iload_n 3, 1) := by decide +kernel
theorem dX12_given_2 : decode cX12_given 2 = .ok (.iload_n 2, 1) := by decide +kernel
theorem dX12_given_3 : decode cX12_given 3 = .ok (.invokevirtual 285, 3) := by decide +kernel
theorem dX12_given_6 : decode cX12_given 6 = .ok (.ifCond .eq 7, 3) := by decide +kernel
theorem dX12_given_9 : decode cX12_given 9 = .ok (.iconst (-1), 1) := by decide +kernel
theorem dX12_given_10 : decode cX12_given 10 = .ok (.goto 23, 3) := by decide +kernel
theorem dX12_given_13 : decode cX12_given 13 = .ok (.aload_n 0, 1) := by decide +kernel
theorem dX12_given_14 : decode cX12_given 14 = .ok (.iload_n 3, 1) := by decide +kernel
theorem dX12_given_15 : decode cX12_given 15 = .ok (.iload_n 2, 1) := by decide +kernel
theorem dX12_given_16 : decode cX12_given 16 = .ok (.invokevirtual 288, 3) := by decide +kernel
theorem dX12_given_19 : decode cX12_given 19 = .ok (.ifCond .eq 13, 3) := by decide +kernel
theorem dX12_given_22 : decode cX12_given 22 = .ok (.aload_n 0, 1) := by decide +kernel
theorem dX12_given_23 : decode cX12_given 23 = .ok (.iconst 3, 1) := by decide +kernel
theorem dX12_given_24 : decode cX12_given 24 = .ok (.iload_n 1, 1) := by decide +kernel
theorem dX12_given_25 : decode cX12_given 25 = .ok (.iadd, 1) := by decide +kernel
theorem dX12_given_26 : decode cX12_given 26 = .ok (.invokevirtual 269, 3) := by decide +kernel
theorem dX12_given_29 : decode cX12_given 29 = .ok (.goto 4, 3) := by decide +kernel
theorem dX12_given_32 : decode cX12_given 32 = .ok (.iload_n 1, 1) := by decide +kernel
theorem dX12_given_33 : decode cX12_given 33 = .ok (.ireturn, 1) := by decide +kernel
noncomputable def fX12_given (μ : zM) (x0 : Nat) (x1 : Int32) (x2 : Int32) (x3 : Int32) : Option (Int32) := zgd (zm_ck μ 12 x0) <|
  zb1 (fX12_isStill μ x0 x3 x2) fun v2 =>
  zb1 (if v2 = 0 then (
  zb1 (fX12_judges μ x0 x3 x2) fun v6 =>
  if v6 = 0 then (
  some x1)
  else (
  zb1 (fX12_of μ x0 (3 + x1)) fun v8 =>
  some v8))
  else (
  some (-1)) : Option (Int32)) fun (s3 : Int32) =>
  some s3
theorem fX12_given_ck {μ : zM} {x0 : Nat} {x1 : Int32} {x2 : Int32} {x3 : Int32} {z : Int32} (h : fX12_given μ x0 x1 x2 x3 = some z) : zm_ck μ 12 x0 = true := (zgd_s h).1
set_option maxHeartbeats 4000000 in
set_option maxRecDepth 100000 in
theorem cX12_given_ok {μ : zM} {x0 : Nat} {x1 : Int32} {x2 : Int32} {x3 : Int32} {r : Int32} (hf : fX12_given μ x0 x1 x2 x3 = some r) : zC yX12_given cX12_given 4 (some .int) 3 0 0 [.ref x0, .int x1, .int x2, .int x3] μ (some (.int r)) μ := by
  replace hf := (zgd_s hf).2
  refine zC.of (by decide) (Nat.le_of_ble_eq_true rfl) (fun K hin => ?_)
  clear hin
  show zz K cX12_given (4, RX12, some .int, 3, 0, 0, some (.int r), μ) 0 0 0 [(0, .ref x0), (1, .int x1), (2, .int x2), (3, .int x3)] [] μ
  refine zr_aload_n 0 dX12_given_0 rfl ?_
  refine zr_iload_n 3 dX12_given_1 rfl ?_
  refine zr_iload_n 2 dX12_given_2 rfl ?_
  replace hf := zb1_s hf
  obtain ⟨v2, h1, hf⟩ := hf
  refine zr_callV (ci := 12) [.int x3, .int x2] (cX12_isStill_ok h1) zvs_X12_isStill zl_1042 zl_1043 (fX12_isStill_ck h1) rfl rfl zl_1041 rfl (Nat.le_of_ble_eq_true rfl) (Nat.le_of_ble_eq_true rfl) (Nat.le_of_ble_eq_true rfl) (Nat.le_of_ble_eq_true rfl) dX12_given_3 rfl ?_
  replace hf := zb1_s hf
  obtain ⟨s3, hg, hf⟩ := hf
  have hj4 : zz K cX12_given (4, RX12, some .int, 3, 0, 0, some (.int r), μ) 0 0 33 [] [.int s3] μ := by
    cases hf
    exact zr_iret dX12_given_33
  clear hf
  have hf := hg
  clear hg
  refine zr_if_eq 13 dX12_given_6 (by decide) (fun hc => ?_) (fun hc => ?_)
  · rw [if_pos hc] at hf
    refine zr_aload_n 0 dX12_given_13 rfl ?_
    refine zr_iload_n 3 dX12_given_14 rfl ?_
    refine zr_iload_n 2 dX12_given_15 rfl ?_
    replace hf := zb1_s hf
    obtain ⟨v6, h5, hf⟩ := hf
    refine zr_callV (ci := 12) [.int x3, .int x2] (cX12_judges_ok h5) zvs_X12_judges zl_1046 zl_1047 (fX12_judges_ck h5) rfl rfl zl_1045 rfl (Nat.le_of_ble_eq_true rfl) (Nat.le_of_ble_eq_true rfl) (Nat.le_of_ble_eq_true rfl) (Nat.le_of_ble_eq_true rfl) dX12_given_16 rfl ?_
    refine zr_if_eq 32 dX12_given_19 (by decide) (fun hc => ?_) (fun hc => ?_)
    · rw [if_pos hc] at hf
      refine zr_iload_n 1 dX12_given_32 rfl ?_
      cases hf
      exact zr_lv [] rfl hj4
    · rw [if_neg hc] at hf
      refine zr_aload_n 0 dX12_given_22 rfl ?_
      refine zr_iconst 3 dX12_given_23 (by decide) ?_
      refine zr_iload_n 1 dX12_given_24 rfl ?_
      refine zr_iadd dX12_given_25 ?_
      replace hf := zb1_s hf
      obtain ⟨v8, h7, hf⟩ := hf
      refine zr_callV (ci := 12) [.int (3 + x1)] (cX12_of_ok h7) zvs_X12_of zl_1029 zl_1030 (fX12_of_ck h7) rfl rfl zl_1028 rfl (Nat.le_of_ble_eq_true rfl) (Nat.le_of_ble_eq_true rfl) (Nat.le_of_ble_eq_true rfl) (Nat.le_of_ble_eq_true rfl) dX12_given_26 rfl ?_
      refine zr_goto 33 dX12_given_29 (by decide) ?_
      cases hf
      exact zr_lv [] rfl hj4
  · rw [if_neg hc] at hf
    refine zr_iconst (-1) dX12_given_9 (by decide) ?_
    refine zr_goto 33 dX12_given_10 (by decide) ?_
    cases hf
    exact zr_lv [] rfl hj4
