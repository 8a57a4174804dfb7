theorem zl_855 : Cond.constantLong RX12 204 33610324346168690 ∈ zt := zt_at 1606 (by decide +kernel)
theorem zl_856 : Cond.constantLong RX12 206 7561593 ∈ zt := zt_at 1607 (by decide +kernel)
theorem zl_857 : Cond.constantLong RX12 208 495673374068 ∈ zt := zt_at 1608 (by decide +kernel)
theorem zl_858 : Cond.constantLong RX12 210 2002873451 ∈ zt := zt_at 1609 (by decide +kernel)
theorem zl_859 : Cond.constantLong RX12 212 2002872692 ∈ zt := zt_at 1610 (by decide +kernel)
theorem dX12_deedBy_0 : decode cX12_deedBy 0 = .ok (.lload_n 0, 1) := by decide +kernel
theorem dX12_deedBy_1 : decode cX12_deedBy 1 = .ok (.ldc2_w 204, 3) := by decide +kernel
theorem dX12_deedBy_4 : decode cX12_deedBy 4 = .ok (.lcmp, 1) := by decide +kernel
theorem dX12_deedBy_5 : decode cX12_deedBy 5 = .ok (.ifCond .ne 7, 3) := by decide +kernel
theorem dX12_deedBy_8 : decode cX12_deedBy 8 = .ok (.iconst 0, 1) := by decide +kernel
theorem dX12_deedBy_9 : decode cX12_deedBy 9 = .ok (.goto 52, 3) := by decide +kernel
theorem dX12_deedBy_12 : decode cX12_deedBy 12 = .ok (.lload_n 0, 1) := by decide +kernel
theorem dX12_deedBy_13 : decode cX12_deedBy 13 = .ok (.ldc2_w 206, 3) := by decide +kernel
theorem dX12_deedBy_16 : decode cX12_deedBy 16 = .ok (.lcmp, 1) := by decide +kernel
theorem dX12_deedBy_17 : decode cX12_deedBy 17 = .ok (.ifCond .ne 7, 3) := by decide +kernel
theorem dX12_deedBy_20 : decode cX12_deedBy 20 = .ok (.iconst 1, 1) := by decide +kernel
theorem dX12_deedBy_21 : decode cX12_deedBy 21 = .ok (.goto 40, 3) := by decide +kernel
theorem dX12_deedBy_24 : decode cX12_deedBy 24 = .ok (.lload_n 0, 1) := by decide +kernel
theorem dX12_deedBy_25 : decode cX12_deedBy 25 = .ok (.ldc2_w 208, 3) := by decide +kernel
theorem dX12_deedBy_28 : decode cX12_deedBy 28 = .ok (.lcmp, 1) := by decide +kernel
theorem dX12_deedBy_29 : decode cX12_deedBy 29 = .ok (.ifCond .ne 7, 3) := by decide +kernel
theorem dX12_deedBy_32 : decode cX12_deedBy 32 = .ok (.iconst 2, 1) := by decide +kernel
theorem dX12_deedBy_33 : decode cX12_deedBy 33 = .ok (.goto 28, 3) := by decide +kernel
theorem dX12_deedBy_36 : decode cX12_deedBy 36 = .ok (.lload_n 0, 1) := by decide +kernel
theorem dX12_deedBy_37 : decode cX12_deedBy 37 = .ok (.ldc2_w 210, 3) := by decide +kernel
theorem dX12_deedBy_40 : decode cX12_deedBy 40 = .ok (.lcmp, 1) := by decide +kernel
theorem dX12_deedBy_41 : decode cX12_deedBy 41 = .ok (.ifCond .ne 7, 3) := by decide +kernel
theorem dX12_deedBy_44 : decode cX12_deedBy 44 = .ok (.iconst 3, 1) := by decide +kernel
theorem dX12_deedBy_45 : decode cX12_deedBy 45 = .ok (.goto 16, 3) := by decide +kernel
theorem dX12_deedBy_48 : decode cX12_deedBy 48 = .ok (.lload_n 0, 1) := by decide +kernel
theorem dX12_deedBy_49 : decode cX12_deedBy 49 = .ok (.ldc2_w 212, 3) := by decide +kernel
theorem dX12_deedBy_52 : decode cX12_deedBy 52 = .ok (.lcmp, 1) := by decide +kernel
theorem dX12_deedBy_53 : decode cX12_deedBy 53 = .ok (.ifCond .ne 7, 3) := by decide +kernel
theorem dX12_deedBy_56 : decode cX12_deedBy 56 = .ok (.iconst 4, 1) := by decide +kernel
theorem dX12_deedBy_57 : decode cX12_deedBy 57 = .ok (.goto 4, 3) := by decide +kernel
theorem dX12_deedBy_60 : decode cX12_deedBy 60 = .ok (.iconst (-1), 1) := by decide +kernel
theorem dX12_deedBy_61 : decode cX12_deedBy 61 = .ok (.ireturn, 1) := by decide +kernel
def fX12_deedBy (μ : zM) (x0 : Int64) : Option (Int32) :=
  zb1 (if (lg_cmp x0 33610324346168690) = 0 then (
  some 0)
  else (
  if (lg_cmp x0 7561593) = 0 then (
  some 1)
  else (
  if (lg_cmp x0 495673374068) = 0 then (
  some 2)
  else (
  if (lg_cmp x0 2002873451) = 0 then (
  some 3)
  else (
  if (lg_cmp x0 2002872692) = 0 then (
  some 4)
  else (
  some (-1))))))) fun s1 =>
  some s1
set_option maxHeartbeats 4000000 in
set_option maxRecDepth 100000 in
theorem cX12_deedBy_ok {μ : zM} {x0 : Int64} {r : Int32} (hf : fX12_deedBy μ x0 = some r) : zC yX12_deedBy cX12_deedBy 2 (some .int) 0 0 0 [.long x0] μ (some (.int r)) μ := by
  unfold fX12_deedBy at hf
  refine zC.of (by decide) (Nat.le_of_ble_eq_true rfl) (fun K hin => ?_)
  clear hin
  show zz K cX12_deedBy (2, RX12, some .int, 0, 0, 0, some (.int r), μ) 0 0 0 [(0, .long x0)] [] μ
  refine zr_lload_n 0 dX12_deedBy_0 rfl ?_
  refine zr_ldc2 zl_855 dX12_deedBy_1 ?_
  refine zr_lcmp dX12_deedBy_4 ?_
  replace hf := zb1_s hf
  obtain ⟨s1, hg, hf⟩ := hf
  have hj2 : zz K cX12_deedBy (2, RX12, some .int, 0, 0, 0, some (.int r), μ) 0 0 61 [] [.int s1] μ := by
    cases hf
    exact zr_iret dX12_deedBy_61
  clear hf
  have hf := hg
  clear hg
  refine zr_if_ne 12 dX12_deedBy_5 (by decide) (fun hc => ?_) (fun hc => ?_)
  · rw [if_neg hc] at hf
    refine zr_lload_n 0 dX12_deedBy_12 rfl ?_
    refine zr_ldc2 zl_856 dX12_deedBy_13 ?_
    refine zr_lcmp dX12_deedBy_16 ?_
    refine zr_if_ne 24 dX12_deedBy_17 (by decide) (fun hc => ?_) (fun hc => ?_)
    · rw [if_neg hc] at hf
      refine zr_lload_n 0 dX12_deedBy_24 rfl ?_
      refine zr_ldc2 zl_857 dX12_deedBy_25 ?_
      refine zr_lcmp dX12_deedBy_28 ?_
      refine zr_if_ne 36 dX12_deedBy_29 (by decide) (fun hc => ?_) (fun hc => ?_)
      · rw [if_neg hc] at hf
        refine zr_lload_n 0 dX12_deedBy_36 rfl ?_
        refine zr_ldc2 zl_858 dX12_deedBy_37 ?_
        refine zr_lcmp dX12_deedBy_40 ?_
        refine zr_if_ne 48 dX12_deedBy_41 (by decide) (fun hc => ?_) (fun hc => ?_)
        · rw [if_neg hc] at hf
          refine zr_lload_n 0 dX12_deedBy_48 rfl ?_
          refine zr_ldc2 zl_859 dX12_deedBy_49 ?_
          refine zr_lcmp dX12_deedBy_52 ?_
          refine zr_if_ne 60 dX12_deedBy_53 (by decide) (fun hc => ?_) (fun hc => ?_)
          · rw [if_neg hc] at hf
            refine zr_iconst (-1) dX12_deedBy_60 (by decide) ?_
            cases hf
            exact zr_lv [] rfl hj2
          · rw [if_pos hc] at hf
            refine zr_iconst 4 dX12_deedBy_56 (by decide) ?_
            refine zr_goto 61 dX12_deedBy_57 (by decide) ?_
            cases hf
            exact zr_lv [] rfl hj2
        · rw [if_pos hc] at hf
          refine zr_iconst 3 dX12_deedBy_44 (by decide) ?_
          refine zr_goto 61 dX12_deedBy_45 (by decide) ?_
          cases hf
          exact zr_lv [] rfl hj2
      · rw [if_pos hc] at hf
        refine zr_iconst 2 dX12_deedBy_32 (by decide) ?_
        refine zr_goto 61 dX12_deedBy_33 (by decide) ?_
        cases hf
        exact zr_lv [] rfl hj2
    · rw [if_pos hc] at hf
      refine zr_iconst 1 dX12_deedBy_20 (by decide) ?_
      refine zr_goto 61 dX12_deedBy_21 (by decide) ?_
      cases hf
      exact zr_lv [] rfl hj2
  · rw [if_pos hc] at hf
    refine zr_iconst 0 dX12_deedBy_8 (by decide) ?_
    refine zr_goto 61 dX12_deedBy_9 (by decide) ?_
    cases hf
    exact zr_lv [] rfl hj2
theorem zl_860 : Cond.code yX12_deedBy cX12_deedBy 2 (some .int) ∈ zt := zt_at 1605 (by decide +kernel)
theorem zvs_X12_deedBy : zvS yX12_deedBy cX12_deedBy 2 (some .int) 1 := ⟨zl_860, zl_782, ⟨by decide +kernel, by decide +kernel, by decide +kernel⟩, by decide⟩
theorem zl_861 : Cond.methodLink RX12 214 yX12_deedBy ∈ zt := zt_at 1603 (by decide +kernel)
theorem zl_862 : Cond.static yX12_deedBy ∈ zt := zt_at 1604 (by decide +kernel)
theorem zl_863 : Cond.code yX12_keep cX12_keep 7 (none) ∈ zt := zt_at 1614 (by decide +kernel)
theorem zvs_X12_keep : zvS yX12_keep cX12_keep 7 (none) 4 := ⟨zl_863, zl_782, ⟨by decide +kernel, by decide +kernel, by decide +kernel⟩, by decide⟩
theorem zl_864 : Cond.methodLink RX12 217 yX12_keep ∈ zt := zt_at 1611 (by decide +kernel)
theorem zl_865 : Cond.instanceMethod yX12_keep ∈ zt := zt_at 1613 (by decide +kernel)
theorem zl_866 : Cond.selects RX12 yX12_keep yX12_keep ∈ zt := zt_at 64 (by decide +kernel)
theorem dX12_dayLine_0 : decode cX12_dayLine 0 = .ok (.lload_n 1, 1) := by decide +kernel
theorem dX12_dayLine_1 : decode cX12_dayLine 1 = .ok (.invokestatic 214, 3) := by decide +kernel
theorem dX12_dayLine_4 : decode cX12_dayLine 4 = .ok (.istore 4, 2) := by decide +kernel
theorem dX12_dayLine_6 : decode cX12_dayLine 6 = .ok (.iload 4, 2) := by decide +kernel
theorem dX12_dayLine_8 : decode cX12_dayLine 8 = .ok (.iconst (-1), 1) := by decide +kernel
theorem dX12_dayLine_9 : decode cX12_dayLine 9 = .ok (.if_icmp .ne 8, 3) := by decide +kernel
theorem dX12_dayLine_12 : decode cX12_dayLine 12 = .ok (.aload_n 0, 1) := by decide +kernel
theorem dX12_dayLine_13 : decode cX12_dayLine 13 = .ok (.invokevirtual 141, 3) := by decide +kernel
theorem dX12_dayLine_16 : decode cX12_dayLine 16 = .ok (.ireturn, 1) := by decide +kernel
theorem dX12_dayLine_17 : decode cX12_dayLine 17 = .ok (.aload_n 0, 1) := by decide +kernel
theorem dX12_dayLine_18 : decode cX12_dayLine 18 = .ok (.iconst 0, 1) := by decide +kernel
theorem dX12_dayLine_19 : decode cX12_dayLine 19 = .ok (.bipush 40, 2) := by decide +kernel
theorem dX12_dayLine_21 : decode cX12_dayLine 21 = .ok (.iload_n 3, 1) := by decide +kernel
theorem dX12_dayLine_22 : decode cX12_dayLine 22 = .ok (.invokevirtual 188, 3) := by decide +kernel
theorem dX12_dayLine_25 : decode cX12_dayLine 25 = .ok (.aload_n 0, 1) := by decide +kernel
theorem dX12_dayLine_26 : decode cX12_dayLine 26 = .ok (.invokevirtual 153, 3) := by decide +kernel
theorem dX12_dayLine_29 : decode cX12_dayLine 29 = .ok (.aload_n 0, 1) := by decide +kernel
theorem dX12_dayLine_30 : decode cX12_dayLine 30 = .ok (.getfield 41, 3) := by decide +kernel
theorem dX12_dayLine_33 : decode cX12_dayLine 33 = .ok (.iconst 2, 1) := by decide +kernel
theorem dX12_dayLine_34 : decode cX12_dayLine 34 = .ok (.iconst (-1), 1) := by decide +kernel
theorem dX12_dayLine_35 : decode cX12_dayLine 35 = .ok (.iastore, 1) := by decide +kernel
theorem dX12_dayLine_36 : decode cX12_dayLine 36 = .ok (.iload 4, 2) := by decide +kernel
theorem dX12_dayLine_38 : decode cX12_dayLine 38 = .ok (.iconst 4, 1) := by decide +kernel
theorem dX12_dayLine_39 : decode cX12_dayLine 39 = .ok (.if_icmp .ne 7, 3) := by decide +kernel
theorem dX12_dayLine_42 : decode cX12_dayLine 42 = .ok (.iconst 1, 1) := by decide +kernel
theorem dX12_dayLine_43 : decode cX12_dayLine 43 = .ok (.goto 4, 3) := by decide +kernel
theorem dX12_dayLine_46 : decode cX12_dayLine 46 = .ok (.iconst 0, 1) := by decide +kernel
theorem dX12_dayLine_47 : decode cX12_dayLine 47 = .ok (.istore 5, 2) := by decide +kernel
theorem dX12_dayLine_49 : decode cX12_dayLine 49 = .ok (.aload_n 0, 1) := by decide +kernel
theorem dX12_dayLine_50 : decode cX12_dayLine 50 = .ok (.iconst 1, 1) := by decide +kernel
theorem dX12_dayLine_51 : decode cX12_dayLine 51 = .ok (.iload 5, 2) := by decide +kernel
theorem dX12_dayLine_53 : decode cX12_dayLine 53 = .ok (.ifCond .eq 7, 3) := by decide +kernel
theorem dX12_dayLine_56 : decode cX12_dayLine 56 = .ok (.iconst 1, 1) := by decide +kernel
theorem dX12_dayLine_57 : decode cX12_dayLine 57 = .ok (.goto 4, 3) := by decide +kernel
theorem dX12_dayLine_60 : decode cX12_dayLine 60 = .ok (.iconst 0, 1) := by decide +kernel
theorem dX12_dayLine_61 : decode cX12_dayLine 61 = .ok (.iload 5, 2) := by decide +kernel
theorem dX12_dayLine_63 : decode cX12_dayLine 63 = .ok (.ifCond .eq 8, 3) := by decide +kernel
theorem dX12_dayLine_66 : decode cX12_dayLine 66 = .ok (.bipush 60, 2) := by decide +kernel
theorem dX12_dayLine_68 : decode cX12_dayLine 68 = .ok (.goto 4, 3) := by decide +kernel
theorem dX12_dayLine_71 : decode cX12_dayLine 71 = .ok (.iconst 5, 1) := by decide +kernel
theorem dX12_dayLine_72 : decode cX12_dayLine 72 = .ok (.invokevirtual 162, 3) := by decide +kernel
theorem dX12_dayLine_75 : decode cX12_dayLine 75 = .ok (.ifCond .eq 30, 3) := by decide +kernel
theorem dX12_dayLine_78 : decode cX12_dayLine 78 = .ok (.iload 5, 2) := by decide +kernel
theorem dX12_dayLine_80 : decode cX12_dayLine 80 = .ok (.ifCond .ne 27, 3) := by decide +kernel
theorem dX12_dayLine_83 : decode cX12_dayLine 83 = .ok (.aload_n 0, 1) := by decide +kernel
theorem dX12_dayLine_84 : decode cX12_dayLine 84 = .ok (.iconst 2, 1) := by decide +kernel
theorem dX12_dayLine_85 : decode cX12_dayLine 85 = .ok (.iconst 0, 1) := by decide +kernel
theorem dX12_dayLine_86 : decode cX12_dayLine 86 = .ok (.iload 4, 2) := by decide +kernel
theorem dX12_dayLine_88 : decode cX12_dayLine 88 = .ok (.iconst 3, 1) := by decide +kernel
theorem dX12_dayLine_89 : decode cX12_dayLine 89 = .ok (.if_icmp .ne 8, 3) := by decide +kernel
theorem dX12_dayLine_92 : decode cX12_dayLine 92 = .ok (.bipush 30, 2) := by decide +kernel
theorem dX12_dayLine_94 : decode cX12_dayLine 94 = .ok (.goto 5, 3) := by decide +kernel
theorem dX12_dayLine_97 : decode cX12_dayLine 97 = .ok (.bipush 7, 2) := by decide +kernel
theorem dX12_dayLine_99 : decode cX12_dayLine 99 = .ok (.invokevirtual 162, 3) := by decide +kernel
theorem dX12_dayLine_102 : decode cX12_dayLine 102 = .ok (.ifCond .ne 5, 3) := by decide +kernel
theorem dX12_dayLine_105 : decode cX12_dayLine 105 = .ok (.iconst 0, 1) := by decide +kernel
theorem dX12_dayLine_106 : decode cX12_dayLine 106 = .ok (.ireturn, 1) := by decide +kernel
theorem dX12_dayLine_107 : decode cX12_dayLine 107 = .ok (.aload_n 0, 1) := by decide +kernel
theorem dX12_dayLine_108 : decode cX12_dayLine 108 = .ok (.getfield 41, 3) := by decide +kernel
theorem dX12_dayLine_111 : decode cX12_dayLine 111 = .ok (.iconst 0, 1) := by decide +kernel
theorem dX12_dayLine_112 : decode cX12_dayLine 112 = .ok (.iload 4, 2) := by decide +kernel
theorem dX12_dayLine_114 : decode cX12_dayLine 114 = .ok (.iastore, 1) := by decide +kernel
theorem dX12_dayLine_115 : decode cX12_dayLine 115 = .ok (.aload_n 0, 1) := by decide +kernel
theorem dX12_dayLine_116 : decode cX12_dayLine 116 = .ok (.iconst 0, 1) := by decide +kernel
theorem dX12_dayLine_117 : decode cX12_dayLine 117 = .ok (.iconst 1, 1) := by decide +kernel
theorem dX12_dayLine_118 : decode cX12_dayLine 118 = .ok (.iconst 3, 1) := by decide +kernel
theorem dX12_dayLine_119 : decode cX12_dayLine 119 = .ok (.bipush 40, 2) := by decide +kernel
theorem dX12_dayLine_121 : decode cX12_dayLine 121 = .ok (.invokevirtual 217, 3) := by decide +kernel
theorem dX12_dayLine_124 : decode cX12_dayLine 124 = .ok (.iconst 1, 1) := by decide +kernel
theorem dX12_dayLine_125 : decode cX12_dayLine 125 = .ok (.ireturn, 1) := by decide +kernel
def fX12_dayLine_b107 (x0 : Nat) (v2 : Int32) (m20 : zM) : Option (Int32 × zM) :=
  zb1 (zm_gR m20 12 x0 20) fun v21 =>
  zb1 (zm_sI m20 0 v21 0 v2) fun m23 =>
  zb1 (fX12_keep m23 x0 0 1 3 40) fun m26 =>
  some (1, m26)
def fX12_dayLine (μ : zM) (x0 : Nat) (x1 : Int64) (x3 : Int32) : Option (Int32 × zM) := zgd (zm_ck μ 12 x0) <|
  zb1 (fX12_deedBy μ x1) fun v2 =>
  if v2 = (-1) then (
  zb2 (fX12_fails μ x0) fun v35 m34 =>
  zb1 (zbz v35) fun v36 =>
  some (v36, m34))
  else (
  zb1 (fX12_full μ x0 0 40 x3) fun m4 =>
  zb1 (fX12_token m4 x0) fun m6 =>
  zb1 (zm_gR m6 12 x0 20) fun v7 =>
  zb1 (zm_sI m6 0 v7 2 (-1)) fun m9 =>
  zb1 (if v2 = 4 then (
  some 1)
  else (
  some 0)) fun s11 =>
  zb1 (if s11 = 0 then (
  some 0)
  else (
  some 1)) fun s13 =>
  zb1 (if s11 = 0 then (
  some 5)
  else (
  some 60)) fun s15 =>
  zb2 (fX12_take m9 x0 1 s13 s15) fun v19 m18 =>
  if v19 = 0 then (
  some (0, m18))
  else (
  if s11 = 0 then (
  zb1 (if v2 = 3 then (
  some 30)
  else (
  some 7)) fun s28 =>
  zb2 (fX12_take m18 x0 2 0 s28) fun v32 m31 =>
  if v32 = 0 then (
  some (0, m31))
  else (
  fX12_dayLine_b107 x0 v2 m31))
  else (
  fX12_dayLine_b107 x0 v2 m18)))
theorem fX12_dayLine_ck {μ : zM} {x0 : Nat} {x1 : Int64} {x3 : Int32} {z : Int32 × zM} (h : fX12_dayLine μ x0 x1 x3 = some z) : zm_ck μ 12 x0 = true := (zgd_s h).1
set_option maxHeartbeats 4000000 in
set_option maxRecDepth 100000 in
theorem cX12_dayLine_ok {μ : zM} {x0 : Nat} {x1 : Int64} {x3 : Int32} {r : Int32} {mo : zM} (hf : fX12_dayLine μ x0 x1 x3 = some (r, mo)) : zC yX12_dayLine cX12_dayLine 6 (some .boolean) 3 0 0 [.ref x0, .long x1, .int x3] μ (some (.int r)) mo := by
  replace hf := (zgd_s hf).2
  refine zC.of (by decide) (Nat.le_of_ble_eq_true rfl) (fun K hin => ?_)
  clear hin
  show zz K cX12_dayLine (6, RX12, some .boolean, 3, 0, 0, some (.int r), mo) 0 0 0 [(0, .ref x0), (1, .long x1), (3, .int x3)] [] μ
  refine zr_lload_n 1 dX12_dayLine_0 rfl ?_
  replace hf := zb1_s hf
  obtain ⟨v2, h1, hf⟩ := hf
  refine zr_callS [.long x1] (cX12_deedBy_ok h1) zvs_X12_deedBy zl_862 zl_861 rfl (Nat.le_of_ble_eq_true rfl) (Nat.le_of_ble_eq_true rfl) (Nat.le_of_ble_eq_true rfl) (Nat.le_of_ble_eq_true rfl) dX12_dayLine_1 rfl ?_
  refine zr_istore [(4, .int v2), (0, .ref x0), (1, .long x1), (3, .int x3)] dX12_dayLine_4 (Nat.le_of_ble_eq_true rfl) rfl ?_
  refine zr_iload 0 dX12_dayLine_6 rfl ?_
  refine zr_iconst (-1) dX12_dayLine_8 (by decide) ?_
  refine zr_icmp_ne 17 dX12_dayLine_9 (by decide) (fun hc => ?_) (fun hc => ?_)
  · rw [if_neg hc] at hf
    refine zr_aload_n 1 dX12_dayLine_17 rfl ?_
    refine zr_iconst 0 dX12_dayLine_18 (by decide) ?_
    refine zr_bipush 40 dX12_dayLine_19 (by decide) ?_
    refine zr_iload_n 3 dX12_dayLine_21 rfl ?_
    replace hf := zb1_s hf
    obtain ⟨m4, h3, hf⟩ := hf
    refine zr_callV (ci := 12) [.int 0, .int 40, .int x3] (cX12_full_ok h3) zvs_X12_full zl_852 zl_853 (fX12_full_ck h3) rfl rfl zl_851 rfl (Nat.le_of_ble_eq_true rfl) (Nat.le_of_ble_eq_true rfl) (Nat.le_of_ble_eq_true rfl) (Nat.le_of_ble_eq_true rfl) dX12_dayLine_22 rfl ?_
    refine zr_aload_n 1 dX12_dayLine_25 rfl ?_
    replace hf := zb1_s hf
    obtain ⟨m6, h5, hf⟩ := hf
    refine zr_callV (ci := 12) [] (cX12_token_ok h5) zvs_X12_token zl_808 zl_809 (fX12_token_ck h5) rfl rfl zl_807 rfl (Nat.le_of_ble_eq_true rfl) (Nat.le_of_ble_eq_true rfl) (Nat.le_of_ble_eq_true rfl) (Nat.le_of_ble_eq_true rfl) dX12_dayLine_26 rfl ?_
    refine zr_aload_n 1 dX12_dayLine_29 rfl ?_
    replace hf := zb1_s hf
    obtain ⟨v7, h8, hf⟩ := hf
    refine zr_get (zm_gR_g h8) zk12 (by decide) zl_763 dX12_dayLine_30 ?_
    refine zr_iconst 2 dX12_dayLine_33 (by decide) ?_
    refine zr_iconst (-1) dX12_dayLine_34 (by decide) ?_
    replace hf := zb1_s hf
    obtain ⟨m9, h10, hf⟩ := hf
    refine zr_iast h10 dX12_dayLine_35 ?_
    refine zr_iload 0 dX12_dayLine_36 rfl ?_
    refine zr_iconst 4 dX12_dayLine_38 (by decide) ?_
    replace hf := zb1_s hf
    obtain ⟨s11, hg, hf⟩ := hf
    have hj12 : zz K cX12_dayLine (6, RX12, some .boolean, 3, 0, 0, some (.int r), mo) 0 0 47 [(0, .ref x0), (4, .int v2)] [.int s11] m9 := by
      refine zr_istore [(5, .int s11), (0, .ref x0), (4, .int v2)] dX12_dayLine_47 (Nat.le_of_ble_eq_true rfl) rfl ?_
      refine zr_aload_n 1 dX12_dayLine_49 rfl ?_
      refine zr_iconst 1 dX12_dayLine_50 (by decide) ?_
      refine zr_iload 0 dX12_dayLine_51 rfl ?_
      replace hf := zb1_s hf
      obtain ⟨s13, hg, hf⟩ := hf
      have hj14 : zz K cX12_dayLine (6, RX12, some .boolean, 3, 0, 0, some (.int r), mo) 0 0 61 [(0, .ref x0), (4, .int v2), (5, .int s11)] [.int s13, .int 1, .ref x0] m9 := by
        refine zr_iload 2 dX12_dayLine_61 rfl ?_
        replace hf := zb1_s hf
        obtain ⟨s15, hg, hf⟩ := hf
        have hj16 : zz K cX12_dayLine (6, RX12, some .boolean, 3, 0, 0, some (.int r), mo) 0 0 72 [(0, .ref x0), (4, .int v2), (5, .int s11)] [.int s15, .int s13, .int 1, .ref x0] m9 := by
          replace hf := zb2_s hf
          obtain ⟨v19, m18, h17, hf⟩ := hf
          refine zr_callV (ci := 12) [.int 1, .int s13, .int s15] (cX12_take_ok h17) zvs_X12_take zl_824 zl_825 (fX12_take_ck h17) rfl rfl zl_823 rfl (Nat.le_of_ble_eq_true rfl) (Nat.le_of_ble_eq_true rfl) (Nat.le_of_ble_eq_true rfl) (Nat.le_of_ble_eq_true rfl) dX12_dayLine_72 rfl ?_
          refine zr_if_eq 105 dX12_dayLine_75 (by decide) (fun hc => ?_) (fun hc => ?_)
          · rw [if_pos hc] at hf
            refine zr_iconst 0 dX12_dayLine_105 (by decide) ?_
            cases hf
            exact zr_zret rfl dX12_dayLine_106
          · rw [if_neg hc] at hf
            refine zr_iload 2 dX12_dayLine_78 rfl ?_
            have hb27 : ∀ (m20 : zM), fX12_dayLine_b107 x0 v2 m20 = some (r, mo) → zz K cX12_dayLine (6, RX12, some .boolean, 3, 0, 0, some (.int r), mo) 0 0 107 [(0, .ref x0), (4, .int v2)] [] m20 := by
              intro m20 hf
              unfold fX12_dayLine_b107 at hf
              refine zr_aload_n 0 dX12_dayLine_107 rfl ?_
              replace hf := zb1_s hf
              obtain ⟨v21, h22, hf⟩ := hf
              refine zr_get (zm_gR_g h22) zk12 (by decide) zl_763 dX12_dayLine_108 ?_
              refine zr_iconst 0 dX12_dayLine_111 (by decide) ?_
              refine zr_iload 1 dX12_dayLine_112 rfl ?_
              replace hf := zb1_s hf
              obtain ⟨m23, h24, hf⟩ := hf
              refine zr_iast h24 dX12_dayLine_114 ?_
              refine zr_aload_n 0 dX12_dayLine_115 rfl ?_
              refine zr_iconst 0 dX12_dayLine_116 (by decide) ?_
              refine zr_iconst 1 dX12_dayLine_117 (by decide) ?_
              refine zr_iconst 3 dX12_dayLine_118 (by decide) ?_
              refine zr_bipush 40 dX12_dayLine_119 (by decide) ?_
              replace hf := zb1_s hf
              obtain ⟨m26, h25, hf⟩ := hf
              refine zr_callV (ci := 12) [.int 0, .int 1, .int 3, .int 40] (cX12_keep_ok h25) zvs_X12_keep zl_865 zl_866 (fX12_keep_ck h25) rfl rfl zl_864 rfl (Nat.le_of_ble_eq_true rfl) (Nat.le_of_ble_eq_true rfl) (Nat.le_of_ble_eq_true rfl) (Nat.le_of_ble_eq_true rfl) dX12_dayLine_121 rfl ?_
              refine zr_iconst 1 dX12_dayLine_124 (by decide) ?_
              cases hf
              exact zr_zret rfl dX12_dayLine_125
            refine zr_if_ne 107 dX12_dayLine_80 (by decide) (fun hc => ?_) (fun hc => ?_)
            · rw [if_neg hc] at hf
              exact zr_lv [0, 1] rfl (hb27 m18 hf)
            · rw [if_pos hc] at hf
              refine zr_aload_n 0 dX12_dayLine_83 rfl ?_
              refine zr_iconst 2 dX12_dayLine_84 (by decide) ?_
              refine zr_iconst 0 dX12_dayLine_85 (by decide) ?_
              refine zr_iload 1 dX12_dayLine_86 rfl ?_
              refine zr_iconst 3 dX12_dayLine_88 (by decide) ?_
              replace hf := zb1_s hf
              obtain ⟨s28, hg, hf⟩ := hf
              have hj29 : zz K cX12_dayLine (6, RX12, some .boolean, 3, 0, 0, some (.int r), mo) 0 0 99 [(0, .ref x0), (4, .int v2)] [.int s28, .int 0, .int 2, .ref x0] m18 := by
                replace hf := zb2_s hf
                obtain ⟨v32, m31, h30, hf⟩ := hf
                refine zr_callV (ci := 12) [.int 2, .int 0, .int s28] (cX12_take_ok h30) zvs_X12_take zl_824 zl_825 (fX12_take_ck h30) rfl rfl zl_823 rfl (Nat.le_of_ble_eq_true rfl) (Nat.le_of_ble_eq_true rfl) (Nat.le_of_ble_eq_true rfl) (Nat.le_of_ble_eq_true rfl) dX12_dayLine_99 rfl ?_
                refine zr_if_ne 107 dX12_dayLine_102 (by decide) (fun hc => ?_) (fun hc => ?_)
                · rw [if_neg hc] at hf
                  exact zr_lv [0, 1] rfl (hb27 m31 hf)
                · rw [if_pos hc] at hf
                  refine zr_iconst 0 dX12_dayLine_105 (by decide) ?_
                  cases hf
                  exact zr_zret rfl dX12_dayLine_106
              clear hf
              have hf := hg
              clear hg
              refine zr_icmp_ne 97 dX12_dayLine_89 (by decide) (fun hc => ?_) (fun hc => ?_)
              · rw [if_neg hc] at hf
                refine zr_bipush 7 dX12_dayLine_97 (by decide) ?_
                cases hf
                exact zr_lv [0, 1] rfl hj29
              · rw [if_pos hc] at hf
                refine zr_bipush 30 dX12_dayLine_92 (by decide) ?_
                refine zr_goto 99 dX12_dayLine_94 (by decide) ?_
                cases hf
                exact zr_lv [0, 1] rfl hj29
        clear hf
        have hf := hg
        clear hg
        refine zr_if_eq 71 dX12_dayLine_63 (by decide) (fun hc => ?_) (fun hc => ?_)
        · rw [if_pos hc] at hf
          refine zr_iconst 5 dX12_dayLine_71 (by decide) ?_
          cases hf
          exact zr_lv [0, 1, 2] rfl hj16
        · rw [if_neg hc] at hf
          refine zr_bipush 60 dX12_dayLine_66 (by decide) ?_
          refine zr_goto 72 dX12_dayLine_68 (by decide) ?_
          cases hf
          exact zr_lv [0, 1, 2] rfl hj16
      clear hf
      have hf := hg
      clear hg
      refine zr_if_eq 60 dX12_dayLine_53 (by decide) (fun hc => ?_) (fun hc => ?_)
      · rw [if_pos hc] at hf
        refine zr_iconst 0 dX12_dayLine_60 (by decide) ?_
        cases hf
        exact zr_lv [1, 2, 0] rfl hj14
      · rw [if_neg hc] at hf
        refine zr_iconst 1 dX12_dayLine_56 (by decide) ?_
        refine zr_goto 61 dX12_dayLine_57 (by decide) ?_
        cases hf
        exact zr_lv [1, 2, 0] rfl hj14
    clear hf
    have hf := hg
    clear hg
    refine zr_icmp_ne 46 dX12_dayLine_39 (by decide) (fun hc => ?_) (fun hc => ?_)
    · rw [if_neg hc] at hf
      refine zr_iconst 0 dX12_dayLine_46 (by decide) ?_
      cases hf
      exact zr_lv [1, 0] rfl hj12
    · rw [if_pos hc] at hf
      refine zr_iconst 1 dX12_dayLine_42 (by decide) ?_
      refine zr_goto 47 dX12_dayLine_43 (by decide) ?_
      cases hf
      exact zr_lv [1, 0] rfl hj12
  · rw [if_pos hc] at hf
    refine zr_aload_n 1 dX12_dayLine_12 rfl ?_
    replace hf := zb2_s hf
    obtain ⟨v35, m34, h33, hf⟩ := hf
    refine zr_callV (ci := 12) [] (cX12_fails_ok h33) zvs_X12_fails zl_817 zl_818 (fX12_fails_ck h33) rfl rfl zl_816 rfl (Nat.le_of_ble_eq_true rfl) (Nat.le_of_ble_eq_true rfl) (Nat.le_of_ble_eq_true rfl) (Nat.le_of_ble_eq_true rfl) dX12_dayLine_13 rfl ?_
    replace hf := zb1_s hf
    obtain ⟨v36, hn37, hf⟩ := hf
    obtain ⟨hn37, rfl⟩ := zbz_s hn37
    cases hf
    exact zr_zret hn37 dX12_dayLine_16
theorem zl_867 : Cond.constantLong RX12 221 1734440549 ∈ zt := zt_at 1619 (by decide +kernel)
theorem zl_868 : Cond.constantLong RX12 223 1818846579 ∈ zt := zt_at 1620 (by decide +kernel)
theorem dX12_lessonLine_0 : decode cX12_lessonLine 0 = .ok (.lload_n 1, 1) := by decide +kernel
theorem dX12_lessonLine_1 : decode cX12_lessonLine 1 = .ok (.ldc2_w 221, 3) := by decide +kernel
theorem dX12_lessonLine_4 : decode cX12_lessonLine 4 = .ok (.lcmp, 1) := by decide +kernel
theorem dX12_lessonLine_5 : decode cX12_lessonLine 5 = .ok (.ifCond .eq 16, 3) := by decide +kernel
theorem dX12_lessonLine_8 : decode cX12_lessonLine 8 = .ok (.lload_n 1, 1) := by decide +kernel
theorem dX12_lessonLine_9 : decode cX12_lessonLine 9 = .ok (.ldc2_w 223, 3) := by decide +kernel
theorem dX12_lessonLine_12 : decode cX12_lessonLine 12 = .ok (.lcmp, 1) := by decide +kernel
theorem dX12_lessonLine_13 : decode cX12_lessonLine 13 = .ok (.ifCond .eq 8, 3) := by decide +kernel
theorem dX12_lessonLine_16 : decode cX12_lessonLine 16 = .ok (.aload_n 0, 1) := by decide +kernel
theorem dX12_lessonLine_17 : decode cX12_lessonLine 17 = .ok (.invokevirtual 141, 3) := by decide +kernel
theorem dX12_lessonLine_20 : decode cX12_lessonLine 20 = .ok (.ireturn, 1) := by decide +kernel
theorem dX12_lessonLine_21 : decode cX12_lessonLine 21 = .ok (.lload_n 1, 1) := by decide +kernel
theorem dX12_lessonLine_22 : decode cX12_lessonLine 22 = .ok (.ldc2_w 221, 3) := by decide +kernel
theorem dX12_lessonLine_25 : decode cX12_lessonLine 25 = .ok (.lcmp, 1) := by decide +kernel
theorem dX12_lessonLine_26 : decode cX12_lessonLine 26 = .ok (.ifCond .ne 11, 3) := by decide +kernel
theorem dX12_lessonLine_29 : decode cX12_lessonLine 29 = .ok (.aload_n 0, 1) := by decide +kernel
theorem dX12_lessonLine_30 : decode cX12_lessonLine 30 = .ok (.iconst 1, 1) := by decide +kernel
theorem dX12_lessonLine_31 : decode cX12_lessonLine 31 = .ok (.bipush 10, 2) := by decide +kernel
theorem dX12_lessonLine_33 : decode cX12_lessonLine 33 = .ok (.iload_n 3, 1) := by decide +kernel
theorem dX12_lessonLine_34 : decode cX12_lessonLine 34 = .ok (.invokevirtual 188, 3) := by decide +kernel
theorem dX12_lessonLine_37 : decode cX12_lessonLine 37 = .ok (.aload_n 0, 1) := by decide +kernel
theorem dX12_lessonLine_38 : decode cX12_lessonLine 38 = .ok (.invokevirtual 153, 3) := by decide +kernel
theorem dX12_lessonLine_41 : decode cX12_lessonLine 41 = .ok (.aload_n 0, 1) := by decide +kernel
theorem dX12_lessonLine_42 : decode cX12_lessonLine 42 = .ok (.iconst 0, 1) := by decide +kernel
theorem dX12_lessonLine_43 : decode cX12_lessonLine 43 = .ok (.iconst 0, 1) := by decide +kernel
theorem dX12_lessonLine_44 : decode cX12_lessonLine 44 = .ok (.lload_n 1, 1) := by decide +kernel
theorem dX12_lessonLine_45 : decode cX12_lessonLine 45 = .ok (.ldc2_w 221, 3) := by decide +kernel
theorem dX12_lessonLine_48 : decode cX12_lessonLine 48 = .ok (.lcmp, 1) := by decide +kernel
theorem dX12_lessonLine_49 : decode cX12_lessonLine 49 = .ok (.ifCond .ne 8, 3) := by decide +kernel
theorem dX12_lessonLine_52 : decode cX12_lessonLine 52 = .ok (.bipush 7, 2) := by decide +kernel
theorem dX12_lessonLine_54 : decode cX12_lessonLine 54 = .ok (.goto 5, 3) := by decide +kernel
theorem dX12_lessonLine_57 : decode cX12_lessonLine 57 = .ok (.bipush 9, 2) := by decide +kernel
theorem dX12_lessonLine_59 : decode cX12_lessonLine 59 = .ok (.invokevirtual 162, 3) := by decide +kernel
theorem dX12_lessonLine_62 : decode cX12_lessonLine 62 = .ok (.ifCond .eq 22, 3) := by decide +kernel
theorem dX12_lessonLine_65 : decode cX12_lessonLine 65 = .ok (.lload_n 1, 1) := by decide +kernel
theorem dX12_lessonLine_66 : decode cX12_lessonLine 66 = .ok (.ldc2_w 221, 3) := by decide +kernel
theorem dX12_lessonLine_69 : decode cX12_lessonLine 69 = .ok (.lcmp, 1) := by decide +kernel
theorem dX12_lessonLine_70 : decode cX12_lessonLine 70 = .ok (.ifCond .ne 16, 3) := by decide +kernel
theorem dX12_lessonLine_73 : decode cX12_lessonLine 73 = .ok (.aload_n 0, 1) := by decide +kernel
theorem dX12_lessonLine_74 : decode cX12_lessonLine 74 = .ok (.iconst 1, 1) := by decide +kernel
theorem dX12_lessonLine_75 : decode cX12_lessonLine 75 = .ok (.iconst 0, 1) := by decide +kernel
theorem dX12_lessonLine_76 : decode cX12_lessonLine 76 = .ok (.bipush 7, 2) := by decide +kernel
theorem dX12_lessonLine_78 : decode cX12_lessonLine 78 = .ok (.invokevirtual 162, 3) := by decide +kernel
theorem dX12_lessonLine_81 : decode cX12_lessonLine 81 = .ok (.ifCond .ne 5, 3) := by decide +kernel
theorem dX12_lessonLine_84 : decode cX12_lessonLine 84 = .ok (.iconst 0, 1) := by decide +kernel
theorem dX12_lessonLine_85 : decode cX12_lessonLine 85 = .ok (.ireturn, 1) := by decide +kernel
theorem dX12_lessonLine_86 : decode cX12_lessonLine 86 = .ok (.lload_n 1, 1) := by decide +kernel
theorem dX12_lessonLine_87 : decode cX12_lessonLine 87 = .ok (.ldc2_w 221, 3) := by decide +kernel
theorem dX12_lessonLine_90 : decode cX12_lessonLine 90 = .ok (.lcmp, 1) := by decide +kernel
theorem dX12_lessonLine_91 : decode cX12_lessonLine 91 = .ok (.ifCond .ne 15, 3) := by decide +kernel
theorem dX12_lessonLine_94 : decode cX12_lessonLine 94 = .ok (.aload_n 0, 1) := by decide +kernel
theorem dX12_lessonLine_95 : decode cX12_lessonLine 95 = .ok (.iconst 1, 1) := by decide +kernel
theorem dX12_lessonLine_96 : decode cX12_lessonLine 96 = .ok (.iconst 2, 1) := by decide +kernel
theorem dX12_lessonLine_97 : decode cX12_lessonLine 97 = .ok (.iconst 2, 1) := by decide +kernel
theorem dX12_lessonLine_98 : decode cX12_lessonLine 98 = .ok (.bipush 10, 2) := by decide +kernel
theorem dX12_lessonLine_100 : decode cX12_lessonLine 100 = .ok (.invokevirtual 217, 3) := by decide +kernel
theorem dX12_lessonLine_103 : decode cX12_lessonLine 103 = .ok (.goto 15, 3) := by decide +kernel
theorem dX12_lessonLine_106 : decode cX12_lessonLine 106 = .ok (.aload_n 0, 1) := by decide +kernel
theorem dX12_lessonLine_107 : decode cX12_lessonLine 107 = .ok (.getfield 38, 3) := by decide +kernel
theorem dX12_lessonLine_110 : decode cX12_lessonLine 110 = .ok (.iconst 0, 1) := by decide +kernel
theorem dX12_lessonLine_111 : decode cX12_lessonLine 111 = .ok (.aload_n 0, 1) := by decide +kernel
theorem dX12_lessonLine_112 : decode cX12_lessonLine 112 = .ok (.getfield 41, 3) := by decide +kernel
theorem dX12_lessonLine_115 : decode cX12_lessonLine 115 = .ok (.iconst 0, 1) := by decide +kernel
theorem dX12_lessonLine_116 : decode cX12_lessonLine 116 = .ok (.iaload, 1) := by decide +kernel
theorem dX12_lessonLine_117 : decode cX12_lessonLine 117 = .ok (.iastore, 1) := by decide +kernel
theorem dX12_lessonLine_118 : decode cX12_lessonLine 118 = .ok (.iconst 1, 1) := by decide +kernel
theorem dX12_lessonLine_119 : decode cX12_lessonLine 119 = .ok (.ireturn, 1) := by decide +kernel
def fX12_lessonLine_b86x (x1 : Int64) (x0 : Nat) (m10 : zM) : Option (Int32 × zM) :=
  zb1 (if (lg_cmp x1 1734440549) = 0 then (
  zb1 (fX12_keep m10 x0 1 2 2 10) fun m22 =>
  some m22)
  else (
  zb1 (zm_gR m10 12 x0 19) fun v13 =>
  zb1 (zm_gR m10 12 x0 20) fun v15 =>
  zb1 (zm_aI m10 0 v15 0) fun v17 =>
  zb1 (zm_sI m10 0 v13 0 v17) fun m19 =>
  some m19)) fun m11 =>
  some (1, m11)
def fX12_lessonLine_b21 (x1 : Int64) (μ : zM) (x0 : Nat) (x3 : Int32) : Option (Int32 × zM) :=
  zb1 (if (lg_cmp x1 1734440549) = 0 then (
  zb1 (fX12_full μ x0 1 10 x3) fun m28 =>
  some m28)
  else (
  some μ)) fun m1 =>
  zb1 (fX12_token m1 x0) fun m4 =>
  zb1 (if (lg_cmp x1 1734440549) = 0 then (
  some 7)
  else (
  some 9)) fun s5 =>
  zb2 (fX12_take m4 x0 0 0 s5) fun v9 m8 =>
  if v9 = 0 then (
  some (0, m8))
  else (
  if (lg_cmp x1 1734440549) = 0 then (
  zb2 (fX12_take m8 x0 1 0 7) fun v26 m25 =>
  if v26 = 0 then (
  some (0, m25))
  else (
  fX12_lessonLine_b86x x1 x0 m25))
  else (
  fX12_lessonLine_b86x x1 x0 m8))
def fX12_lessonLine (μ : zM) (x0 : Nat) (x1 : Int64) (x3 : Int32) : Option (Int32 × zM) := zgd (zm_ck μ 12 x0) <|
  if (lg_cmp x1 1734440549) = 0 then (
  fX12_lessonLine_b21 x1 μ x0 x3)
  else (
  if (lg_cmp x1 1818846579) = 0 then (
  fX12_lessonLine_b21 x1 μ x0 x3)
  else (
  zb2 (fX12_fails μ x0) fun v32 m31 =>
  zb1 (zbz v32) fun v33 =>
  some (v33, m31)))
theorem fX12_lessonLine_ck {μ : zM} {x0 : Nat} {x1 : Int64} {x3 : Int32} {z : Int32 × zM} (h : fX12_lessonLine μ x0 x1 x3 = some z) : zm_ck μ 12 x0 = true := (zgd_s h).1
set_option maxHeartbeats 4000000 in
set_option maxRecDepth 100000 in
theorem cX12_lessonLine_ok {μ : zM} {x0 : Nat} {x1 : Int64} {x3 : Int32} {r : Int32} {mo : zM} (hf : fX12_lessonLine μ x0 x1 x3 = some (r, mo)) : zC yX12_lessonLine cX12_lessonLine 4 (some .boolean) 3 0 0 [.ref x0, .long x1, .int x3] μ (some (.int r)) mo := by
  replace hf := (zgd_s hf).2
  refine zC.of (by decide) (Nat.le_of_ble_eq_true rfl) (fun K hin => ?_)
  clear hin
  show zz K cX12_lessonLine (4, RX12, some .boolean, 3, 0, 0, some (.int r), mo) 0 0 0 [(0, .ref x0), (1, .long x1), (3, .int x3)] [] μ
  refine zr_lload_n 1 dX12_lessonLine_0 rfl ?_
  refine zr_ldc2 zl_867 dX12_lessonLine_1 ?_
  refine zr_lcmp dX12_lessonLine_4 ?_
  have hb29 : ∀ (_ : Unit), fX12_lessonLine_b21 x1 μ x0 x3 = some (r, mo) → zz K cX12_lessonLine (4, RX12, some .boolean, 3, 0, 0, some (.int r), mo) 0 0 21 [(0, .ref x0), (1, .long x1), (3, .int x3)] [] μ := by
    intro _ hf
    unfold fX12_lessonLine_b21 at hf
    refine zr_lload_n 1 dX12_lessonLine_21 rfl ?_
    refine zr_ldc2 zl_867 dX12_lessonLine_22 ?_
    refine zr_lcmp dX12_lessonLine_25 ?_
    replace hf := zb1_s hf
    obtain ⟨m1, hg, hf⟩ := hf
    have hj2 : zz K cX12_lessonLine (4, RX12, some .boolean, 3, 0, 0, some (.int r), mo) 0 0 37 [(0, .ref x0), (1, .long x1)] [] m1 := by
      refine zr_aload_n 0 dX12_lessonLine_37 rfl ?_
      replace hf := zb1_s hf
      obtain ⟨m4, h3, hf⟩ := hf
      refine zr_callV (ci := 12) [] (cX12_token_ok h3) zvs_X12_token zl_808 zl_809 (fX12_token_ck h3) rfl rfl zl_807 rfl (Nat.le_of_ble_eq_true rfl) (Nat.le_of_ble_eq_true rfl) (Nat.le_of_ble_eq_true rfl) (Nat.le_of_ble_eq_true rfl) dX12_lessonLine_38 rfl ?_
      refine zr_aload_n 0 dX12_lessonLine_41 rfl ?_
      refine zr_iconst 0 dX12_lessonLine_42 (by decide) ?_
      refine zr_iconst 0 dX12_lessonLine_43 (by decide) ?_
      refine zr_lload_n 1 dX12_lessonLine_44 rfl ?_
      refine zr_ldc2 zl_867 dX12_lessonLine_45 ?_
      refine zr_lcmp dX12_lessonLine_48 ?_
      replace hf := zb1_s hf
      obtain ⟨s5, hg, hf⟩ := hf
      have hj6 : zz K cX12_lessonLine (4, RX12, some .boolean, 3, 0, 0, some (.int r), mo) 0 0 59 [(0, .ref x0), (1, .long x1)] [.int s5, .int 0, .int 0, .ref x0] m4 := by
        replace hf := zb2_s hf
        obtain ⟨v9, m8, h7, hf⟩ := hf
        refine zr_callV (ci := 12) [.int 0, .int 0, .int s5] (cX12_take_ok h7) zvs_X12_take zl_824 zl_825 (fX12_take_ck h7) rfl rfl zl_823 rfl (Nat.le_of_ble_eq_true rfl) (Nat.le_of_ble_eq_true rfl) (Nat.le_of_ble_eq_true rfl) (Nat.le_of_ble_eq_true rfl) dX12_lessonLine_59 rfl ?_
        refine zr_if_eq 84 dX12_lessonLine_62 (by decide) (fun hc => ?_) (fun hc => ?_)
        · rw [if_pos hc] at hf
          refine zr_iconst 0 dX12_lessonLine_84 (by decide) ?_
          cases hf
          exact zr_zret rfl dX12_lessonLine_85
        · rw [if_neg hc] at hf
          refine zr_lload_n 1 dX12_lessonLine_65 rfl ?_
          refine zr_ldc2 zl_867 dX12_lessonLine_66 ?_
          refine zr_lcmp dX12_lessonLine_69 ?_
          have hb23 : ∀ (m10 : zM), fX12_lessonLine_b86x x1 x0 m10 = some (r, mo) → zz K cX12_lessonLine (4, RX12, some .boolean, 3, 0, 0, some (.int r), mo) 0 0 86 [(0, .ref x0), (1, .long x1)] [] m10 := by
            intro m10 hf
            unfold fX12_lessonLine_b86x at hf
            refine zr_lload_n 1 dX12_lessonLine_86 rfl ?_
            refine zr_ldc2 zl_867 dX12_lessonLine_87 ?_
            refine zr_lcmp dX12_lessonLine_90 ?_
            replace hf := zb1_s hf
            obtain ⟨m11, hg, hf⟩ := hf
            have hj12 : zz K cX12_lessonLine (4, RX12, some .boolean, 3, 0, 0, some (.int r), mo) 0 0 118 [] [] m11 := by
              refine zr_iconst 1 dX12_lessonLine_118 (by decide) ?_
              cases hf
              exact zr_zret rfl dX12_lessonLine_119
            clear hf
            have hf := hg
            clear hg
            refine zr_if_ne 106 dX12_lessonLine_91 (by decide) (fun hc => ?_) (fun hc => ?_)
            · rw [if_neg hc] at hf
              refine zr_aload_n 0 dX12_lessonLine_106 rfl ?_
              replace hf := zb1_s hf
              obtain ⟨v13, h14, hf⟩ := hf
              refine zr_get (zm_gR_g h14) zk12 (by decide) zl_762 dX12_lessonLine_107 ?_
              refine zr_iconst 0 dX12_lessonLine_110 (by decide) ?_
              refine zr_aload_n 0 dX12_lessonLine_111 rfl ?_
              replace hf := zb1_s hf
              obtain ⟨v15, h16, hf⟩ := hf
              refine zr_get (zm_gR_g h16) zk12 (by decide) zl_763 dX12_lessonLine_112 ?_
              refine zr_iconst 0 dX12_lessonLine_115 (by decide) ?_
              replace hf := zb1_s hf
              obtain ⟨v17, h18, hf⟩ := hf
              refine zr_iald h18 dX12_lessonLine_116 ?_
              replace hf := zb1_s hf
              obtain ⟨m19, h20, hf⟩ := hf
              refine zr_iast h20 dX12_lessonLine_117 ?_
              cases hf
              exact zr_lv [] rfl hj12
            · rw [if_pos hc] at hf
              refine zr_aload_n 0 dX12_lessonLine_94 rfl ?_
              refine zr_iconst 1 dX12_lessonLine_95 (by decide) ?_
              refine zr_iconst 2 dX12_lessonLine_96 (by decide) ?_
              refine zr_iconst 2 dX12_lessonLine_97 (by decide) ?_
              refine zr_bipush 10 dX12_lessonLine_98 (by decide) ?_
              replace hf := zb1_s hf
              obtain ⟨m22, h21, hf⟩ := hf
              refine zr_callV (ci := 12) [.int 1, .int 2, .int 2, .int 10] (cX12_keep_ok h21) zvs_X12_keep zl_865 zl_866 (fX12_keep_ck h21) rfl rfl zl_864 rfl (Nat.le_of_ble_eq_true rfl) (Nat.le_of_ble_eq_true rfl) (Nat.le_of_ble_eq_true rfl) (Nat.le_of_ble_eq_true rfl) dX12_lessonLine_100 rfl ?_
              refine zr_goto 118 dX12_lessonLine_103 (by decide) ?_
              cases hf
              exact zr_lv [] rfl hj12
          refine zr_if_ne 86 dX12_lessonLine_70 (by decide) (fun hc => ?_) (fun hc => ?_)
          · rw [if_neg hc] at hf
            exact zr_lv [0, 1] rfl (hb23 m8 hf)
          · rw [if_pos hc] at hf
            refine zr_aload_n 0 dX12_lessonLine_73 rfl ?_
            refine zr_iconst 1 dX12_lessonLine_74 (by decide) ?_
            refine zr_iconst 0 dX12_lessonLine_75 (by decide) ?_
            refine zr_bipush 7 dX12_lessonLine_76 (by decide) ?_
            replace hf := zb2_s hf
            obtain ⟨v26, m25, h24, hf⟩ := hf
            refine zr_callV (ci := 12) [.int 1, .int 0, .int 7] (cX12_take_ok h24) zvs_X12_take zl_824 zl_825 (fX12_take_ck h24) rfl rfl zl_823 rfl (Nat.le_of_ble_eq_true rfl) (Nat.le_of_ble_eq_true rfl) (Nat.le_of_ble_eq_true rfl) (Nat.le_of_ble_eq_true rfl) dX12_lessonLine_78 rfl ?_
            refine zr_if_ne 86 dX12_lessonLine_81 (by decide) (fun hc => ?_) (fun hc => ?_)
            · rw [if_neg hc] at hf
              exact zr_lv [0, 1] rfl (hb23 m25 hf)
            · rw [if_pos hc] at hf
              refine zr_iconst 0 dX12_lessonLine_84 (by decide) ?_
              cases hf
              exact zr_zret rfl dX12_lessonLine_85
      clear hf
      have hf := hg
      clear hg
      refine zr_if_ne 57 dX12_lessonLine_49 (by decide) (fun hc => ?_) (fun hc => ?_)
      · rw [if_neg hc] at hf
        refine zr_bipush 9 dX12_lessonLine_57 (by decide) ?_
        cases hf
        exact zr_lv [0, 1] rfl hj6
      · rw [if_pos hc] at hf
        refine zr_bipush 7 dX12_lessonLine_52 (by decide) ?_
        refine zr_goto 59 dX12_lessonLine_54 (by decide) ?_
        cases hf
        exact zr_lv [0, 1] rfl hj6
    clear hf
    have hf := hg
    clear hg
    refine zr_if_ne 37 dX12_lessonLine_26 (by decide) (fun hc => ?_) (fun hc => ?_)
    · rw [if_neg hc] at hf
      cases hf
      exact zr_lv [0, 1] rfl hj2
    · rw [if_pos hc] at hf
      refine zr_aload_n 0 dX12_lessonLine_29 rfl ?_
      refine zr_iconst 1 dX12_lessonLine_30 (by decide) ?_
      refine zr_bipush 10 dX12_lessonLine_31 (by decide) ?_
      refine zr_iload_n 2 dX12_lessonLine_33 rfl ?_
      replace hf := zb1_s hf
      obtain ⟨m28, h27, hf⟩ := hf
      refine zr_callV (ci := 12) [.int 1, .int 10, .int x3] (cX12_full_ok h27) zvs_X12_full zl_852 zl_853 (fX12_full_ck h27) rfl rfl zl_851 rfl (Nat.le_of_ble_eq_true rfl) (Nat.le_of_ble_eq_true rfl) (Nat.le_of_ble_eq_true rfl) (Nat.le_of_ble_eq_true rfl) dX12_lessonLine_34 rfl ?_
      cases hf
      exact zr_lv [0, 1] rfl hj2
  refine zr_if_eq 21 dX12_lessonLine_5 (by decide) (fun hc => ?_) (fun hc => ?_)
  · rw [if_pos hc] at hf
    exact zr_lv [0, 1, 2] rfl (hb29 () hf)
  · rw [if_neg hc] at hf
    refine zr_lload_n 1 dX12_lessonLine_8 rfl ?_
    refine zr_ldc2 zl_868 dX12_lessonLine_9 ?_
    refine zr_lcmp dX12_lessonLine_12 ?_
    refine zr_if_eq 21 dX12_lessonLine_13 (by decide) (fun hc => ?_) (fun hc => ?_)
    · rw [if_pos hc] at hf
      exact zr_lv [0, 1, 2] rfl (hb29 () hf)
    · rw [if_neg hc] at hf
      refine zr_aload_n 0 dX12_lessonLine_16 rfl ?_
      replace hf := zb2_s hf
      obtain ⟨v32, m31, h30, hf⟩ := hf
      refine zr_callV (ci := 12) [] (cX12_fails_ok h30) zvs_X12_fails zl_817 zl_818 (fX12_fails_ck h30) rfl rfl zl_816 rfl (Nat.le_of_ble_eq_true rfl) (Nat.le_of_ble_eq_true rfl) (Nat.le_of_ble_eq_true rfl) (Nat.le_of_ble_eq_true rfl) dX12_lessonLine_17 rfl ?_
      replace hf := zb1_s hf
      obtain ⟨v33, hn34, hf⟩ := hf
      obtain ⟨hn34, rfl⟩ := zbz_s hn34
      cases hf
      exact zr_zret hn34 dX12_lessonLine_20
theorem zl_869 : Cond.constantLong RX12 225 448377483876 ∈ zt := zt_at 1625 (by decide +kernel)
theorem zl_870 : Cond.constantLong RX12 227 7237492 ∈ zt := zt_at 1626 (by decide +kernel)
theorem dX12_sightLine_0 : decode cX12_sightLine 0 = .ok (.lload_n 1, 1) := by decide +kernel
theorem dX12_sightLine_1 : decode cX12_sightLine 1 = .ok (.ldc2_w 225, 3) := by decide +kernel
theorem dX12_sightLine_4 : decode cX12_sightLine 4 = .ok (.lcmp, 1) := by decide +kernel
theorem dX12_sightLine_5 : decode cX12_sightLine 5 = .ok (.ifCond .eq 16, 3) := by decide +kernel
theorem dX12_sightLine_8 : decode cX12_sightLine 8 = .ok (.lload_n 1, 1) := by decide +kernel
theorem dX12_sightLine_9 : decode cX12_sightLine 9 = .ok (.ldc2_w 227, 3) := by decide +kernel
theorem dX12_sightLine_12 : decode cX12_sightLine 12 = .ok (.lcmp, 1) := by decide +kernel
theorem dX12_sightLine_13 : decode cX12_sightLine 13 = .ok (.ifCond .eq 8, 3) := by decide +kernel
theorem dX12_sightLine_16 : decode cX12_sightLine 16 = .ok (.aload_n 0, 1) := by decide +kernel
theorem dX12_sightLine_17 : decode cX12_sightLine 17 = .ok (.invokevirtual 141, 3) := by decide +kernel
theorem dX12_sightLine_20 : decode cX12_sightLine 20 = .ok (.ireturn, 1) := by decide +kernel
theorem dX12_sightLine_21 : decode cX12_sightLine 21 = .ok (.aload_n 0, 1) := by decide +kernel
theorem dX12_sightLine_22 : decode cX12_sightLine 22 = .ok (.iconst 0, 1) := by decide +kernel
theorem dX12_sightLine_23 : decode cX12_sightLine 23 = .ok (.bipush 8, 2) := by decide +kernel
theorem dX12_sightLine_25 : decode cX12_sightLine 25 = .ok (.iload_n 3, 1) := by decide +kernel
theorem dX12_sightLine_26 : decode cX12_sightLine 26 = .ok (.invokevirtual 188, 3) := by decide +kernel
theorem dX12_sightLine_29 : decode cX12_sightLine 29 = .ok (.aload_n 0, 1) := by decide +kernel
theorem dX12_sightLine_30 : decode cX12_sightLine 30 = .ok (.invokevirtual 153, 3) := by decide +kernel
theorem dX12_sightLine_33 : decode cX12_sightLine 33 = .ok (.aload_n 0, 1) := by decide +kernel
theorem dX12_sightLine_34 : decode cX12_sightLine 34 = .ok (.iconst 1, 1) := by decide +kernel
theorem dX12_sightLine_35 : decode cX12_sightLine 35 = .ok (.iconst 0, 1) := by decide +kernel
theorem dX12_sightLine_36 : decode cX12_sightLine 36 = .ok (.bipush 30, 2) := by decide +kernel
theorem dX12_sightLine_38 : decode cX12_sightLine 38 = .ok (.invokevirtual 162, 3) := by decide +kernel
theorem dX12_sightLine_41 : decode cX12_sightLine 41 = .ok (.ifCond .eq 25, 3) := by decide +kernel
theorem dX12_sightLine_44 : decode cX12_sightLine 44 = .ok (.aload_n 0, 1) := by decide +kernel
theorem dX12_sightLine_45 : decode cX12_sightLine 45 = .ok (.iconst 2, 1) := by decide +kernel
theorem dX12_sightLine_46 : decode cX12_sightLine 46 = .ok (.iconst 0, 1) := by decide +kernel
theorem dX12_sightLine_47 : decode cX12_sightLine 47 = .ok (.bipush 99, 2) := by decide +kernel
theorem dX12_sightLine_49 : decode cX12_sightLine 49 = .ok (.invokevirtual 162, 3) := by decide +kernel
theorem dX12_sightLine_52 : decode cX12_sightLine 52 = .ok (.ifCond .eq 14, 3) := by decide +kernel
theorem dX12_sightLine_55 : decode cX12_sightLine 55 = .ok (.aload_n 0, 1) := by decide +kernel
theorem dX12_sightLine_56 : decode cX12_sightLine 56 = .ok (.iconst 3, 1) := by decide +kernel
theorem dX12_sightLine_57 : decode cX12_sightLine 57 = .ok (.iconst 0, 1) := by decide +kernel
theorem dX12_sightLine_58 : decode cX12_sightLine 58 = .ok (.bipush 7, 2) := by decide +kernel
theorem dX12_sightLine_60 : decode cX12_sightLine 60 = .ok (.invokevirtual 162, 3) := by decide +kernel
theorem dX12_sightLine_63 : decode cX12_sightLine 63 = .ok (.ifCond .ne 5, 3) := by decide +kernel
theorem dX12_sightLine_66 : decode cX12_sightLine 66 = .ok (.iconst 0, 1) := by decide +kernel
theorem dX12_sightLine_67 : decode cX12_sightLine 67 = .ok (.ireturn, 1) := by decide +kernel
theorem dX12_sightLine_68 : decode cX12_sightLine 68 = .ok (.aload_n 0, 1) := by decide +kernel
theorem dX12_sightLine_69 : decode cX12_sightLine 69 = .ok (.getfield 41, 3) := by decide +kernel
theorem dX12_sightLine_72 : decode cX12_sightLine 72 = .ok (.iconst 0, 1) := by decide +kernel
theorem dX12_sightLine_73 : decode cX12_sightLine 73 = .ok (.lload_n 1, 1) := by decide +kernel
theorem dX12_sightLine_74 : decode cX12_sightLine 74 = .ok (.ldc2_w 225, 3) := by decide +kernel
theorem dX12_sightLine_77 : decode cX12_sightLine 77 = .ok (.lcmp, 1) := by decide +kernel
theorem dX12_sightLine_78 : decode cX12_sightLine 78 = .ok (.ifCond .ne 7, 3) := by decide +kernel
theorem dX12_sightLine_81 : decode cX12_sightLine 81 = .ok (.iconst 1, 1) := by decide +kernel
theorem dX12_sightLine_82 : decode cX12_sightLine 82 = .ok (.goto 4, 3) := by decide +kernel
theorem dX12_sightLine_85 : decode cX12_sightLine 85 = .ok (.iconst 0, 1) := by decide +kernel
theorem dX12_sightLine_86 : decode cX12_sightLine 86 = .ok (.iastore, 1) := by decide +kernel
theorem dX12_sightLine_87 : decode cX12_sightLine 87 = .ok (.aload_n 0, 1) := by decide +kernel
theorem dX12_sightLine_88 : decode cX12_sightLine 88 = .ok (.iconst 0, 1) := by decide +kernel
theorem dX12_sightLine_89 : decode cX12_sightLine 89 = .ok (.iconst 1, 1) := by decide +kernel
theorem dX12_sightLine_90 : decode cX12_sightLine 90 = .ok (.iconst 4, 1) := by decide +kernel
theorem dX12_sightLine_91 : decode cX12_sightLine 91 = .ok (.bipush 8, 2) := by decide +kernel
theorem dX12_sightLine_93 : decode cX12_sightLine 93 = .ok (.invokevirtual 217, 3) := by decide +kernel
theorem dX12_sightLine_96 : decode cX12_sightLine 96 = .ok (.iconst 1, 1) := by decide +kernel
theorem dX12_sightLine_97 : decode cX12_sightLine 97 = .ok (.ireturn, 1) := by decide +kernel
def fX12_sightLine_b21 (μ : zM) (x0 : Nat) (x3 : Int32) (x1 : Int64) : Option (Int32 × zM) :=
  zb1 (fX12_full μ x0 0 8 x3) fun m2 =>
  zb1 (fX12_token m2 x0) fun m4 =>
  zb2 (fX12_take m4 x0 1 0 30) fun v7 m6 =>
  if v7 = 0 then (
  some (0, m6))
  else (
  zb2 (fX12_take m6 x0 2 0 99) fun v10 m9 =>
  if v10 = 0 then (
  some (0, m9))
  else (
  zb2 (fX12_take m9 x0 3 0 7) fun v13 m12 =>
  if v13 = 0 then (
  some (0, m12))
  else (
  zb1 (zm_gR m12 12 x0 20) fun v14 =>
  zb1 (if (lg_cmp x1 448377483876) = 0 then (
  some 1)
  else (
  some 0)) fun s16 =>
  zb1 (zm_sI m12 0 v14 0 s16) fun m18 =>
  zb1 (fX12_keep m18 x0 0 1 4 8) fun m21 =>
  some (1, m21))))
def fX12_sightLine (μ : zM) (x0 : Nat) (x1 : Int64) (x3 : Int32) : Option (Int32 × zM) := zgd (zm_ck μ 12 x0) <|
  if (lg_cmp x1 448377483876) = 0 then (
  fX12_sightLine_b21 μ x0 x3 x1)
  else (
  if (lg_cmp x1 7237492) = 0 then (
  fX12_sightLine_b21 μ x0 x3 x1)
  else (
  zb2 (fX12_fails μ x0) fun v25 m24 =>
  zb1 (zbz v25) fun v26 =>
  some (v26, m24)))
theorem fX12_sightLine_ck {μ : zM} {x0 : Nat} {x1 : Int64} {x3 : Int32} {z : Int32 × zM} (h : fX12_sightLine μ x0 x1 x3 = some z) : zm_ck μ 12 x0 = true := (zgd_s h).1
set_option maxHeartbeats 4000000 in
set_option maxRecDepth 100000 in
theorem cX12_sightLine_ok {μ : zM} {x0 : Nat} {x1 : Int64} {x3 : Int32} {r : Int32} {mo : zM} (hf : fX12_sightLine μ x0 x1 x3 = some (r, mo)) : zC yX12_sightLine cX12_sightLine 4 (some .boolean) 3 0 0 [.ref x0, .long x1, .int x3] μ (some (.int r)) mo := by
  replace hf := (zgd_s hf).2
  refine zC.of (by decide) (Nat.le_of_ble_eq_true rfl) (fun K hin => ?_)
  clear hin
  show zz K cX12_sightLine (4, RX12, some .boolean, 3, 0, 0, some (.int r), mo) 0 0 0 [(0, .ref x0), (1, .long x1), (3, .int x3)] [] μ
  refine zr_lload_n 1 dX12_sightLine_0 rfl ?_
  refine zr_ldc2 zl_869 dX12_sightLine_1 ?_
  refine zr_lcmp dX12_sightLine_4 ?_
  have hb22 : ∀ (_ : Unit), fX12_sightLine_b21 μ x0 x3 x1 = some (r, mo) → zz K cX12_sightLine (4, RX12, some .boolean, 3, 0, 0, some (.int r), mo) 0 0 21 [(0, .ref x0), (1, .long x1), (3, .int x3)] [] μ := by
    intro _ hf
    unfold fX12_sightLine_b21 at hf
    refine zr_aload_n 0 dX12_sightLine_21 rfl ?_
    refine zr_iconst 0 dX12_sightLine_22 (by decide) ?_
    refine zr_bipush 8 dX12_sightLine_23 (by decide) ?_
    refine zr_iload_n 2 dX12_sightLine_25 rfl ?_
    replace hf := zb1_s hf
    obtain ⟨m2, h1, hf⟩ := hf
    refine zr_callV (ci := 12) [.int 0, .int 8, .int x3] (cX12_full_ok h1) zvs_X12_full zl_852 zl_853 (fX12_full_ck h1) rfl rfl zl_851 rfl (Nat.le_of_ble_eq_true rfl) (Nat.le_of_ble_eq_true rfl) (Nat.le_of_ble_eq_true rfl) (Nat.le_of_ble_eq_true rfl) dX12_sightLine_26 rfl ?_
    refine zr_aload_n 0 dX12_sightLine_29 rfl ?_
    replace hf := zb1_s hf
    obtain ⟨m4, h3, hf⟩ := hf
    refine zr_callV (ci := 12) [] (cX12_token_ok h3) zvs_X12_token zl_808 zl_809 (fX12_token_ck h3) rfl rfl zl_807 rfl (Nat.le_of_ble_eq_true rfl) (Nat.le_of_ble_eq_true rfl) (Nat.le_of_ble_eq_true rfl) (Nat.le_of_ble_eq_true rfl) dX12_sightLine_30 rfl ?_
    refine zr_aload_n 0 dX12_sightLine_33 rfl ?_
    refine zr_iconst 1 dX12_sightLine_34 (by decide) ?_
    refine zr_iconst 0 dX12_sightLine_35 (by decide) ?_
    refine zr_bipush 30 dX12_sightLine_36 (by decide) ?_
    replace hf := zb2_s hf
    obtain ⟨v7, m6, h5, hf⟩ := hf
    refine zr_callV (ci := 12) [.int 1, .int 0, .int 30] (cX12_take_ok h5) zvs_X12_take zl_824 zl_825 (fX12_take_ck h5) rfl rfl zl_823 rfl (Nat.le_of_ble_eq_true rfl) (Nat.le_of_ble_eq_true rfl) (Nat.le_of_ble_eq_true rfl) (Nat.le_of_ble_eq_true rfl) dX12_sightLine_38 rfl ?_
    refine zr_if_eq 66 dX12_sightLine_41 (by decide) (fun hc => ?_) (fun hc => ?_)
    · rw [if_pos hc] at hf
      refine zr_iconst 0 dX12_sightLine_66 (by decide) ?_
      cases hf
      exact zr_zret rfl dX12_sightLine_67
    · rw [if_neg hc] at hf
      refine zr_aload_n 0 dX12_sightLine_44 rfl ?_
      refine zr_iconst 2 dX12_sightLine_45 (by decide) ?_
      refine zr_iconst 0 dX12_sightLine_46 (by decide) ?_
      refine zr_bipush 99 dX12_sightLine_47 (by decide) ?_
      replace hf := zb2_s hf
      obtain ⟨v10, m9, h8, hf⟩ := hf
      refine zr_callV (ci := 12) [.int 2, .int 0, .int 99] (cX12_take_ok h8) zvs_X12_take zl_824 zl_825 (fX12_take_ck h8) rfl rfl zl_823 rfl (Nat.le_of_ble_eq_true rfl) (Nat.le_of_ble_eq_true rfl) (Nat.le_of_ble_eq_true rfl) (Nat.le_of_ble_eq_true rfl) dX12_sightLine_49 rfl ?_
      refine zr_if_eq 66 dX12_sightLine_52 (by decide) (fun hc => ?_) (fun hc => ?_)
      · rw [if_pos hc] at hf
        refine zr_iconst 0 dX12_sightLine_66 (by decide) ?_
        cases hf
        exact zr_zret rfl dX12_sightLine_67
      · rw [if_neg hc] at hf
        refine zr_aload_n 0 dX12_sightLine_55 rfl ?_
        refine zr_iconst 3 dX12_sightLine_56 (by decide) ?_
        refine zr_iconst 0 dX12_sightLine_57 (by decide) ?_
        refine zr_bipush 7 dX12_sightLine_58 (by decide) ?_
        replace hf := zb2_s hf
        obtain ⟨v13, m12, h11, hf⟩ := hf
        refine zr_callV (ci := 12) [.int 3, .int 0, .int 7] (cX12_take_ok h11) zvs_X12_take zl_824 zl_825 (fX12_take_ck h11) rfl rfl zl_823 rfl (Nat.le_of_ble_eq_true rfl) (Nat.le_of_ble_eq_true rfl) (Nat.le_of_ble_eq_true rfl) (Nat.le_of_ble_eq_true rfl) dX12_sightLine_60 rfl ?_
        refine zr_if_ne 68 dX12_sightLine_63 (by decide) (fun hc => ?_) (fun hc => ?_)
        · rw [if_neg hc] at hf
          refine zr_aload_n 0 dX12_sightLine_68 rfl ?_
          replace hf := zb1_s hf
          obtain ⟨v14, h15, hf⟩ := hf
          refine zr_get (zm_gR_g h15) zk12 (by decide) zl_763 dX12_sightLine_69 ?_
          refine zr_iconst 0 dX12_sightLine_72 (by decide) ?_
          refine zr_lload_n 1 dX12_sightLine_73 rfl ?_
          refine zr_ldc2 zl_869 dX12_sightLine_74 ?_
          refine zr_lcmp dX12_sightLine_77 ?_
          replace hf := zb1_s hf
          obtain ⟨s16, hg, hf⟩ := hf
          have hj17 : zz K cX12_sightLine (4, RX12, some .boolean, 3, 0, 0, some (.int r), mo) 0 0 86 [(0, .ref x0)] [.int s16, .int 0, .ref v14] m12 := by
            replace hf := zb1_s hf
            obtain ⟨m18, h19, hf⟩ := hf
            refine zr_iast h19 dX12_sightLine_86 ?_
            refine zr_aload_n 0 dX12_sightLine_87 rfl ?_
            refine zr_iconst 0 dX12_sightLine_88 (by decide) ?_
            refine zr_iconst 1 dX12_sightLine_89 (by decide) ?_
            refine zr_iconst 4 dX12_sightLine_90 (by decide) ?_
            refine zr_bipush 8 dX12_sightLine_91 (by decide) ?_
            replace hf := zb1_s hf
            obtain ⟨m21, h20, hf⟩ := hf
            refine zr_callV (ci := 12) [.int 0, .int 1, .int 4, .int 8] (cX12_keep_ok h20) zvs_X12_keep zl_865 zl_866 (fX12_keep_ck h20) rfl rfl zl_864 rfl (Nat.le_of_ble_eq_true rfl) (Nat.le_of_ble_eq_true rfl) (Nat.le_of_ble_eq_true rfl) (Nat.le_of_ble_eq_true rfl) dX12_sightLine_93 rfl ?_
            refine zr_iconst 1 dX12_sightLine_96 (by decide) ?_
            cases hf
            exact zr_zret rfl dX12_sightLine_97
          clear hf
          have hf := hg
          clear hg
          refine zr_if_ne 85 dX12_sightLine_78 (by decide) (fun hc => ?_) (fun hc => ?_)
          · rw [if_neg hc] at hf
            refine zr_iconst 0 dX12_sightLine_85 (by decide) ?_
            cases hf
            exact zr_lv [0] rfl hj17
          · rw [if_pos hc] at hf
            refine zr_iconst 1 dX12_sightLine_81 (by decide) ?_
            refine zr_goto 86 dX12_sightLine_82 (by decide) ?_
            cases hf
            exact zr_lv [0] rfl hj17
        · rw [if_pos hc] at hf
          refine zr_iconst 0 dX12_sightLine_66 (by decide) ?_
          cases hf
          exact zr_zret rfl dX12_sightLine_67
  refine zr_if_eq 21 dX12_sightLine_5 (by decide) (fun hc => ?_) (fun hc => ?_)
  · rw [if_pos hc] at hf
    exact zr_lv [0, 1, 2] rfl (hb22 () hf)
  · rw [if_neg hc] at hf
    refine zr_lload_n 1 dX12_sightLine_8 rfl ?_
    refine zr_ldc2 zl_870 dX12_sightLine_9 ?_
    refine zr_lcmp dX12_sightLine_12 ?_
    refine zr_if_eq 21 dX12_sightLine_13 (by decide) (fun hc => ?_) (fun hc => ?_)
    · rw [if_pos hc] at hf
      exact zr_lv [0, 1, 2] rfl (hb22 () hf)
    · rw [if_neg hc] at hf
      refine zr_aload_n 0 dX12_sightLine_16 rfl ?_
      replace hf := zb2_s hf
      obtain ⟨v25, m24, h23, hf⟩ := hf
      refine zr_callV (ci := 12) [] (cX12_fails_ok h23) zvs_X12_fails zl_817 zl_818 (fX12_fails_ck h23) rfl rfl zl_816 rfl (Nat.le_of_ble_eq_true rfl) (Nat.le_of_ble_eq_true rfl) (Nat.le_of_ble_eq_true rfl) (Nat.le_of_ble_eq_true rfl) dX12_sightLine_17 rfl ?_
      replace hf := zb1_s hf
      obtain ⟨v26, hn27, hf⟩ := hf
      obtain ⟨hn27, rfl⟩ := zbz_s hn27
      cases hf
      exact zr_zret hn27 dX12_sightLine_20
theorem zl_871 : Cond.code yX12_valleyLine cX12_valleyLine 6 (some .boolean) ∈ zt := zt_at 1555 (by decide +kernel)
theorem zvs_X12_valleyLine : zvS yX12_valleyLine cX12_valleyLine 6 (some .boolean) 2 := ⟨zl_871, zl_782, ⟨by decide +kernel, by decide +kernel, by decide +kernel⟩, by decide⟩
theorem zl_872 : Cond.methodLink RX12 229 yX12_valleyLine ∈ zt := zt_at 1552 (by decide +kernel)
theorem zl_873 : Cond.instanceMethod yX12_valleyLine ∈ zt := zt_at 1554 (by decide +kernel)
theorem zl_874 : Cond.selects RX12 yX12_valleyLine yX12_valleyLine ∈ zt := zt_at 55 (by decide +kernel)
theorem zl_875 : Cond.code yX12_dayLine cX12_dayLine 6 (some .boolean) ∈ zt := zt_at 1602 (by decide +kernel)
theorem zvs_X12_dayLine : zvS yX12_dayLine cX12_dayLine 6 (some .boolean) 2 := ⟨zl_875, zl_782, ⟨by decide +kernel, by decide +kernel, by decide +kernel⟩, by decide⟩
theorem zl_876 : Cond.methodLink RX12 233 yX12_dayLine ∈ zt := zt_at 1599 (by decide +kernel)
theorem zl_877 : Cond.instanceMethod yX12_dayLine ∈ zt := zt_at 1601 (by decide +kernel)
theorem zl_878 : Cond.selects RX12 yX12_dayLine yX12_dayLine ∈ zt := zt_at 63 (by decide +kernel)
theorem zl_879 : Cond.code yX12_lessonLine cX12_lessonLine 4 (some .boolean) ∈ zt := zt_at 1618 (by decide +kernel)
theorem zvs_X12_lessonLine : zvS yX12_lessonLine cX12_lessonLine 4 (some .boolean) 2 := ⟨zl_879, zl_782, ⟨by decide +kernel, by decide +kernel, by decide +kernel⟩, by decide⟩
theorem zl_880 : Cond.methodLink RX12 236 yX12_lessonLine ∈ zt := zt_at 1615 (by decide +kernel)
theorem zl_881 : Cond.instanceMethod yX12_lessonLine ∈ zt := zt_at 1617 (by decide +kernel)
theorem zl_882 : Cond.selects RX12 yX12_lessonLine yX12_lessonLine ∈ zt := zt_at 65 (by decide +kernel)
theorem zl_883 : Cond.code yX12_sightLine cX12_sightLine 4 (some .boolean) ∈ zt := zt_at 1624 (by decide +kernel)
theorem zvs_X12_sightLine : zvS yX12_sightLine cX12_sightLine 4 (some .boolean) 2 := ⟨zl_883, zl_782, ⟨by decide +kernel, by decide +kernel, by decide +kernel⟩, by decide⟩
theorem zl_884 : Cond.methodLink RX12 239 yX12_sightLine ∈ zt := zt_at 1621 (by decide +kernel)
theorem zl_885 : Cond.instanceMethod yX12_sightLine ∈ zt := zt_at 1623 (by decide +kernel)
theorem zl_886 : Cond.selects RX12 yX12_sightLine yX12_sightLine ∈ zt := zt_at 66 (by decide +kernel)
theorem dX12_lineOf_0 : decode cX12_lineOf 0 = .ok (.iload_n 1, 1) := by decide +kernel
theorem dX12_lineOf_1 : decode cX12_lineOf 1 = .ok (.tableswitch 51 0 2 #[27, 35, 43], 27) := by decide +kernel
theorem dX12_lineOf_28 : decode cX12_lineOf 28 = .ok (.aload_n 0, 1) := by decide +kernel
theorem dX12_lineOf_29 : decode cX12_lineOf 29 = .ok (.lload_n 2, 1) := by decide +kernel
theorem dX12_lineOf_30 : decode cX12_lineOf 30 = .ok (.iload 4, 2) := by decide +kernel
theorem dX12_lineOf_32 : decode cX12_lineOf 32 = .ok (.invokevirtual 229, 3) := by decide +kernel
theorem dX12_lineOf_35 : decode cX12_lineOf 35 = .ok (.ireturn, 1) := by decide +kernel
theorem dX12_lineOf_36 : decode cX12_lineOf 36 = .ok (.aload_n 0, 1) := by decide +kernel
theorem dX12_lineOf_37 : decode cX12_lineOf 37 = .ok (.lload_n 2, 1) := by decide +kernel
theorem dX12_lineOf_38 : decode cX12_lineOf 38 = .ok (.iload 4, 2) := by decide +kernel
theorem dX12_lineOf_40 : decode cX12_lineOf 40 = .ok (.invokevirtual 233, 3) := by decide +kernel
theorem dX12_lineOf_43 : decode cX12_lineOf 43 = .ok (.ireturn, 1) := by decide +kernel
theorem dX12_lineOf_44 : decode cX12_lineOf 44 = .ok (.aload_n 0, 1) := by decide +kernel
theorem dX12_lineOf_45 : decode cX12_lineOf 45 = .ok (.lload_n 2, 1) := by decide +kernel
theorem dX12_lineOf_46 : decode cX12_lineOf 46 = .ok (.iload 4, 2) := by decide +kernel
theorem dX12_lineOf_48 : decode cX12_lineOf 48 = .ok (.invokevirtual 236, 3) := by decide +kernel
theorem dX12_lineOf_51 : decode cX12_lineOf 51 = .ok (.ireturn, 1) := by decide +kernel
theorem dX12_lineOf_52 : decode cX12_lineOf 52 = .ok (.aload_n 0, 1) := by decide +kernel
theorem dX12_lineOf_53 : decode cX12_lineOf 53 = .ok (.lload_n 2, 1) := by decide +kernel
theorem dX12_lineOf_54 : decode cX12_lineOf 54 = .ok (.iload 4, 2) := by decide +kernel
theorem dX12_lineOf_56 : decode cX12_lineOf 56 = .ok (.invokevirtual 239, 3) := by decide +kernel
theorem dX12_lineOf_59 : decode cX12_lineOf 59 = .ok (.ireturn, 1) := by decide +kernel
def fX12_lineOf (μ : zM) (x0 : Nat) (x1 : Int32) (x2 : Int64) (x4 : Int32) : Option (Int32 × zM) := zgd (zm_ck μ 12 x0) <|
  if x1 = 0 then (
  zb2 (fX12_valleyLine μ x0 x2 x4) fun v3 m2 =>
  zb1 (zbz v3) fun v4 =>
  some (v4, m2))
  else (
  if x1 = 1 then (
  zb2 (fX12_dayLine μ x0 x2 x4) fun v9 m8 =>
  zb1 (zbz v9) fun v10 =>
  some (v10, m8))
  else (
  if x1 = 2 then (
  zb2 (fX12_lessonLine μ x0 x2 x4) fun v15 m14 =>
  zb1 (zbz v15) fun v16 =>
  some (v16, m14))
  else (
  zb2 (fX12_sightLine μ x0 x2 x4) fun v21 m20 =>
  zb1 (zbz v21) fun v22 =>
  some (v22, m20))))
theorem fX12_lineOf_ck {μ : zM} {x0 : Nat} {x1 : Int32} {x2 : Int64} {x4 : Int32} {z : Int32 × zM} (h : fX12_lineOf μ x0 x1 x2 x4 = some z) : zm_ck μ 12 x0 = true := (zgd_s h).1
set_option maxHeartbeats 4000000 in
set_option maxRecDepth 100000 in
theorem cX12_lineOf_ok {μ : zM} {x0 : Nat} {x1 : Int32} {x2 : Int64} {x4 : Int32} {r : Int32} {mo : zM} (hf : fX12_lineOf μ x0 x1 x2 x4 = some (r, mo)) : zC yX12_lineOf cX12_lineOf 5 (some .boolean) 5 0 0 [.ref x0, .int x1, .long x2, .int x4] μ (some (.int r)) mo := by
  replace hf := (zgd_s hf).2
  refine zC.of (by decide) (Nat.le_of_ble_eq_true rfl) (fun K hin => ?_)
  clear hin
  show zz K cX12_lineOf (5, RX12, some .boolean, 5, 0, 0, some (.int r), mo) 0 0 0 [(0, .ref x0), (1, .int x1), (2, .long x2), (4, .int x4)] [] μ
  refine zr_iload_n 1 dX12_lineOf_0 rfl ?_
  rcases zdec (x1 = 0) with hs6 | hs6
  · rw [if_pos hs6] at hf
    refine zr_tableIn (off := 27) 28 dX12_lineOf_1 (by rw [hs6]; decide) (by rw [hs6]; decide) (by rw [hs6]; rfl) (by decide) ?_
    refine zr_aload_n 0 dX12_lineOf_28 rfl ?_
    refine zr_lload_n 2 dX12_lineOf_29 rfl ?_
    refine zr_iload 3 dX12_lineOf_30 rfl ?_
    replace hf := zb2_s hf
    obtain ⟨v3, m2, h1, hf⟩ := hf
    refine zr_callV (ci := 12) [.long x2, .int x4] (cX12_valleyLine_ok h1) zvs_X12_valleyLine zl_873 zl_874 (fX12_valleyLine_ck h1) rfl rfl zl_872 rfl (Nat.le_of_ble_eq_true rfl) (Nat.le_of_ble_eq_true rfl) (Nat.le_of_ble_eq_true rfl) (Nat.le_of_ble_eq_true rfl) dX12_lineOf_32 rfl ?_
    replace hf := zb1_s hf
    obtain ⟨v4, hn5, hf⟩ := hf
    obtain ⟨hn5, rfl⟩ := zbz_s hn5
    cases hf
    exact zr_zret hn5 dX12_lineOf_35
  rw [if_neg hs6] at hf
  rcases zdec (x1 = 1) with hs12 | hs12
  · rw [if_pos hs12] at hf
    refine zr_tableIn (off := 35) 36 dX12_lineOf_1 (by rw [hs12]; decide) (by rw [hs12]; decide) (by rw [hs12]; rfl) (by decide) ?_
    refine zr_aload_n 0 dX12_lineOf_36 rfl ?_
    refine zr_lload_n 2 dX12_lineOf_37 rfl ?_
    refine zr_iload 3 dX12_lineOf_38 rfl ?_
    replace hf := zb2_s hf
    obtain ⟨v9, m8, h7, hf⟩ := hf
    refine zr_callV (ci := 12) [.long x2, .int x4] (cX12_dayLine_ok h7) zvs_X12_dayLine zl_877 zl_878 (fX12_dayLine_ck h7) rfl rfl zl_876 rfl (Nat.le_of_ble_eq_true rfl) (Nat.le_of_ble_eq_true rfl) (Nat.le_of_ble_eq_true rfl) (Nat.le_of_ble_eq_true rfl) dX12_lineOf_40 rfl ?_
    replace hf := zb1_s hf
    obtain ⟨v10, hn11, hf⟩ := hf
    obtain ⟨hn11, rfl⟩ := zbz_s hn11
    cases hf
    exact zr_zret hn11 dX12_lineOf_43
  rw [if_neg hs12] at hf
  rcases zdec (x1 = 2) with hs18 | hs18
  · rw [if_pos hs18] at hf
    refine zr_tableIn (off := 43) 44 dX12_lineOf_1 (by rw [hs18]; decide) (by rw [hs18]; decide) (by rw [hs18]; rfl) (by decide) ?_
    refine zr_aload_n 0 dX12_lineOf_44 rfl ?_
    refine zr_lload_n 2 dX12_lineOf_45 rfl ?_
    refine zr_iload 3 dX12_lineOf_46 rfl ?_
    replace hf := zb2_s hf
    obtain ⟨v15, m14, h13, hf⟩ := hf
    refine zr_callV (ci := 12) [.long x2, .int x4] (cX12_lessonLine_ok h13) zvs_X12_lessonLine zl_881 zl_882 (fX12_lessonLine_ck h13) rfl rfl zl_880 rfl (Nat.le_of_ble_eq_true rfl) (Nat.le_of_ble_eq_true rfl) (Nat.le_of_ble_eq_true rfl) (Nat.le_of_ble_eq_true rfl) dX12_lineOf_48 rfl ?_
    replace hf := zb1_s hf
    obtain ⟨v16, hn17, hf⟩ := hf
    obtain ⟨hn17, rfl⟩ := zbz_s hn17
    cases hf
    exact zr_zret hn17 dX12_lineOf_51
  rw [if_neg hs18] at hf
  refine zr_tableOut 52 dX12_lineOf_1 (by simp only [← Int32.toInt_inj] at hs6 hs12 hs18; simp at hs6 hs12 hs18; omega) (by decide) ?_
  refine zr_aload_n 0 dX12_lineOf_52 rfl ?_
  refine zr_lload_n 2 dX12_lineOf_53 rfl ?_
  refine zr_iload 3 dX12_lineOf_54 rfl ?_
  replace hf := zb2_s hf
  obtain ⟨v21, m20, h19, hf⟩ := hf
  refine zr_callV (ci := 12) [.long x2, .int x4] (cX12_sightLine_ok h19) zvs_X12_sightLine zl_885 zl_886 (fX12_sightLine_ck h19) rfl rfl zl_884 rfl (Nat.le_of_ble_eq_true rfl) (Nat.le_of_ble_eq_true rfl) (Nat.le_of_ble_eq_true rfl) (Nat.le_of_ble_eq_true rfl) dX12_lineOf_56 rfl ?_
  replace hf := zb1_s hf
  obtain ⟨v22, hn23, hf⟩ := hf
  obtain ⟨hn23, rfl⟩ := zbz_s hn23
  cases hf
  exact zr_zret hn23 dX12_lineOf_59
theorem zl_887 : Cond.code yX12_lineOf cX12_lineOf 5 (some .boolean) ∈ zt := zt_at 1551 (by decide +kernel)
theorem zvs_X12_lineOf : zvS yX12_lineOf cX12_lineOf 5 (some .boolean) 3 := ⟨zl_887, zl_782, ⟨by decide +kernel, by decide +kernel, by decide +kernel⟩, by decide⟩
theorem zl_888 : Cond.methodLink RX12 242 yX12_lineOf ∈ zt := zt_at 1548 (by decide +kernel)
theorem zl_889 : Cond.instanceMethod yX12_lineOf ∈ zt := zt_at 1550 (by decide +kernel)
theorem zl_890 : Cond.selects RX12 yX12_lineOf yX12_lineOf ∈ zt := zt_at 54 (by decide +kernel)
theorem dX12_lines_0 : decode cX12_lines 0 = .ok (.iconst 1, 1) := by decide +kernel
theorem dX12_lines_1 : decode cX12_lines 1 = .ok (.istore_n 2, 1) := by decide +kernel
theorem dX12_lines_2 : decode cX12_lines 2 = .ok (.iload_n 2, 1) := by decide +kernel
theorem dX12_lines_3 : decode cX12_lines 3 = .ok (.ifCond .eq 71, 3) := by decide +kernel
theorem dX12_lines_6 : decode cX12_lines 6 = .ok (.aload_n 0, 1) := by decide +kernel
theorem dX12_lines_7 : decode cX12_lines 7 = .ok (.getfield 126, 3) := by decide +kernel
theorem dX12_lines_10 : decode cX12_lines 10 = .ok (.ifCond .eq 64, 3) := by decide +kernel
theorem dX12_lines_13 : decode cX12_lines 13 = .ok (.aload_n 0, 1) := by decide +kernel
theorem dX12_lines_14 : decode cX12_lines 14 = .ok (.getfield 119, 3) := by decide +kernel
theorem dX12_lines_17 : decode cX12_lines 17 = .ok (.istore_n 3, 1) := by decide +kernel
theorem dX12_lines_18 : decode cX12_lines 18 = .ok (.aload_n 0, 1) := by decide +kernel
theorem dX12_lines_19 : decode cX12_lines 19 = .ok (.iconst 1, 1) := by decide +kernel
theorem dX12_lines_20 : decode cX12_lines 20 = .ok (.putfield 149, 3) := by decide +kernel
theorem dX12_lines_23 : decode cX12_lines 23 = .ok (.aload_n 0, 1) := by decide +kernel
theorem dX12_lines_24 : decode cX12_lines 24 = .ok (.iload_n 1, 1) := by decide +kernel
theorem dX12_lines_25 : decode cX12_lines 25 = .ok (.aload_n 0, 1) := by decide +kernel
theorem dX12_lines_26 : decode cX12_lines 26 = .ok (.getfield 126, 3) := by decide +kernel
theorem dX12_lines_29 : decode cX12_lines 29 = .ok (.iconst 2, 1) := by decide +kernel
theorem dX12_lines_30 : decode cX12_lines 30 = .ok (.if_icmp .ne 10, 3) := by decide +kernel
theorem dX12_lines_33 : decode cX12_lines 33 = .ok (.aload_n 0, 1) := by decide +kernel
theorem dX12_lines_34 : decode cX12_lines 34 = .ok (.getfield 122, 3) := by decide +kernel
theorem dX12_lines_37 : decode cX12_lines 37 = .ok (.goto 4, 3) := by decide +kernel
theorem dX12_lines_40 : decode cX12_lines 40 = .ok (.lconst 0, 1) := by decide +kernel
theorem dX12_lines_41 : decode cX12_lines 41 = .ok (.iload_n 3, 1) := by decide +kernel
theorem dX12_lines_42 : decode cX12_lines 42 = .ok (.invokevirtual 242, 3) := by decide +kernel
theorem dX12_lines_45 : decode cX12_lines 45 = .ok (.istore_n 2, 1) := by decide +kernel
theorem dX12_lines_46 : decode cX12_lines 46 = .ok (.iload_n 2, 1) := by decide +kernel
theorem dX12_lines_47 : decode cX12_lines 47 = .ok (.ifCond .eq 16, 3) := by decide +kernel
theorem dX12_lines_50 : decode cX12_lines 50 = .ok (.aload_n 0, 1) := by decide +kernel
theorem dX12_lines_51 : decode cX12_lines 51 = .ok (.getfield 126, 3) := by decide +kernel
theorem dX12_lines_54 : decode cX12_lines 54 = .ok (.iconst 4, 1) := by decide +kernel
theorem dX12_lines_55 : decode cX12_lines 55 = .ok (.if_icmp .eq 8, 3) := by decide +kernel
theorem dX12_lines_58 : decode cX12_lines 58 = .ok (.aload_n 0, 1) := by decide +kernel
theorem dX12_lines_59 : decode cX12_lines 59 = .ok (.invokevirtual 141, 3) := by decide +kernel
theorem dX12_lines_62 : decode cX12_lines 62 = .ok (.istore_n 2, 1) := by decide +kernel
theorem dX12_lines_63 : decode cX12_lines 63 = .ok (.iload_n 2, 1) := by decide +kernel
theorem dX12_lines_64 : decode cX12_lines 64 = .ok (.ifCond .eq 7, 3) := by decide +kernel
theorem dX12_lines_67 : decode cX12_lines 67 = .ok (.aload_n 0, 1) := by decide +kernel
theorem dX12_lines_68 : decode cX12_lines 68 = .ok (.invokevirtual 153, 3) := by decide +kernel
theorem dX12_lines_71 : decode cX12_lines 71 = .ok (.goto (-69), 3) := by decide +kernel
theorem dX12_lines_74 : decode cX12_lines 74 = .ok (.iload_n 2, 1) := by decide +kernel
theorem dX12_lines_75 : decode cX12_lines 75 = .ok (.ireturn, 1) := by decide +kernel
def fX12_lines_l2 (x0 : Nat) (x1 : Int32) (F3 : Int32 → zM → Option (Int32 × zM)) (x2_1 : Int32) (m2 : zM) : Option (Int32 × zM) :=
  if x2_1 = 0 then (
  some (x2_1, m2))
  else (
  zb1 (zm_gI m2 12 x0 13) fun v8 =>
  if v8 = 0 then (
  some (x2_1, m2))
  else (
  zb1 (zm_gI m2 12 x0 12) fun v10 =>
  zb1 (zm_p m2 12 x0 22 (.int 1)) fun m12 =>
  zb1 (zm_gI m12 12 x0 13) fun v14 =>
  zb1 (if v14 = 2 then (
  zb1 (zm_gL m12 12 x0 15) fun v33 =>
  some v33)
  else (
  some 0)) fun s16 =>
  zb2 (fX12_lineOf m12 x0 x1 s16 v10) fun v20 m19 =>
  zb2 (if v20 = 0 then (
  some (v20, m19))
  else (
  zb1 (zm_gI m19 12 x0 13) fun v28 =>
  if v28 = 4 then (
  some (v20, m19))
  else (
  zb2 (fX12_fails m19 x0) fun v32 m31 =>
  some (v32, m31)))) fun x2_21 m22 =>
  zb1 (if x2_21 = 0 then (
  some m22)
  else (
  zb1 (fX12_token m22 x0) fun m27 =>
  some m27)) fun m24 =>
  F3 x2_21 m24))
def fX12_lines (μ : zM) (x0 : Nat) (x1 : Int32) : Option (Int32 × zM) := zgd (zm_ck μ 12 x0) <|
  zb2 (zf2 (fX12_lines_l2 x0 x1) zfu 1 μ) fun x2_5 m6 =>
  zb1 (zbz x2_5) fun v36 =>
  some (v36, m6)
theorem fX12_lines_ck {μ : zM} {x0 : Nat} {x1 : Int32} {z : Int32 × zM} (h : fX12_lines μ x0 x1 = some z) : zm_ck μ 12 x0 = true := (zgd_s h).1
set_option maxHeartbeats 4000000 in
set_option maxRecDepth 100000 in
theorem cX12_lines_ok {μ : zM} {x0 : Nat} {x1 : Int32} {r : Int32} {mo : zM} (hf : fX12_lines μ x0 x1 = some (r, mo)) : zC yX12_lines cX12_lines 4 (some .boolean) 6 0 0 [.ref x0, .int x1] μ (some (.int r)) mo := by
  replace hf := (zgd_s hf).2
  refine zC.of (by decide) (Nat.le_of_ble_eq_true rfl) (fun K hin => ?_)
  clear hin
  show zz K cX12_lines (4, RX12, some .boolean, 6, 0, 0, some (.int r), mo) 0 0 0 [(0, .ref x0), (1, .int x1)] [] μ
  refine zr_iconst 1 dX12_lines_0 (by decide) ?_
  refine zr_istore_n [(2, .int 1), (0, .ref x0), (1, .int x1)] dX12_lines_1 (Nat.le_of_ble_eq_true rfl) rfl ?_
  replace hf := zb2_s hf
  obtain ⟨x2_5, m6, hg, hf⟩ := hf
  have hj7 : zz K cX12_lines (4, RX12, some .boolean, 6, 0, 0, some (.int r), mo) 0 0 74 [(2, .int x2_5)] [] m6 := by
    refine zr_iload_n 0 dX12_lines_74 rfl ?_
    replace hf := zb1_s hf
    obtain ⟨v36, hn37, hf⟩ := hf
    obtain ⟨hn37, rfl⟩ := zbz_s hn37
    cases hf
    exact zr_zret hn37 dX12_lines_75
  clear hf
  have hf := hg
  clear hg
  have hL35 : ∀ (n : Nat) (x2_1 : Int32) (m2 : zM), zf2 (fX12_lines_l2 x0 x1) n x2_1 m2 = some (x2_5, m6) → zz K cX12_lines (4, RX12, some .boolean, 6, 0, 0, some (.int r), mo) 0 0 2 [(0, .ref x0), (1, .int x1), (2, .int x2_1)] [] m2 := by
    intro n
    induction n with
    | zero => intro x2_1 m2 hf; cases hf
    | succ n ih4 =>
      intro x2_1 m2 hf
      replace hf := zf2_s hf
      generalize zf2 (fX12_lines_l2 x0 x1) n = F3 at hf ih4
      unfold fX12_lines_l2 at hf
      refine zr_iload_n 2 dX12_lines_2 rfl ?_
      refine zr_if_eq 74 dX12_lines_3 (by decide) (fun hc => ?_) (fun hc => ?_)
      · rw [if_pos hc] at hf
        cases hf
        exact zr_lv [2] rfl hj7
      · rw [if_neg hc] at hf
        refine zr_aload_n 0 dX12_lines_6 rfl ?_
        replace hf := zb1_s hf
        obtain ⟨v8, h9, hf⟩ := hf
        refine zr_get (zm_gI_g h9) zk12 (by decide) zl_801 dX12_lines_7 ?_
        refine zr_if_eq 74 dX12_lines_10 (by decide) (fun hc => ?_) (fun hc => ?_)
        · rw [if_pos hc] at hf
          cases hf
          exact zr_lv [2] rfl hj7
        · rw [if_neg hc] at hf
          refine zr_aload_n 0 dX12_lines_13 rfl ?_
          replace hf := zb1_s hf
          obtain ⟨v10, h11, hf⟩ := hf
          refine zr_get (zm_gI_g h11) zk12 (by decide) zl_799 dX12_lines_14 ?_
          refine zr_istore_n [(3, .int v10), (0, .ref x0), (1, .int x1), (2, .int x2_1)] dX12_lines_17 (Nat.le_of_ble_eq_true rfl) rfl ?_
          refine zr_aload_n 1 dX12_lines_18 rfl ?_
          refine zr_iconst 1 dX12_lines_19 (by decide) ?_
          replace hf := zb1_s hf
          obtain ⟨m12, h13, hf⟩ := hf
          refine zr_put h13 zk12 (by decide) zl_814 rfl (by decide) (by decide) dX12_lines_20 ?_
          refine zr_aload_n 1 dX12_lines_23 rfl ?_
          refine zr_iload_n 2 dX12_lines_24 rfl ?_
          refine zr_aload_n 1 dX12_lines_25 rfl ?_
          replace hf := zb1_s hf
          obtain ⟨v14, h15, hf⟩ := hf
          refine zr_get (zm_gI_g h15) zk12 (by decide) zl_801 dX12_lines_26 ?_
          refine zr_iconst 2 dX12_lines_29 (by decide) ?_
          replace hf := zb1_s hf
          obtain ⟨s16, hg, hf⟩ := hf
          have hj17 : zz K cX12_lines (4, RX12, some .boolean, 6, 0, 0, some (.int r), mo) 0 0 41 [(0, .ref x0), (1, .int x1), (3, .int v10)] [.long s16, .int x1, .ref x0] m12 := by
            refine zr_iload_n 2 dX12_lines_41 rfl ?_
            replace hf := zb2_s hf
            obtain ⟨v20, m19, h18, hf⟩ := hf
            refine zr_callV (ci := 12) [.int x1, .long s16, .int v10] (cX12_lineOf_ok h18) zvs_X12_lineOf zl_889 zl_890 (fX12_lineOf_ck h18) rfl rfl zl_888 rfl (Nat.le_of_ble_eq_true rfl) (Nat.le_of_ble_eq_true rfl) (Nat.le_of_ble_eq_true rfl) (Nat.le_of_ble_eq_true rfl) dX12_lines_42 rfl ?_
            refine zr_istore_n [(2, .int v20), (0, .ref x0), (1, .int x1), (3, .int v10)] dX12_lines_45 (Nat.le_of_ble_eq_true rfl) rfl ?_
            refine zr_iload_n 0 dX12_lines_46 rfl ?_
            replace hf := zb2_s hf
            obtain ⟨x2_21, m22, hg, hf⟩ := hf
            have hj23 : zz K cX12_lines (4, RX12, some .boolean, 6, 0, 0, some (.int r), mo) 0 0 63 [(0, .ref x0), (1, .int x1), (2, .int x2_21)] [] m22 := by
              refine zr_iload_n 2 dX12_lines_63 rfl ?_
              replace hf := zb1_s hf
              obtain ⟨m24, hg, hf⟩ := hf
              have hj25 : zz K cX12_lines (4, RX12, some .boolean, 6, 0, 0, some (.int r), mo) 0 0 71 [(0, .ref x0), (1, .int x1), (2, .int x2_21)] [] m24 := by
                refine zr_goto 2 dX12_lines_71 (by decide) ?_
                exact zr_lv [0, 1, 2] rfl (ih4 x2_21 m24 hf)
              clear hf
              have hf := hg
              clear hg
              refine zr_if_eq 71 dX12_lines_64 (by decide) (fun hc => ?_) (fun hc => ?_)
              · rw [if_pos hc] at hf
                cases hf
                exact zr_lv [0, 1, 2] rfl hj25
              · rw [if_neg hc] at hf
                refine zr_aload_n 0 dX12_lines_67 rfl ?_
                replace hf := zb1_s hf
                obtain ⟨m27, h26, hf⟩ := hf
                refine zr_callV (ci := 12) [] (cX12_token_ok h26) zvs_X12_token zl_808 zl_809 (fX12_token_ck h26) rfl rfl zl_807 rfl (Nat.le_of_ble_eq_true rfl) (Nat.le_of_ble_eq_true rfl) (Nat.le_of_ble_eq_true rfl) (Nat.le_of_ble_eq_true rfl) dX12_lines_68 rfl ?_
                cases hf
                exact zr_lv [0, 1, 2] rfl hj25
            clear hf
            have hf := hg
            clear hg
            refine zr_if_eq 63 dX12_lines_47 (by decide) (fun hc => ?_) (fun hc => ?_)
            · rw [if_pos hc] at hf
              cases hf
              exact zr_lv [1, 2, 0] rfl hj23
            · rw [if_neg hc] at hf
              refine zr_aload_n 1 dX12_lines_50 rfl ?_
              replace hf := zb1_s hf
              obtain ⟨v28, h29, hf⟩ := hf
              refine zr_get (zm_gI_g h29) zk12 (by decide) zl_801 dX12_lines_51 ?_
              refine zr_iconst 4 dX12_lines_54 (by decide) ?_
              refine zr_icmp_eq 63 dX12_lines_55 (by decide) (fun hc => ?_) (fun hc => ?_)
              · rw [if_pos hc] at hf
                cases hf
                exact zr_lv [1, 2, 0] rfl hj23
              · rw [if_neg hc] at hf
                refine zr_aload_n 1 dX12_lines_58 rfl ?_
                replace hf := zb2_s hf
                obtain ⟨v32, m31, h30, hf⟩ := hf
                refine zr_callV (ci := 12) [] (cX12_fails_ok h30) zvs_X12_fails zl_817 zl_818 (fX12_fails_ck h30) rfl rfl zl_816 rfl (Nat.le_of_ble_eq_true rfl) (Nat.le_of_ble_eq_true rfl) (Nat.le_of_ble_eq_true rfl) (Nat.le_of_ble_eq_true rfl) dX12_lines_59 rfl ?_
                refine zr_istore_n [(2, .int v32), (0, .ref x0), (1, .int x1), (3, .int v10)] dX12_lines_62 (Nat.le_of_ble_eq_true rfl) rfl ?_
                cases hf
                exact zr_lv [1, 2, 0] rfl hj23
          clear hf
          have hf := hg
          clear hg
          refine zr_icmp_ne 40 dX12_lines_30 (by decide) (fun hc => ?_) (fun hc => ?_)
          · rw [if_neg hc] at hf
            refine zr_lconst 0 dX12_lines_40 (by decide) ?_
            cases hf
            exact zr_lv [1, 2, 0] rfl hj17
          · rw [if_pos hc] at hf
            refine zr_aload_n 1 dX12_lines_33 rfl ?_
            replace hf := zb1_s hf
            obtain ⟨v33, h34, hf⟩ := hf
            refine zr_get (zm_gL_g h34) zk12 (by decide) zl_800 dX12_lines_34 ?_
            refine zr_goto 41 dX12_lines_37 (by decide) ?_
            cases hf
            exact zr_lv [1, 2, 0] rfl hj17
  exact zr_lv [1, 2, 0] rfl (hL35 _ 1 μ hf)
theorem dX12_blank_0 : decode cX12_blank 0 = .ok (.iconst 0, 1) := by decide +kernel
theorem dX12_blank_1 : decode cX12_blank 1 = .ok (.istore_n 2, 1) := by decide +kernel
theorem dX12_blank_2 : decode cX12_blank 2 = .ok (.iload_n 2, 1) := by decide +kernel
theorem dX12_blank_3 : decode cX12_blank 3 = .ok (.bipush 121, 2) := by decide +kernel
theorem dX12_blank_5 : decode cX12_blank 5 = .ok (.if_icmp .ge 16, 3) := by decide +kernel
theorem dX12_blank_8 : decode cX12_blank 8 = .ok (.aload_n 0, 1) := by decide +kernel
theorem dX12_blank_9 : decode cX12_blank 9 = .ok (.getfield 38, 3) := by decide +kernel
theorem dX12_blank_12 : decode cX12_blank 12 = .ok (.iload_n 2, 1) := by decide +kernel
theorem dX12_blank_13 : decode cX12_blank 13 = .ok (.iconst 0, 1) := by decide +kernel
theorem dX12_blank_14 : decode cX12_blank 14 = .ok (.iastore, 1) := by decide +kernel
theorem dX12_blank_15 : decode cX12_blank 15 = .ok (.iinc 2 1, 3) := by decide +kernel
theorem dX12_blank_18 : decode cX12_blank 18 = .ok (.goto (-16), 3) := by decide +kernel
theorem dX12_blank_21 : decode cX12_blank 21 = .ok (.iconst 0, 1) := by decide +kernel
theorem dX12_blank_22 : decode cX12_blank 22 = .ok (.istore_n 2, 1) := by decide +kernel
theorem dX12_blank_23 : decode cX12_blank 23 = .ok (.iload_n 2, 1) := by decide +kernel
theorem dX12_blank_24 : decode cX12_blank 24 = .ok (.bipush 8, 2) := by decide +kernel
theorem dX12_blank_26 : decode cX12_blank 26 = .ok (.if_icmp .ge 32, 3) := by decide +kernel
theorem dX12_blank_29 : decode cX12_blank 29 = .ok (.iload_n 1, 1) := by decide +kernel
theorem dX12_blank_30 : decode cX12_blank 30 = .ok (.ifCond .ne 28, 3) := by decide +kernel
theorem dX12_blank_33 : decode cX12_blank 33 = .ok (.aload_n 0, 1) := by decide +kernel
theorem dX12_blank_34 : decode cX12_blank 34 = .ok (.getfield 38, 3) := by decide +kernel
theorem dX12_blank_37 : decode cX12_blank 37 = .ok (.iconst 3, 1) := by decide +kernel
theorem dX12_blank_38 : decode cX12_blank 38 = .ok (.iload_n 2, 1) := by decide +kernel
theorem dX12_blank_39 : decode cX12_blank 39 = .ok (.iadd, 1) := by decide +kernel
theorem dX12_blank_40 : decode cX12_blank 40 = .ok (.iload_n 2, 1) := by decide +kernel
theorem dX12_blank_41 : decode cX12_blank 41 = .ok (.iastore, 1) := by decide +kernel
theorem dX12_blank_42 : decode cX12_blank 42 = .ok (.aload_n 0, 1) := by decide +kernel
theorem dX12_blank_43 : decode cX12_blank 43 = .ok (.getfield 38, 3) := by decide +kernel
theorem dX12_blank_46 : decode cX12_blank 46 = .ok (.bipush 19, 2) := by decide +kernel
theorem dX12_blank_48 : decode cX12_blank 48 = .ok (.iload_n 2, 1) := by decide +kernel
theorem dX12_blank_49 : decode cX12_blank 49 = .ok (.iadd, 1) := by decide +kernel
theorem dX12_blank_50 : decode cX12_blank 50 = .ok (.iconst 1, 1) := by decide +kernel
theorem dX12_blank_51 : decode cX12_blank 51 = .ok (.iastore, 1) := by decide +kernel
theorem dX12_blank_52 : decode cX12_blank 52 = .ok (.iinc 2 1, 3) := by decide +kernel
theorem dX12_blank_55 : decode cX12_blank 55 = .ok (.goto (-32), 3) := by decide +kernel
theorem dX12_blank_58 : decode cX12_blank 58 = .ok (.aload_n 0, 1) := by decide +kernel
theorem dX12_blank_59 : decode cX12_blank 59 = .ok (.getfield 38, 3) := by decide +kernel
theorem dX12_blank_62 : decode cX12_blank 62 = .ok (.iconst 0, 1) := by decide +kernel
theorem dX12_blank_63 : decode cX12_blank 63 = .ok (.iload_n 1, 1) := by decide +kernel
theorem dX12_blank_64 : decode cX12_blank 64 = .ok (.ifCond .ne 8, 3) := by decide +kernel
theorem dX12_blank_67 : decode cX12_blank 67 = .ok (.bipush 12, 2) := by decide +kernel
theorem dX12_blank_69 : decode cX12_blank 69 = .ok (.goto 4, 3) := by decide +kernel
theorem dX12_blank_72 : decode cX12_blank 72 = .ok (.iconst 0, 1) := by decide +kernel
theorem dX12_blank_73 : decode cX12_blank 73 = .ok (.iastore, 1) := by decide +kernel
theorem dX12_blank_74 : decode cX12_blank 74 = .ok (.return_, 1) := by decide +kernel
def fX12_blank_l2 (x0 : Nat) (F3 : Int32 → zM → Option (zM)) (x2_1 : Int32) (m2 : zM) : Option (zM) :=
  if 121 ≤ x2_1 then (
  some m2)
  else (
  zb1 (zm_gR m2 12 x0 19) fun v7 =>
  zb1 (zm_sI m2 0 v7 x2_1 0) fun m9 =>
  F3 (x2_1 + 1) m9)
def fX12_blank_l23 (x1 : Int32) (x0 : Nat) (F14 : Int32 → zM → Option (zM)) (x2_12 : Int32) (m13 : zM) : Option (zM) :=
  if 8 ≤ x2_12 then (
  some m13)
  else (
  if x1 = 0 then (
  zb1 (zm_gR m13 12 x0 19) fun v18 =>
  zb1 (zm_sI m13 0 v18 (3 + x2_12) x2_12) fun m20 =>
  zb1 (zm_gR m20 12 x0 19) fun v22 =>
  zb1 (zm_sI m20 0 v22 (19 + x2_12) 1) fun m24 =>
  F14 (x2_12 + 1) m24)
  else (
  some m13))
def fX12_blank (μ : zM) (x0 : Nat) (x1 : Int32) : Option (zM) := zgd (zm_ck μ 12 x0) <|
  zb1 (zf2 (fX12_blank_l2 x0) zfu 0 μ) fun m5 =>
  zb1 (zf2 (fX12_blank_l23 x1 x0) zfu 0 m5) fun m16 =>
  zb1 (zm_gR m16 12 x0 19) fun v27 =>
  zb1 (if x1 = 0 then (
  some 12)
  else (
  some 0)) fun s29 =>
  zb1 (zm_sI m16 0 v27 0 s29) fun m31 =>
  some m31
theorem fX12_blank_ck {μ : zM} {x0 : Nat} {x1 : Int32} {z : zM} (h : fX12_blank μ x0 x1 = some z) : zm_ck μ 12 x0 = true := (zgd_s h).1
set_option maxHeartbeats 4000000 in
set_option maxRecDepth 100000 in
theorem cX12_blank_ok {μ : zM} {x0 : Nat} {x1 : Int32} {mo : zM} (hf : fX12_blank μ x0 x1 = some mo) : zC yX12_blank cX12_blank 3 (none) 0 0 0 [.ref x0, .int x1] μ (none) mo := by
  replace hf := (zgd_s hf).2
  refine zC.of (by decide) (Nat.le_of_ble_eq_true rfl) (fun K hin => ?_)
  clear hin
  show zz K cX12_blank (3, RX12, none, 0, 0, 0, none, mo) 0 0 0 [(0, .ref x0), (1, .int x1)] [] μ
  refine zr_iconst 0 dX12_blank_0 (by decide) ?_
  refine zr_istore_n [(2, .int 0), (0, .ref x0), (1, .int x1)] dX12_blank_1 (Nat.le_of_ble_eq_true rfl) rfl ?_
  replace hf := zb1_s hf
  obtain ⟨m5, hg, hf⟩ := hf
  have hj6 : zz K cX12_blank (3, RX12, none, 0, 0, 0, none, mo) 0 0 21 [(0, .ref x0), (1, .int x1)] [] m5 := by
    refine zr_iconst 0 dX12_blank_21 (by decide) ?_
    refine zr_istore_n [(2, .int 0), (0, .ref x0), (1, .int x1)] dX12_blank_22 (Nat.le_of_ble_eq_true rfl) rfl ?_
    replace hf := zb1_s hf
    obtain ⟨m16, hg, hf⟩ := hf
    have hj17 : zz K cX12_blank (3, RX12, none, 0, 0, 0, none, mo) 0 0 58 [(0, .ref x0), (1, .int x1)] [] m16 := by
      refine zr_aload_n 0 dX12_blank_58 rfl ?_
      replace hf := zb1_s hf
      obtain ⟨v27, h28, hf⟩ := hf
      refine zr_get (zm_gR_g h28) zk12 (by decide) zl_762 dX12_blank_59 ?_
      refine zr_iconst 0 dX12_blank_62 (by decide) ?_
      refine zr_iload_n 1 dX12_blank_63 rfl ?_
      replace hf := zb1_s hf
      obtain ⟨s29, hg, hf⟩ := hf
      have hj30 : zz K cX12_blank (3, RX12, none, 0, 0, 0, none, mo) 0 0 73 [] [.int s29, .int 0, .ref v27] m16 := by
        replace hf := zb1_s hf
        obtain ⟨m31, h32, hf⟩ := hf
        refine zr_iast h32 dX12_blank_73 ?_
        cases hf
        exact zr_vret dX12_blank_74
      clear hf
      have hf := hg
      clear hg
      refine zr_if_ne 72 dX12_blank_64 (by decide) (fun hc => ?_) (fun hc => ?_)
      · rw [if_neg hc] at hf
        refine zr_iconst 0 dX12_blank_72 (by decide) ?_
        cases hf
        exact zr_lv [] rfl hj30
      · rw [if_pos hc] at hf
        refine zr_bipush 12 dX12_blank_67 (by decide) ?_
        refine zr_goto 73 dX12_blank_69 (by decide) ?_
        cases hf
        exact zr_lv [] rfl hj30
    clear hf
    have hf := hg
    clear hg
    have hL26 : ∀ (n : Nat) (x2_12 : Int32) (m13 : zM), zf2 (fX12_blank_l23 x1 x0) n x2_12 m13 = some m16 → zz K cX12_blank (3, RX12, none, 0, 0, 0, none, mo) 0 0 23 [(0, .ref x0), (1, .int x1), (2, .int x2_12)] [] m13 := by
      intro n
      induction n with
      | zero => intro x2_12 m13 hf; cases hf
      | succ n ih15 =>
        intro x2_12 m13 hf
        replace hf := zf2_s hf
        generalize zf2 (fX12_blank_l23 x1 x0) n = F14 at hf ih15
        unfold fX12_blank_l23 at hf
        refine zr_iload_n 2 dX12_blank_23 rfl ?_
        refine zr_bipush 8 dX12_blank_24 (by decide) ?_
        refine zr_icmp_ge 58 dX12_blank_26 (by decide) (fun hc => ?_) (fun hc => ?_)
        · rw [if_pos hc] at hf
          cases hf
          exact zr_lv [0, 1] rfl hj17
        · rw [if_neg hc] at hf
          refine zr_iload_n 1 dX12_blank_29 rfl ?_
          refine zr_if_ne 58 dX12_blank_30 (by decide) (fun hc => ?_) (fun hc => ?_)
          · rw [if_neg hc] at hf
            cases hf
            exact zr_lv [0, 1] rfl hj17
          · rw [if_pos hc] at hf
            refine zr_aload_n 0 dX12_blank_33 rfl ?_
            replace hf := zb1_s hf
            obtain ⟨v18, h19, hf⟩ := hf
            refine zr_get (zm_gR_g h19) zk12 (by decide) zl_762 dX12_blank_34 ?_
            refine zr_iconst 3 dX12_blank_37 (by decide) ?_
            refine zr_iload_n 2 dX12_blank_38 rfl ?_
            refine zr_iadd dX12_blank_39 ?_
            refine zr_iload_n 2 dX12_blank_40 rfl ?_
            replace hf := zb1_s hf
            obtain ⟨m20, h21, hf⟩ := hf
            refine zr_iast h21 dX12_blank_41 ?_
            refine zr_aload_n 0 dX12_blank_42 rfl ?_
            replace hf := zb1_s hf
            obtain ⟨v22, h23, hf⟩ := hf
            refine zr_get (zm_gR_g h23) zk12 (by decide) zl_762 dX12_blank_43 ?_
            refine zr_bipush 19 dX12_blank_46 (by decide) ?_
            refine zr_iload_n 2 dX12_blank_48 rfl ?_
            refine zr_iadd dX12_blank_49 ?_
            refine zr_iconst 1 dX12_blank_50 (by decide) ?_
            replace hf := zb1_s hf
            obtain ⟨m24, h25, hf⟩ := hf
            refine zr_iast h25 dX12_blank_51 ?_
            refine zr_iinc (j := 2) (x2_12 + 1) [(2, .int (x2_12 + 1)), (0, .ref x0), (1, .int x1)] dX12_blank_52 rfl rfl (Nat.le_of_ble_eq_true rfl) rfl ?_
            refine zr_goto 23 dX12_blank_55 (by decide) ?_
            exact zr_lv [1, 2, 0] rfl (ih15 (x2_12 + 1) m24 hf)
    exact zr_lv [1, 2, 0] rfl (hL26 _ 0 m5 hf)
  clear hf
  have hf := hg
  clear hg
  have hL11 : ∀ (n : Nat) (x2_1 : Int32) (m2 : zM), zf2 (fX12_blank_l2 x0) n x2_1 m2 = some m5 → zz K cX12_blank (3, RX12, none, 0, 0, 0, none, mo) 0 0 2 [(0, .ref x0), (1, .int x1), (2, .int x2_1)] [] m2 := by
    intro n
    induction n with
    | zero => intro x2_1 m2 hf; cases hf
    | succ n ih4 =>
      intro x2_1 m2 hf
      replace hf := zf2_s hf
      generalize zf2 (fX12_blank_l2 x0) n = F3 at hf ih4
      unfold fX12_blank_l2 at hf
      refine zr_iload_n 2 dX12_blank_2 rfl ?_
      refine zr_bipush 121 dX12_blank_3 (by decide) ?_
      refine zr_icmp_ge 21 dX12_blank_5 (by decide) (fun hc => ?_) (fun hc => ?_)
      · rw [if_pos hc] at hf
        cases hf
        exact zr_lv [0, 1] rfl hj6
      · rw [if_neg hc] at hf
        refine zr_aload_n 0 dX12_blank_8 rfl ?_
        replace hf := zb1_s hf
        obtain ⟨v7, h8, hf⟩ := hf
        refine zr_get (zm_gR_g h8) zk12 (by decide) zl_762 dX12_blank_9 ?_
        refine zr_iload_n 2 dX12_blank_12 rfl ?_
        refine zr_iconst 0 dX12_blank_13 (by decide) ?_
        replace hf := zb1_s hf
        obtain ⟨m9, h10, hf⟩ := hf
        refine zr_iast h10 dX12_blank_14 ?_
        refine zr_iinc (j := 2) (x2_1 + 1) [(2, .int (x2_1 + 1)), (0, .ref x0), (1, .int x1)] dX12_blank_15 rfl rfl (Nat.le_of_ble_eq_true rfl) rfl ?_
        refine zr_goto 2 dX12_blank_18 (by decide) ?_
        exact zr_lv [1, 2, 0] rfl (ih4 (x2_1 + 1) m9 hf)
  exact zr_lv [1, 2, 0] rfl (hL11 _ 0 μ hf)
theorem zl_891 : Cond.code yX12_blank cX12_blank 3 (none) ∈ zt := zt_at 1535 (by decide +kernel)
theorem zvs_X12_blank : zvS yX12_blank cX12_blank 3 (none) 1 := ⟨zl_891, zl_782, ⟨by decide +kernel, by decide +kernel, by decide +kernel⟩, by decide⟩
theorem zl_892 : Cond.methodLink RX12 246 yX12_blank ∈ zt := zt_at 1532 (by decide +kernel)
theorem zl_893 : Cond.instanceMethod yX12_blank ∈ zt := zt_at 1534 (by decide +kernel)
theorem zl_894 : Cond.selects RX12 yX12_blank yX12_blank ∈ zt := zt_at 50 (by decide +kernel)
theorem zl_895 : Cond.code yX12_lines cX12_lines 4 (some .boolean) ∈ zt := zt_at 1547 (by decide +kernel)
theorem zvs_X12_lines : zvS yX12_lines cX12_lines 4 (some .boolean) 1 := ⟨zl_895, zl_782, ⟨by decide +kernel, by decide +kernel, by decide +kernel⟩, by decide⟩
theorem zl_896 : Cond.methodLink RX12 249 yX12_lines ∈ zt := zt_at 1544 (by decide +kernel)
theorem zl_897 : Cond.instanceMethod yX12_lines ∈ zt := zt_at 1546 (by decide +kernel)
theorem zl_898 : Cond.selects RX12 yX12_lines yX12_lines ∈ zt := zt_at 53 (by decide +kernel)
theorem dX12_readText_0 : decode cX12_readText 0 = .ok (.aload_n 0, 1) := by decide +kernel
theorem dX12_readText_1 : decode cX12_readText 1 = .ok (.iload_n 1, 1) := by decide +kernel
theorem dX12_readText_2 : decode cX12_readText 2 = .ok (.invokevirtual 246, 3) := by decide +kernel
theorem dX12_readText_5 : decode cX12_readText 5 = .ok (.aload_n 0, 1) := by decide +kernel
theorem dX12_readText_6 : decode cX12_readText 6 = .ok (.iconst (-1), 1) := by decide +kernel
theorem dX12_readText_7 : decode cX12_readText 7 = .ok (.putfield 165, 3) := by decide +kernel
theorem dX12_readText_10 : decode cX12_readText 10 = .ok (.aload_n 0, 1) := by decide +kernel
theorem dX12_readText_11 : decode cX12_readText 11 = .ok (.iconst 0, 1) := by decide +kernel
theorem dX12_readText_12 : decode cX12_readText 12 = .ok (.putfield 109, 3) := by decide +kernel
theorem dX12_readText_15 : decode cX12_readText 15 = .ok (.aload_n 0, 1) := by decide +kernel
theorem dX12_readText_16 : decode cX12_readText 16 = .ok (.iconst 0, 1) := by decide +kernel
theorem dX12_readText_17 : decode cX12_readText 17 = .ok (.putfield 135, 3) := by decide +kernel
theorem dX12_readText_20 : decode cX12_readText 20 = .ok (.aload_n 0, 1) := by decide +kernel
theorem dX12_readText_21 : decode cX12_readText 21 = .ok (.invokevirtual 153, 3) := by decide +kernel
theorem dX12_readText_24 : decode cX12_readText 24 = .ok (.aload_n 0, 1) := by decide +kernel
theorem dX12_readText_25 : decode cX12_readText 25 = .ok (.iload_n 1, 1) := by decide +kernel
theorem dX12_readText_26 : decode cX12_readText 26 = .ok (.invokevirtual 249, 3) := by decide +kernel
theorem dX12_readText_29 : decode cX12_readText 29 = .ok (.istore_n 2, 1) := by decide +kernel
theorem dX12_readText_30 : decode cX12_readText 30 = .ok (.iload_n 2, 1) := by decide +kernel
theorem dX12_readText_31 : decode cX12_readText 31 = .ok (.ifCond .eq 36, 3) := by decide +kernel
theorem dX12_readText_34 : decode cX12_readText 34 = .ok (.iload_n 1, 1) := by decide +kernel
theorem dX12_readText_35 : decode cX12_readText 35 = .ok (.ifCond .ne 32, 3) := by decide +kernel
theorem dX12_readText_38 : decode cX12_readText 38 = .ok (.aload_n 0, 1) := by decide +kernel
theorem dX12_readText_39 : decode cX12_readText 39 = .ok (.getfield 135, 3) := by decide +kernel
theorem dX12_readText_42 : decode cX12_readText 42 = .ok (.ifCond .ne 25, 3) := by decide +kernel
theorem dX12_readText_45 : decode cX12_readText 45 = .ok (.aload_n 0, 1) := by decide +kernel
theorem dX12_readText_46 : decode cX12_readText 46 = .ok (.getfield 165, 3) := by decide +kernel
theorem dX12_readText_49 : decode cX12_readText 49 = .ok (.aload_n 0, 1) := by decide +kernel
theorem dX12_readText_50 : decode cX12_readText 50 = .ok (.getfield 38, 3) := by decide +kernel
theorem dX12_readText_53 : decode cX12_readText 53 = .ok (.iconst 0, 1) := by decide +kernel
theorem dX12_readText_54 : decode cX12_readText 54 = .ok (.iaload, 1) := by decide +kernel
theorem dX12_readText_55 : decode cX12_readText 55 = .ok (.if_icmp .le 12, 3) := by decide +kernel
theorem dX12_readText_58 : decode cX12_readText 58 = .ok (.aload_n 0, 1) := by decide +kernel
theorem dX12_readText_59 : decode cX12_readText 59 = .ok (.iconst 4, 1) := by decide +kernel
theorem dX12_readText_60 : decode cX12_readText 60 = .ok (.aload_n 0, 1) := by decide +kernel
theorem dX12_readText_61 : decode cX12_readText 61 = .ok (.getfield 119, 3) := by decide +kernel
theorem dX12_readText_64 : decode cX12_readText 64 = .ok (.invokevirtual 145, 3) := by decide +kernel
theorem dX12_readText_67 : decode cX12_readText 67 = .ok (.aload_n 0, 1) := by decide +kernel
theorem dX12_readText_68 : decode cX12_readText 68 = .ok (.getfield 17, 3) := by decide +kernel
theorem dX12_readText_71 : decode cX12_readText 71 = .ok (.iconst 0, 1) := by decide +kernel
theorem dX12_readText_72 : decode cX12_readText 72 = .ok (.iload_n 2, 1) := by decide +kernel
theorem dX12_readText_73 : decode cX12_readText 73 = .ok (.ifCond .eq 10, 3) := by decide +kernel
theorem dX12_readText_76 : decode cX12_readText 76 = .ok (.aload_n 0, 1) := by decide +kernel
theorem dX12_readText_77 : decode cX12_readText 77 = .ok (.getfield 135, 3) := by decide +kernel
theorem dX12_readText_80 : decode cX12_readText 80 = .ok (.goto 4, 3) := by decide +kernel
theorem dX12_readText_83 : decode cX12_readText 83 = .ok (.iconst 1, 1) := by decide +kernel
theorem dX12_readText_84 : decode cX12_readText 84 = .ok (.iastore, 1) := by decide +kernel
theorem dX12_readText_85 : decode cX12_readText 85 = .ok (.aload_n 0, 1) := by decide +kernel
theorem dX12_readText_86 : decode cX12_readText 86 = .ok (.getfield 20, 3) := by decide +kernel
theorem dX12_readText_89 : decode cX12_readText 89 = .ok (.iconst 0, 1) := by decide +kernel
theorem dX12_readText_90 : decode cX12_readText 90 = .ok (.iload_n 2, 1) := by decide +kernel
theorem dX12_readText_91 : decode cX12_readText 91 = .ok (.ifCond .ne 10, 3) := by decide +kernel
theorem dX12_readText_94 : decode cX12_readText 94 = .ok (.aload_n 0, 1) := by decide +kernel
theorem dX12_readText_95 : decode cX12_readText 95 = .ok (.getfield 132, 3) := by decide +kernel
theorem dX12_readText_98 : decode cX12_readText 98 = .ok (.goto 18, 3) := by decide +kernel
theorem dX12_readText_101 : decode cX12_readText 101 = .ok (.aload_n 0, 1) := by decide +kernel
theorem dX12_readText_102 : decode cX12_readText 102 = .ok (.getfield 135, 3) := by decide +kernel
theorem dX12_readText_105 : decode cX12_readText 105 = .ok (.ifCond .le 10, 3) := by decide +kernel
theorem dX12_readText_108 : decode cX12_readText 108 = .ok (.aload_n 0, 1) := by decide +kernel
theorem dX12_readText_109 : decode cX12_readText 109 = .ok (.getfield 138, 3) := by decide +kernel
theorem dX12_readText_112 : decode cX12_readText 112 = .ok (.goto 4, 3) := by decide +kernel
theorem dX12_readText_115 : decode cX12_readText 115 = .ok (.iconst (-1), 1) := by decide +kernel
theorem dX12_readText_116 : decode cX12_readText 116 = .ok (.iastore, 1) := by decide +kernel
theorem dX12_readText_117 : decode cX12_readText 117 = .ok (.aload_n 0, 1) := by decide +kernel
theorem dX12_readText_118 : decode cX12_readText 118 = .ok (.getfield 17, 3) := by decide +kernel
theorem dX12_readText_121 : decode cX12_readText 121 = .ok (.iconst 0, 1) := by decide +kernel
theorem dX12_readText_122 : decode cX12_readText 122 = .ok (.iaload, 1) := by decide +kernel
theorem dX12_readText_123 : decode cX12_readText 123 = .ok (.ifCond .ne 7, 3) := by decide +kernel
theorem dX12_readText_126 : decode cX12_readText 126 = .ok (.iconst 1, 1) := by decide +kernel
theorem dX12_readText_127 : decode cX12_readText 127 = .ok (.goto 4, 3) := by decide +kernel
theorem dX12_readText_130 : decode cX12_readText 130 = .ok (.iconst 0, 1) := by decide +kernel
theorem dX12_readText_131 : decode cX12_readText 131 = .ok (.ireturn, 1) := by decide +kernel
def fX12_readText (μ : zM) (x0 : Nat) (x1 : Int32) : Option (Int32 × zM) := zgd (zm_ck μ 12 x0) <|
  zb1 (fX12_blank μ x0 x1) fun m2 =>
  zb1 (zm_p m2 12 x0 21 (.int (-1))) fun m3 =>
  zb1 (zm_p m3 12 x0 10 (.int 0)) fun m5 =>
  zb1 (zm_p m5 12 x0 17 (.int 0)) fun m7 =>
  zb1 (fX12_token m7 x0) fun m10 =>
  zb2 (fX12_lines m10 x0 x1) fun v13 m12 =>
  zb1 (if v13 = 0 then (
  some m12)
  else (
  if x1 = 0 then (
  zb1 (zm_gI m12 12 x0 17) fun v44 =>
  if v44 = 0 then (
  zb1 (zm_gI m12 12 x0 21) fun v46 =>
  zb1 (zm_gR m12 12 x0 19) fun v48 =>
  zb1 (zm_aI m12 0 v48 0) fun v50 =>
  if v46 ≤ v50 then (
  some m12)
  else (
  zb1 (zm_gI m12 12 x0 12) fun v52 =>
  zb1 (fX12_later m12 x0 4 v52) fun m55 =>
  some m55))
  else (
  some m12))
  else (
  some m12))) fun m14 =>
  zb1 (zm_gR m14 12 x0 3) fun v16 =>
  zb1 (if v13 = 0 then (
  some 1)
  else (
  zb1 (zm_gI m14 12 x0 17) fun v42 =>
  some v42)) fun s18 =>
  zb1 (zm_sI m14 0 v16 0 s18) fun m20 =>
  zb1 (zm_gR m20 12 x0 4) fun v22 =>
  zb1 (if v13 = 0 then (
  zb1 (zm_gI m20 12 x0 16) fun v40 =>
  some v40)
  else (
  zb1 (zm_gI m20 12 x0 17) fun v36 =>
  if v36 ≤ 0 then (
  some (-1))
  else (
  zb1 (zm_gI m20 12 x0 18) fun v38 =>
  some v38))) fun s24 =>
  zb1 (zm_sI m20 0 v22 0 s24) fun m26 =>
  zb1 (zm_gR m26 12 x0 3) fun v28 =>
  zb1 (zm_aI m26 0 v28 0) fun v30 =>
  zb1 (if v30 = 0 then (
  some 1)
  else (
  some 0)) fun s32 =>
  zb1 (zbz s32) fun v34 =>
  some (v34, m26)
theorem fX12_readText_ck {μ : zM} {x0 : Nat} {x1 : Int32} {z : Int32 × zM} (h : fX12_readText μ x0 x1 = some z) : zm_ck μ 12 x0 = true := (zgd_s h).1
set_option maxHeartbeats 4000000 in
set_option maxRecDepth 100000 in
theorem cX12_readText_ok {μ : zM} {x0 : Nat} {x1 : Int32} {r : Int32} {mo : zM} (hf : fX12_readText μ x0 x1 = some (r, mo)) : zC yX12_readText cX12_readText 3 (some .boolean) 7 0 0 [.ref x0, .int x1] μ (some (.int r)) mo := by
  replace hf := (zgd_s hf).2
  refine zC.of (by decide) (Nat.le_of_ble_eq_true rfl) (fun K hin => ?_)
  clear hin
  show zz K cX12_readText (3, RX12, some .boolean, 7, 0, 0, some (.int r), mo) 0 0 0 [(0, .ref x0), (1, .int x1)] [] μ
  refine zr_aload_n 0 dX12_readText_0 rfl ?_
  refine zr_iload_n 1 dX12_readText_1 rfl ?_
  replace hf := zb1_s hf
  obtain ⟨m2, h1, hf⟩ := hf
  refine zr_callV (ci := 12) [.int x1] (cX12_blank_ok h1) zvs_X12_blank zl_893 zl_894 (fX12_blank_ck h1) rfl rfl zl_892 rfl (Nat.le_of_ble_eq_true rfl) (Nat.le_of_ble_eq_true rfl) (Nat.le_of_ble_eq_true rfl) (Nat.le_of_ble_eq_true rfl) dX12_readText_2 rfl ?_
  refine zr_aload_n 0 dX12_readText_5 rfl ?_
  refine zr_iconst (-1) dX12_readText_6 (by decide) ?_
  replace hf := zb1_s hf
  obtain ⟨m3, h4, hf⟩ := hf
  refine zr_put h4 zk12 (by decide) zl_826 rfl rfl rfl dX12_readText_7 ?_
  refine zr_aload_n 0 dX12_readText_10 rfl ?_
  refine zr_iconst 0 dX12_readText_11 (by decide) ?_
  replace hf := zb1_s hf
  obtain ⟨m5, h6, hf⟩ := hf
  refine zr_put h6 zk12 (by decide) zl_793 rfl rfl rfl dX12_readText_12 ?_
  refine zr_aload_n 0 dX12_readText_15 rfl ?_
  refine zr_iconst 0 dX12_readText_16 (by decide) ?_
  replace hf := zb1_s hf
  obtain ⟨m7, h8, hf⟩ := hf
  refine zr_put h8 zk12 (by decide) zl_804 rfl rfl rfl dX12_readText_17 ?_
  refine zr_aload_n 0 dX12_readText_20 rfl ?_
  replace hf := zb1_s hf
  obtain ⟨m10, h9, hf⟩ := hf
  refine zr_callV (ci := 12) [] (cX12_token_ok h9) zvs_X12_token zl_808 zl_809 (fX12_token_ck h9) rfl rfl zl_807 rfl (Nat.le_of_ble_eq_true rfl) (Nat.le_of_ble_eq_true rfl) (Nat.le_of_ble_eq_true rfl) (Nat.le_of_ble_eq_true rfl) dX12_readText_21 rfl ?_
  refine zr_aload_n 0 dX12_readText_24 rfl ?_
  refine zr_iload_n 1 dX12_readText_25 rfl ?_
  replace hf := zb2_s hf
  obtain ⟨v13, m12, h11, hf⟩ := hf
  refine zr_callV (ci := 12) [.int x1] (cX12_lines_ok h11) zvs_X12_lines zl_897 zl_898 (fX12_lines_ck h11) rfl rfl zl_896 rfl (Nat.le_of_ble_eq_true rfl) (Nat.le_of_ble_eq_true rfl) (Nat.le_of_ble_eq_true rfl) (Nat.le_of_ble_eq_true rfl) dX12_readText_26 rfl ?_
  refine zr_istore_n [(2, .int v13), (0, .ref x0), (1, .int x1)] dX12_readText_29 (Nat.le_of_ble_eq_true rfl) rfl ?_
  refine zr_iload_n 0 dX12_readText_30 rfl ?_
  replace hf := zb1_s hf
  obtain ⟨m14, hg, hf⟩ := hf
  have hj15 : zz K cX12_readText (3, RX12, some .boolean, 7, 0, 0, some (.int r), mo) 0 0 67 [(0, .ref x0), (2, .int v13)] [] m14 := by
    refine zr_aload_n 0 dX12_readText_67 rfl ?_
    replace hf := zb1_s hf
    obtain ⟨v16, h17, hf⟩ := hf
    refine zr_get (zm_gR_g h17) zk12 (by decide) zl_755 dX12_readText_68 ?_
    refine zr_iconst 0 dX12_readText_71 (by decide) ?_
    refine zr_iload_n 1 dX12_readText_72 rfl ?_
    replace hf := zb1_s hf
    obtain ⟨s18, hg, hf⟩ := hf
    have hj19 : zz K cX12_readText (3, RX12, some .boolean, 7, 0, 0, some (.int r), mo) 0 0 84 [(0, .ref x0), (2, .int v13)] [.int s18, .int 0, .ref v16] m14 := by
      replace hf := zb1_s hf
      obtain ⟨m20, h21, hf⟩ := hf
      refine zr_iast h21 dX12_readText_84 ?_
      refine zr_aload_n 0 dX12_readText_85 rfl ?_
      replace hf := zb1_s hf
      obtain ⟨v22, h23, hf⟩ := hf
      refine zr_get (zm_gR_g h23) zk12 (by decide) zl_756 dX12_readText_86 ?_
      refine zr_iconst 0 dX12_readText_89 (by decide) ?_
      refine zr_iload_n 1 dX12_readText_90 rfl ?_
      replace hf := zb1_s hf
      obtain ⟨s24, hg, hf⟩ := hf
      have hj25 : zz K cX12_readText (3, RX12, some .boolean, 7, 0, 0, some (.int r), mo) 0 0 116 [(0, .ref x0)] [.int s24, .int 0, .ref v22] m20 := by
        replace hf := zb1_s hf
        obtain ⟨m26, h27, hf⟩ := hf
        refine zr_iast h27 dX12_readText_116 ?_
        refine zr_aload_n 0 dX12_readText_117 rfl ?_
        replace hf := zb1_s hf
        obtain ⟨v28, h29, hf⟩ := hf
        refine zr_get (zm_gR_g h29) zk12 (by decide) zl_755 dX12_readText_118 ?_
        refine zr_iconst 0 dX12_readText_121 (by decide) ?_
        replace hf := zb1_s hf
        obtain ⟨v30, h31, hf⟩ := hf
        refine zr_iald h31 dX12_readText_122 ?_
        replace hf := zb1_s hf
        obtain ⟨s32, hg, hf⟩ := hf
        have hj33 : zz K cX12_readText (3, RX12, some .boolean, 7, 0, 0, some (.int r), mo) 0 0 131 [] [.int s32] m26 := by
          replace hf := zb1_s hf
          obtain ⟨v34, hn35, hf⟩ := hf
          obtain ⟨hn35, rfl⟩ := zbz_s hn35
          cases hf
          exact zr_zret hn35 dX12_readText_131
        clear hf
        have hf := hg
        clear hg
        refine zr_if_ne 130 dX12_readText_123 (by decide) (fun hc => ?_) (fun hc => ?_)
        · rw [if_neg hc] at hf
          refine zr_iconst 0 dX12_readText_130 (by decide) ?_
          cases hf
          exact zr_lv [] rfl hj33
        · rw [if_pos hc] at hf
          refine zr_iconst 1 dX12_readText_126 (by decide) ?_
          refine zr_goto 131 dX12_readText_127 (by decide) ?_
          cases hf
          exact zr_lv [] rfl hj33
      clear hf
      have hf := hg
      clear hg
      refine zr_if_ne 101 dX12_readText_91 (by decide) (fun hc => ?_) (fun hc => ?_)
      · rw [if_neg hc] at hf
        refine zr_aload_n 0 dX12_readText_101 rfl ?_
        replace hf := zb1_s hf
        obtain ⟨v36, h37, hf⟩ := hf
        refine zr_get (zm_gI_g h37) zk12 (by decide) zl_804 dX12_readText_102 ?_
        refine zr_if_le 115 dX12_readText_105 (by decide) (fun hc => ?_) (fun hc => ?_)
        · rw [if_pos hc] at hf
          refine zr_iconst (-1) dX12_readText_115 (by decide) ?_
          cases hf
          exact zr_lv [0] rfl hj25
        · rw [if_neg hc] at hf
          refine zr_aload_n 0 dX12_readText_108 rfl ?_
          replace hf := zb1_s hf
          obtain ⟨v38, h39, hf⟩ := hf
          refine zr_get (zm_gI_g h39) zk12 (by decide) zl_805 dX12_readText_109 ?_
          refine zr_goto 116 dX12_readText_112 (by decide) ?_
          cases hf
          exact zr_lv [0] rfl hj25
      · rw [if_pos hc] at hf
        refine zr_aload_n 0 dX12_readText_94 rfl ?_
        replace hf := zb1_s hf
        obtain ⟨v40, h41, hf⟩ := hf
        refine zr_get (zm_gI_g h41) zk12 (by decide) zl_803 dX12_readText_95 ?_
        refine zr_goto 116 dX12_readText_98 (by decide) ?_
        cases hf
        exact zr_lv [0] rfl hj25
    clear hf
    have hf := hg
    clear hg
    refine zr_if_eq 83 dX12_readText_73 (by decide) (fun hc => ?_) (fun hc => ?_)
    · rw [if_pos hc] at hf
      refine zr_iconst 1 dX12_readText_83 (by decide) ?_
      cases hf
      exact zr_lv [0, 1] rfl hj19
    · rw [if_neg hc] at hf
      refine zr_aload_n 0 dX12_readText_76 rfl ?_
      replace hf := zb1_s hf
      obtain ⟨v42, h43, hf⟩ := hf
      refine zr_get (zm_gI_g h43) zk12 (by decide) zl_804 dX12_readText_77 ?_
      refine zr_goto 84 dX12_readText_80 (by decide) ?_
      cases hf
      exact zr_lv [0, 1] rfl hj19
  clear hf
  have hf := hg
  clear hg
  refine zr_if_eq 67 dX12_readText_31 (by decide) (fun hc => ?_) (fun hc => ?_)
  · rw [if_pos hc] at hf
    cases hf
    exact zr_lv [1, 0] rfl hj15
  · rw [if_neg hc] at hf
    refine zr_iload_n 2 dX12_readText_34 rfl ?_
    refine zr_if_ne 67 dX12_readText_35 (by decide) (fun hc => ?_) (fun hc => ?_)
    · rw [if_neg hc] at hf
      cases hf
      exact zr_lv [1, 0] rfl hj15
    · rw [if_pos hc] at hf
      refine zr_aload_n 1 dX12_readText_38 rfl ?_
      replace hf := zb1_s hf
      obtain ⟨v44, h45, hf⟩ := hf
      refine zr_get (zm_gI_g h45) zk12 (by decide) zl_804 dX12_readText_39 ?_
      refine zr_if_ne 67 dX12_readText_42 (by decide) (fun hc => ?_) (fun hc => ?_)
      · rw [if_neg hc] at hf
        cases hf
        exact zr_lv [1, 0] rfl hj15
      · rw [if_pos hc] at hf
        refine zr_aload_n 1 dX12_readText_45 rfl ?_
        replace hf := zb1_s hf
        obtain ⟨v46, h47, hf⟩ := hf
        refine zr_get (zm_gI_g h47) zk12 (by decide) zl_826 dX12_readText_46 ?_
        refine zr_aload_n 1 dX12_readText_49 rfl ?_
        replace hf := zb1_s hf
        obtain ⟨v48, h49, hf⟩ := hf
        refine zr_get (zm_gR_g h49) zk12 (by decide) zl_762 dX12_readText_50 ?_
        refine zr_iconst 0 dX12_readText_53 (by decide) ?_
        replace hf := zb1_s hf
        obtain ⟨v50, h51, hf⟩ := hf
        refine zr_iald h51 dX12_readText_54 ?_
        refine zr_icmp_le 67 dX12_readText_55 (by decide) (fun hc => ?_) (fun hc => ?_)
        · rw [if_pos hc] at hf
          cases hf
          exact zr_lv [1, 0] rfl hj15
        · rw [if_neg hc] at hf
          refine zr_aload_n 1 dX12_readText_58 rfl ?_
          refine zr_iconst 4 dX12_readText_59 (by decide) ?_
          refine zr_aload_n 1 dX12_readText_60 rfl ?_
          replace hf := zb1_s hf
          obtain ⟨v52, h53, hf⟩ := hf
          refine zr_get (zm_gI_g h53) zk12 (by decide) zl_799 dX12_readText_61 ?_
          replace hf := zb1_s hf
          obtain ⟨m55, h54, hf⟩ := hf
          refine zr_callV (ci := 12) [.int 4, .int v52] (cX12_later_ok h54) zvs_X12_later zl_812 zl_813 (fX12_later_ck h54) rfl rfl zl_811 rfl (Nat.le_of_ble_eq_true rfl) (Nat.le_of_ble_eq_true rfl) (Nat.le_of_ble_eq_true rfl) (Nat.le_of_ble_eq_true rfl) dX12_readText_64 rfl ?_
          cases hf
          exact zr_lv [1, 0] rfl hj15
theorem dX12_store_0 : decode cX12_store 0 = .ok (.iconst 0, 1) := by decide +kernel
theorem dX12_store_1 : decode cX12_store 1 = .ok (.istore 4, 2) := by decide +kernel
theorem dX12_store_3 : decode cX12_store 3 = .ok (.iload 4, 2) := by decide +kernel
theorem dX12_store_5 : decode cX12_store 5 = .ok (.iload_n 2, 1) := by decide +kernel
theorem dX12_store_6 : decode cX12_store 6 = .ok (.if_icmp .ge 24, 3) := by decide +kernel
theorem dX12_store_9 : decode cX12_store 9 = .ok (.aload_n 1, 1) := by decide +kernel
theorem dX12_store_10 : decode cX12_store 10 = .ok (.iload_n 2, 1) := by decide +kernel
theorem dX12_store_11 : decode cX12_store 11 = .ok (.iload_n 3, 1) := by decide +kernel
theorem dX12_store_12 : decode cX12_store 12 = .ok (.imul, 1) := by decide +kernel
theorem dX12_store_13 : decode cX12_store 13 = .ok (.iload 4, 2) := by decide +kernel
theorem dX12_store_15 : decode cX12_store 15 = .ok (.iadd, 1) := by decide +kernel
theorem dX12_store_16 : decode cX12_store 16 = .ok (.aload_n 0, 1) := by decide +kernel
theorem dX12_store_17 : decode cX12_store 17 = .ok (.getfield 38, 3) := by decide +kernel
theorem dX12_store_20 : decode cX12_store 20 = .ok (.iload 4, 2) := by decide +kernel
theorem dX12_store_22 : decode cX12_store 22 = .ok (.iaload, 1) := by decide +kernel
theorem dX12_store_23 : decode cX12_store 23 = .ok (.iastore, 1) := by decide +kernel
theorem dX12_store_24 : decode cX12_store 24 = .ok (.iinc 4 1, 3) := by decide +kernel
theorem dX12_store_27 : decode cX12_store 27 = .ok (.goto (-24), 3) := by decide +kernel
theorem dX12_store_30 : decode cX12_store 30 = .ok (.return_, 1) := by decide +kernel
def fX12_store_l3 (x2 : Int32) (x0 : Nat) (x1 : Nat) (x3 : Int32) (F3 : Int32 → zM → Option (zM)) (x4_1 : Int32) (m2 : zM) : Option (zM) :=
  if x2 ≤ x4_1 then (
  some m2)
  else (
  zb1 (zm_gR m2 12 x0 19) fun v7 =>
  zb1 (zm_aI m2 0 v7 x4_1) fun v9 =>
  zb1 (zm_sI m2 0 x1 ((x2 * x3) + x4_1) v9) fun m11 =>
  F3 (x4_1 + 1) m11)
def fX12_store (μ : zM) (x0 : Nat) (x1 : Nat) (x2 : Int32) (x3 : Int32) : Option (zM) := zgd (zm_ck μ 12 x0) <|
  zb1 (zf2 (fX12_store_l3 x2 x0 x1 x3) zfu 0 μ) fun m5 =>
  some m5
theorem fX12_store_ck {μ : zM} {x0 : Nat} {x1 : Nat} {x2 : Int32} {x3 : Int32} {z : zM} (h : fX12_store μ x0 x1 x2 x3 = some z) : zm_ck μ 12 x0 = true := (zgd_s h).1
set_option maxHeartbeats 4000000 in
set_option maxRecDepth 100000 in
theorem cX12_store_ok {μ : zM} {x0 : Nat} {x1 : Nat} {x2 : Int32} {x3 : Int32} {mo : zM} (hf : fX12_store μ x0 x1 x2 x3 = some mo) : zC yX12_store cX12_store 5 (none) 0 0 0 [.ref x0, .ref x1, .int x2, .int x3] μ (none) mo := by
  replace hf := (zgd_s hf).2
  refine zC.of (by decide) (Nat.le_of_ble_eq_true rfl) (fun K hin => ?_)
  clear hin
  show zz K cX12_store (5, RX12, none, 0, 0, 0, none, mo) 0 0 0 [(0, .ref x0), (1, .ref x1), (2, .int x2), (3, .int x3)] [] μ
  refine zr_iconst 0 dX12_store_0 (by decide) ?_
  refine zr_istore [(4, .int 0), (0, .ref x0), (1, .ref x1), (2, .int x2), (3, .int x3)] dX12_store_1 (Nat.le_of_ble_eq_true rfl) rfl ?_
  replace hf := zb1_s hf
  obtain ⟨m5, hg, hf⟩ := hf
  have hj6 : zz K cX12_store (5, RX12, none, 0, 0, 0, none, mo) 0 0 30 [] [] m5 := by
    cases hf
    exact zr_vret dX12_store_30
  clear hf
  have hf := hg
  clear hg
  have hL13 : ∀ (n : Nat) (x4_1 : Int32) (m2 : zM), zf2 (fX12_store_l3 x2 x0 x1 x3) n x4_1 m2 = some m5 → zz K cX12_store (5, RX12, none, 0, 0, 0, none, mo) 0 0 3 [(0, .ref x0), (1, .ref x1), (2, .int x2), (3, .int x3), (4, .int x4_1)] [] m2 := by
    intro n
    induction n with
    | zero => intro x4_1 m2 hf; cases hf
    | succ n ih4 =>
      intro x4_1 m2 hf
      replace hf := zf2_s hf
      generalize zf2 (fX12_store_l3 x2 x0 x1 x3) n = F3 at hf ih4
      unfold fX12_store_l3 at hf
      refine zr_iload 4 dX12_store_3 rfl ?_
      refine zr_iload_n 2 dX12_store_5 rfl ?_
      refine zr_icmp_ge 30 dX12_store_6 (by decide) (fun hc => ?_) (fun hc => ?_)
      · rw [if_pos hc] at hf
        cases hf
        exact zr_lv [] rfl hj6
      · rw [if_neg hc] at hf
        refine zr_aload_n 1 dX12_store_9 rfl ?_
        refine zr_iload_n 2 dX12_store_10 rfl ?_
        refine zr_iload_n 3 dX12_store_11 rfl ?_
        refine zr_imul dX12_store_12 ?_
        refine zr_iload 4 dX12_store_13 rfl ?_
        refine zr_iadd dX12_store_15 ?_
        refine zr_aload_n 0 dX12_store_16 rfl ?_
        replace hf := zb1_s hf
        obtain ⟨v7, h8, hf⟩ := hf
        refine zr_get (zm_gR_g h8) zk12 (by decide) zl_762 dX12_store_17 ?_
        refine zr_iload 4 dX12_store_20 rfl ?_
        replace hf := zb1_s hf
        obtain ⟨v9, h10, hf⟩ := hf
        refine zr_iald h10 dX12_store_22 ?_
        replace hf := zb1_s hf
        obtain ⟨m11, h12, hf⟩ := hf
        refine zr_iast h12 dX12_store_23 ?_
        refine zr_iinc (j := 4) (x4_1 + 1) [(4, .int (x4_1 + 1)), (0, .ref x0), (1, .ref x1), (2, .int x2), (3, .int x3)] dX12_store_24 rfl rfl (Nat.le_of_ble_eq_true rfl) rfl ?_
        refine zr_goto 3 dX12_store_27 (by decide) ?_
        exact zr_lv [1, 2, 3, 4, 0] rfl (ih4 (x4_1 + 1) m11 hf)
  exact zr_lv [1, 2, 3, 4, 0] rfl (hL13 _ 0 μ hf)
theorem zl_899 : Cond.code yX12_store cX12_store 5 (none) ∈ zt := zt_at 1634 (by decide +kernel)
theorem zvs_X12_store : zvS yX12_store cX12_store 5 (none) 3 := ⟨zl_899, zl_782, ⟨by decide +kernel, by decide +kernel, by decide +kernel⟩, by decide⟩
theorem zl_900 : Cond.methodLink RX12 252 yX12_store ∈ zt := zt_at 1631 (by decide +kernel)
theorem zl_901 : Cond.instanceMethod yX12_store ∈ zt := zt_at 1633 (by decide +kernel)
theorem zl_902 : Cond.selects RX12 yX12_store yX12_store ∈ zt := zt_at 68 (by decide +kernel)
theorem dX12_storeAll_0 : decode cX12_storeAll 0 = .ok (.iload_n 1, 1) := by decide +kernel
theorem dX12_storeAll_1 : decode cX12_storeAll 1 = .ok (.tableswitch 63 0 2 #[27, 39, 51], 27) := by decide +kernel
theorem dX12_storeAll_28 : decode cX12_storeAll 28 = .ok (.aload_n 0, 1) := by decide +kernel
theorem dX12_storeAll_29 : decode cX12_storeAll 29 = .ok (.aload_n 0, 1) := by decide +kernel
theorem dX12_storeAll_30 : decode cX12_storeAll 30 = .ok (.getfield 26, 3) := by decide +kernel
theorem dX12_storeAll_33 : decode cX12_storeAll 33 = .ok (.bipush 57, 2) := by decide +kernel
theorem dX12_storeAll_35 : decode cX12_storeAll 35 = .ok (.iload_n 2, 1) := by decide +kernel
theorem dX12_storeAll_36 : decode cX12_storeAll 36 = .ok (.invokevirtual 252, 3) := by decide +kernel
theorem dX12_storeAll_39 : decode cX12_storeAll 39 = .ok (.return_, 1) := by decide +kernel
theorem dX12_storeAll_40 : decode cX12_storeAll 40 = .ok (.aload_n 0, 1) := by decide +kernel
theorem dX12_storeAll_41 : decode cX12_storeAll 41 = .ok (.aload_n 0, 1) := by decide +kernel
theorem dX12_storeAll_42 : decode cX12_storeAll 42 = .ok (.getfield 29, 3) := by decide +kernel
theorem dX12_storeAll_45 : decode cX12_storeAll 45 = .ok (.bipush 121, 2) := by decide +kernel
theorem dX12_storeAll_47 : decode cX12_storeAll 47 = .ok (.iload_n 2, 1) := by decide +kernel
theorem dX12_storeAll_48 : decode cX12_storeAll 48 = .ok (.invokevirtual 252, 3) := by decide +kernel
theorem dX12_storeAll_51 : decode cX12_storeAll 51 = .ok (.return_, 1) := by decide +kernel
theorem dX12_storeAll_52 : decode cX12_storeAll 52 = .ok (.aload_n 0, 1) := by decide +kernel
theorem dX12_storeAll_53 : decode cX12_storeAll 53 = .ok (.aload_n 0, 1) := by decide +kernel
theorem dX12_storeAll_54 : decode cX12_storeAll 54 = .ok (.getfield 32, 3) := by decide +kernel
theorem dX12_storeAll_57 : decode cX12_storeAll 57 = .ok (.bipush 22, 2) := by decide +kernel
theorem dX12_storeAll_59 : decode cX12_storeAll 59 = .ok (.iload_n 2, 1) := by decide +kernel
theorem dX12_storeAll_60 : decode cX12_storeAll 60 = .ok (.invokevirtual 252, 3) := by decide +kernel
theorem dX12_storeAll_63 : decode cX12_storeAll 63 = .ok (.return_, 1) := by decide +kernel
theorem dX12_storeAll_64 : decode cX12_storeAll 64 = .ok (.aload_n 0, 1) := by decide +kernel
theorem dX12_storeAll_65 : decode cX12_storeAll 65 = .ok (.aload_n 0, 1) := by decide +kernel
theorem dX12_storeAll_66 : decode cX12_storeAll 66 = .ok (.getfield 35, 3) := by decide +kernel
theorem dX12_storeAll_69 : decode cX12_storeAll 69 = .ok (.bipush 33, 2) := by decide +kernel
theorem dX12_storeAll_71 : decode cX12_storeAll 71 = .ok (.iload_n 2, 1) := by decide +kernel
theorem dX12_storeAll_72 : decode cX12_storeAll 72 = .ok (.invokevirtual 252, 3) := by decide +kernel
theorem dX12_storeAll_75 : decode cX12_storeAll 75 = .ok (.return_, 1) := by decide +kernel
def fX12_storeAll (μ : zM) (x0 : Nat) (x1 : Int32) (x2 : Int32) : Option (zM) := zgd (zm_ck μ 12 x0) <|
  if x1 = 0 then (
  zb1 (zm_gR μ 12 x0 6) fun v1 =>
  zb1 (fX12_store μ x0 v1 57 x2) fun m4 =>
  some m4)
  else (
  if x1 = 1 then (
  zb1 (zm_gR μ 12 x0 7) fun v6 =>
  zb1 (fX12_store μ x0 v6 121 x2) fun m9 =>
  some m9)
  else (
  if x1 = 2 then (
  zb1 (zm_gR μ 12 x0 8) fun v11 =>
  zb1 (fX12_store μ x0 v11 22 x2) fun m14 =>
  some m14)
  else (
  zb1 (zm_gR μ 12 x0 9) fun v16 =>
  zb1 (fX12_store μ x0 v16 33 x2) fun m19 =>
  some m19)))
theorem fX12_storeAll_ck {μ : zM} {x0 : Nat} {x1 : Int32} {x2 : Int32} {z : zM} (h : fX12_storeAll μ x0 x1 x2 = some z) : zm_ck μ 12 x0 = true := (zgd_s h).1
set_option maxHeartbeats 4000000 in
set_option maxRecDepth 100000 in
theorem cX12_storeAll_ok {μ : zM} {x0 : Nat} {x1 : Int32} {x2 : Int32} {mo : zM} (hf : fX12_storeAll μ x0 x1 x2 = some mo) : zC yX12_storeAll cX12_storeAll 3 (none) 1 0 0 [.ref x0, .int x1, .int x2] μ (none) mo := by
  replace hf := (zgd_s hf).2
  refine zC.of (by decide) (Nat.le_of_ble_eq_true rfl) (fun K hin => ?_)
  clear hin
  show zz K cX12_storeAll (3, RX12, none, 1, 0, 0, none, mo) 0 0 0 [(0, .ref x0), (1, .int x1), (2, .int x2)] [] μ
  refine zr_iload_n 1 dX12_storeAll_0 rfl ?_
  rcases zdec (x1 = 0) with hs5 | hs5
  · rw [if_pos hs5] at hf
    refine zr_tableIn (off := 27) 28 dX12_storeAll_1 (by rw [hs5]; decide) (by rw [hs5]; decide) (by rw [hs5]; rfl) (by decide) ?_
    refine zr_aload_n 0 dX12_storeAll_28 rfl ?_
    refine zr_aload_n 0 dX12_storeAll_29 rfl ?_
    replace hf := zb1_s hf
    obtain ⟨v1, h2, hf⟩ := hf
    refine zr_get (zm_gR_g h2) zk12 (by decide) zl_758 dX12_storeAll_30 ?_
    refine zr_bipush 57 dX12_storeAll_33 (by decide) ?_
    refine zr_iload_n 2 dX12_storeAll_35 rfl ?_
    replace hf := zb1_s hf
    obtain ⟨m4, h3, hf⟩ := hf
    refine zr_callV (ci := 12) [.ref v1, .int 57, .int x2] (cX12_store_ok h3) zvs_X12_store zl_901 zl_902 (fX12_store_ck h3) rfl rfl zl_900 rfl (Nat.le_of_ble_eq_true rfl) (Nat.le_of_ble_eq_true rfl) (Nat.le_of_ble_eq_true rfl) (Nat.le_of_ble_eq_true rfl) dX12_storeAll_36 rfl ?_
    cases hf
    exact zr_vret dX12_storeAll_39
  rw [if_neg hs5] at hf
  rcases zdec (x1 = 1) with hs10 | hs10
  · rw [if_pos hs10] at hf
    refine zr_tableIn (off := 39) 40 dX12_storeAll_1 (by rw [hs10]; decide) (by rw [hs10]; decide) (by rw [hs10]; rfl) (by decide) ?_
    refine zr_aload_n 0 dX12_storeAll_40 rfl ?_
    refine zr_aload_n 0 dX12_storeAll_41 rfl ?_
    replace hf := zb1_s hf
    obtain ⟨v6, h7, hf⟩ := hf
    refine zr_get (zm_gR_g h7) zk12 (by decide) zl_759 dX12_storeAll_42 ?_
    refine zr_bipush 121 dX12_storeAll_45 (by decide) ?_
    refine zr_iload_n 2 dX12_storeAll_47 rfl ?_
    replace hf := zb1_s hf
    obtain ⟨m9, h8, hf⟩ := hf
    refine zr_callV (ci := 12) [.ref v6, .int 121, .int x2] (cX12_store_ok h8) zvs_X12_store zl_901 zl_902 (fX12_store_ck h8) rfl rfl zl_900 rfl (Nat.le_of_ble_eq_true rfl) (Nat.le_of_ble_eq_true rfl) (Nat.le_of_ble_eq_true rfl) (Nat.le_of_ble_eq_true rfl) dX12_storeAll_48 rfl ?_
    cases hf
    exact zr_vret dX12_storeAll_51
  rw [if_neg hs10] at hf
  rcases zdec (x1 = 2) with hs15 | hs15
  · rw [if_pos hs15] at hf
    refine zr_tableIn (off := 51) 52 dX12_storeAll_1 (by rw [hs15]; decide) (by rw [hs15]; decide) (by rw [hs15]; rfl) (by decide) ?_
    refine zr_aload_n 0 dX12_storeAll_52 rfl ?_
    refine zr_aload_n 0 dX12_storeAll_53 rfl ?_
    replace hf := zb1_s hf
    obtain ⟨v11, h12, hf⟩ := hf
    refine zr_get (zm_gR_g h12) zk12 (by decide) zl_760 dX12_storeAll_54 ?_
    refine zr_bipush 22 dX12_storeAll_57 (by decide) ?_
    refine zr_iload_n 2 dX12_storeAll_59 rfl ?_
    replace hf := zb1_s hf
    obtain ⟨m14, h13, hf⟩ := hf
    refine zr_callV (ci := 12) [.ref v11, .int 22, .int x2] (cX12_store_ok h13) zvs_X12_store zl_901 zl_902 (fX12_store_ck h13) rfl rfl zl_900 rfl (Nat.le_of_ble_eq_true rfl) (Nat.le_of_ble_eq_true rfl) (Nat.le_of_ble_eq_true rfl) (Nat.le_of_ble_eq_true rfl) dX12_storeAll_60 rfl ?_
    cases hf
    exact zr_vret dX12_storeAll_63
  rw [if_neg hs15] at hf
  refine zr_tableOut 64 dX12_storeAll_1 (by simp only [← Int32.toInt_inj] at hs5 hs10 hs15; simp at hs5 hs10 hs15; omega) (by decide) ?_
  refine zr_aload_n 0 dX12_storeAll_64 rfl ?_
  refine zr_aload_n 0 dX12_storeAll_65 rfl ?_
  replace hf := zb1_s hf
  obtain ⟨v16, h17, hf⟩ := hf
  refine zr_get (zm_gR_g h17) zk12 (by decide) zl_761 dX12_storeAll_66 ?_
  refine zr_bipush 33 dX12_storeAll_69 (by decide) ?_
  refine zr_iload_n 2 dX12_storeAll_71 rfl ?_
  replace hf := zb1_s hf
  obtain ⟨m19, h18, hf⟩ := hf
  refine zr_callV (ci := 12) [.ref v16, .int 33, .int x2] (cX12_store_ok h18) zvs_X12_store zl_901 zl_902 (fX12_store_ck h18) rfl rfl zl_900 rfl (Nat.le_of_ble_eq_true rfl) (Nat.le_of_ble_eq_true rfl) (Nat.le_of_ble_eq_true rfl) (Nat.le_of_ble_eq_true rfl) dX12_storeAll_72 rfl ?_
  cases hf
  exact zr_vret dX12_storeAll_75
theorem zl_903 : Cond.code yX12_readText cX12_readText 3 (some .boolean) ∈ zt := zt_at 1531 (by decide +kernel)
theorem zvs_X12_readText : zvS yX12_readText cX12_readText 3 (some .boolean) 1 := ⟨zl_903, zl_782, ⟨by decide +kernel, by decide +kernel, by decide +kernel⟩, by decide⟩
theorem zl_904 : Cond.methodLink RX12 260 yX12_readText ∈ zt := zt_at 1528 (by decide +kernel)
theorem zl_905 : Cond.instanceMethod yX12_readText ∈ zt := zt_at 1530 (by decide +kernel)
theorem zl_906 : Cond.selects RX12 yX12_readText yX12_readText ∈ zt := zt_at 49 (by decide +kernel)
theorem zl_907 : Cond.code yX12_storeAll cX12_storeAll 3 (none) ∈ zt := zt_at 1630 (by decide +kernel)
theorem zvs_X12_storeAll : zvS yX12_storeAll cX12_storeAll 3 (none) 2 := ⟨zl_907, zl_782, ⟨by decide +kernel, by decide +kernel, by decide +kernel⟩, by decide⟩
theorem zl_908 : Cond.methodLink RX12 263 yX12_storeAll ∈ zt := zt_at 1627 (by decide +kernel)
theorem zl_909 : Cond.instanceMethod yX12_storeAll ∈ zt := zt_at 1629 (by decide +kernel)
theorem zl_910 : Cond.selects RX12 yX12_storeAll yX12_storeAll ∈ zt := zt_at 67 (by decide +kernel)
theorem zl_911 : Cond.code yX12_is cX12_is 3 (some .boolean) ∈ zt := zt_at 1527 (by decide +kernel)
theorem zvs_X12_is : zvS yX12_is cX12_is 3 (some .boolean) 2 := ⟨zl_911, zl_782, ⟨by decide +kernel, by decide +kernel, by decide +kernel⟩, by decide⟩
theorem zl_912 : Cond.methodLink RX12 256 yX12_is ∈ zt := zt_at 1524 (by decide +kernel)
theorem zl_913 : Cond.instanceMethod yX12_is ∈ zt := zt_at 1526 (by decide +kernel)
theorem zl_914 : Cond.selects RX12 yX12_is yX12_is ∈ zt := zt_at 48 (by decide +kernel)
theorem dX12_text_0 : decode cX12_text 0 = .ok (.aload_n 0, 1) := by decide +kernel
theorem dX12_text_1 : decode cX12_text 1 = .ok (.iconst 0, 1) := by decide +kernel
theorem dX12_text_2 : decode cX12_text 2 = .ok (.putfield 93, 3) := by decide +kernel
theorem dX12_text_5 : decode cX12_text 5 = .ok (.aload_n 0, 1) := by decide +kernel
theorem dX12_text_6 : decode cX12_text 6 = .ok (.aload_n 0, 1) := by decide +kernel
theorem dX12_text_7 : decode cX12_text 7 = .ok (.getfield 13, 3) := by decide +kernel
theorem dX12_text_10 : decode cX12_text 10 = .ok (.iconst 0, 1) := by decide +kernel
theorem dX12_text_11 : decode cX12_text 11 = .ok (.iaload, 1) := by decide +kernel
theorem dX12_text_12 : decode cX12_text 12 = .ok (.putfield 112, 3) := by decide +kernel
theorem dX12_text_15 : decode cX12_text 15 = .ok (.aload_n 0, 1) := by decide +kernel
theorem dX12_text_16 : decode cX12_text 16 = .ok (.getfield 13, 3) := by decide +kernel
theorem dX12_text_19 : decode cX12_text 19 = .ok (.iconst 0, 1) := by decide +kernel
theorem dX12_text_20 : decode cX12_text 20 = .ok (.iconst 0, 1) := by decide +kernel
theorem dX12_text_21 : decode cX12_text 21 = .ok (.iastore, 1) := by decide +kernel
theorem dX12_text_22 : decode cX12_text 22 = .ok (.aload_n 0, 1) := by decide +kernel
theorem dX12_text_23 : decode cX12_text 23 = .ok (.getfield 17, 3) := by decide +kernel
theorem dX12_text_26 : decode cX12_text 26 = .ok (.iconst 0, 1) := by decide +kernel
theorem dX12_text_27 : decode cX12_text 27 = .ok (.iconst 0, 1) := by decide +kernel
theorem dX12_text_28 : decode cX12_text 28 = .ok (.iastore, 1) := by decide +kernel
theorem dX12_text_29 : decode cX12_text 29 = .ok (.aload_n 0, 1) := by decide +kernel
theorem dX12_text_30 : decode cX12_text 30 = .ok (.getfield 20, 3) := by decide +kernel
theorem dX12_text_33 : decode cX12_text 33 = .ok (.iconst 0, 1) := by decide +kernel
theorem dX12_text_34 : decode cX12_text 34 = .ok (.iconst (-1), 1) := by decide +kernel
theorem dX12_text_35 : decode cX12_text 35 = .ok (.iastore, 1) := by decide +kernel
theorem dX12_text_36 : decode cX12_text 36 = .ok (.iload_n 1, 1) := by decide +kernel
theorem dX12_text_37 : decode cX12_text 37 = .ok (.iconst 0, 1) := by decide +kernel
theorem dX12_text_38 : decode cX12_text 38 = .ok (.iconst 3, 1) := by decide +kernel
theorem dX12_text_39 : decode cX12_text 39 = .ok (.invokestatic 101, 3) := by decide +kernel
theorem dX12_text_42 : decode cX12_text 42 = .ok (.ifCond .eq 30, 3) := by decide +kernel
theorem dX12_text_45 : decode cX12_text 45 = .ok (.iload_n 2, 1) := by decide +kernel
theorem dX12_text_46 : decode cX12_text 46 = .ok (.iconst (-1), 1) := by decide +kernel
theorem dX12_text_47 : decode cX12_text 47 = .ok (.if_icmp .ne 16, 3) := by decide +kernel
theorem dX12_text_50 : decode cX12_text 50 = .ok (.aload_n 0, 1) := by decide +kernel
theorem dX12_text_51 : decode cX12_text 51 = .ok (.getfield 23, 3) := by decide +kernel
theorem dX12_text_54 : decode cX12_text 54 = .ok (.iload_n 1, 1) := by decide +kernel
theorem dX12_text_55 : decode cX12_text 55 = .ok (.iaload, 1) := by decide +kernel
theorem dX12_text_56 : decode cX12_text 56 = .ok (.iconst 2, 1) := by decide +kernel
theorem dX12_text_57 : decode cX12_text 57 = .ok (.if_icmp .ne 18, 3) := by decide +kernel
theorem dX12_text_60 : decode cX12_text 60 = .ok (.goto 12, 3) := by decide +kernel
theorem dX12_text_63 : decode cX12_text 63 = .ok (.aload_n 0, 1) := by decide +kernel
theorem dX12_text_64 : decode cX12_text 64 = .ok (.iload_n 1, 1) := by decide +kernel
theorem dX12_text_65 : decode cX12_text 65 = .ok (.iload_n 2, 1) := by decide +kernel
theorem dX12_text_66 : decode cX12_text 66 = .ok (.invokevirtual 256, 3) := by decide +kernel
theorem dX12_text_69 : decode cX12_text 69 = .ok (.ifCond .ne 6, 3) := by decide +kernel
theorem dX12_text_72 : decode cX12_text 72 = .ok (.bipush (-2), 2) := by decide +kernel
theorem dX12_text_74 : decode cX12_text 74 = .ok (.ireturn, 1) := by decide +kernel
theorem dX12_text_75 : decode cX12_text 75 = .ok (.aload_n 0, 1) := by decide +kernel
theorem dX12_text_76 : decode cX12_text 76 = .ok (.iload_n 1, 1) := by decide +kernel
theorem dX12_text_77 : decode cX12_text 77 = .ok (.invokevirtual 260, 3) := by decide +kernel
theorem dX12_text_80 : decode cX12_text 80 = .ok (.ifCond .ne 5, 3) := by decide +kernel
theorem dX12_text_83 : decode cX12_text 83 = .ok (.iconst (-1), 1) := by decide +kernel
theorem dX12_text_84 : decode cX12_text 84 = .ok (.ireturn, 1) := by decide +kernel
theorem dX12_text_85 : decode cX12_text 85 = .ok (.iload_n 2, 1) := by decide +kernel
theorem dX12_text_86 : decode cX12_text 86 = .ok (.iconst (-1), 1) := by decide +kernel
theorem dX12_text_87 : decode cX12_text 87 = .ok (.if_icmp .ne 12, 3) := by decide +kernel
theorem dX12_text_90 : decode cX12_text 90 = .ok (.aload_n 0, 1) := by decide +kernel
theorem dX12_text_91 : decode cX12_text 91 = .ok (.getfield 23, 3) := by decide +kernel
theorem dX12_text_94 : decode cX12_text 94 = .ok (.iload_n 1, 1) := by decide +kernel
theorem dX12_text_95 : decode cX12_text 95 = .ok (.iaload, 1) := by decide +kernel
theorem dX12_text_96 : decode cX12_text 96 = .ok (.goto 4, 3) := by decide +kernel
theorem dX12_text_99 : decode cX12_text 99 = .ok (.iload_n 2, 1) := by decide +kernel
theorem dX12_text_100 : decode cX12_text 100 = .ok (.istore_n 3, 1) := by decide +kernel
theorem dX12_text_101 : decode cX12_text 101 = .ok (.aload_n 0, 1) := by decide +kernel
theorem dX12_text_102 : decode cX12_text 102 = .ok (.getfield 23, 3) := by decide +kernel
theorem dX12_text_105 : decode cX12_text 105 = .ok (.iload_n 1, 1) := by decide +kernel
theorem dX12_text_106 : decode cX12_text 106 = .ok (.dup2, 1) := by decide +kernel
theorem dX12_text_107 : decode cX12_text 107 = .ok (.iaload, 1) := by decide +kernel
theorem dX12_text_108 : decode cX12_text 108 = .ok (.iload_n 2, 1) := by decide +kernel
theorem dX12_text_109 : decode cX12_text 109 = .ok (.iconst (-1), 1) := by decide +kernel
theorem dX12_text_110 : decode cX12_text 110 = .ok (.if_icmp .ne 7, 3) := by decide +kernel
theorem dX12_text_113 : decode cX12_text 113 = .ok (.iconst 1, 1) := by decide +kernel
theorem dX12_text_114 : decode cX12_text 114 = .ok (.goto 4, 3) := by decide +kernel
theorem dX12_text_117 : decode cX12_text 117 = .ok (.iconst 0, 1) := by decide +kernel
theorem dX12_text_118 : decode cX12_text 118 = .ok (.iadd, 1) := by decide +kernel
theorem dX12_text_119 : decode cX12_text 119 = .ok (.iastore, 1) := by decide +kernel
theorem dX12_text_120 : decode cX12_text 120 = .ok (.aload_n 0, 1) := by decide +kernel
theorem dX12_text_121 : decode cX12_text 121 = .ok (.iload_n 1, 1) := by decide +kernel
theorem dX12_text_122 : decode cX12_text 122 = .ok (.iload_n 3, 1) := by decide +kernel
theorem dX12_text_123 : decode cX12_text 123 = .ok (.invokevirtual 263, 3) := by decide +kernel
theorem dX12_text_126 : decode cX12_text 126 = .ok (.iload_n 3, 1) := by decide +kernel
theorem dX12_text_127 : decode cX12_text 127 = .ok (.ireturn, 1) := by decide +kernel
def fX12_text_b75 (m19 : zM) (x0 : Nat) (x1 : Int32) (x2 : Int32) : Option (Int32 × zM) :=
  zb2 (fX12_readText m19 x0 x1) fun v25 m24 =>
  if v25 = 0 then (
  some ((-1), m24))
  else (
  zb1 (if x2 = (-1) then (
  zb1 (zm_gR m24 12 x0 5) fun v38 =>
  zb1 (zm_aI m24 0 v38 x1) fun v40 =>
  some v40)
  else (
  some x2)) fun s26 =>
  zb1 (zm_gR m24 12 x0 5) fun v28 =>
  zb1 (zm_aI m24 0 v28 x1) fun v30 =>
  zb1 (if x2 = (-1) then (
  some 1)
  else (
  some 0)) fun s32 =>
  zb1 (zm_sI m24 0 v28 x1 (v30 + s32)) fun m34 =>
  zb1 (fX12_storeAll m34 x0 x1 s26) fun m37 =>
  some (s26, m37))
def fX12_text (μ : zM) (x0 : Nat) (x1 : Int32) (x2 : Int32) : Option (Int32 × zM) := zgd (zm_ck μ 12 x0) <|
  zb1 (zm_p μ 12 x0 0 (.int 0)) fun m1 =>
  zb1 (zm_gR m1 12 x0 2) fun v3 =>
  zb1 (zm_aI m1 0 v3 0) fun v5 =>
  zb1 (zm_p m1 12 x0 11 (.int v5)) fun m7 =>
  zb1 (zm_gR m7 12 x0 2) fun v9 =>
  zb1 (zm_sI m7 0 v9 0 0) fun m11 =>
  zb1 (zm_gR m11 12 x0 3) fun v13 =>
  zb1 (zm_sI m11 0 v13 0 0) fun m15 =>
  zb1 (zm_gR m15 12 x0 4) fun v17 =>
  zb1 (zm_sI m15 0 v17 0 (-1)) fun m19 =>
  zb1 (fX12_in m19 x1 0 3) fun v22 =>
  if v22 = 0 then (
  some ((-2), m19))
  else (
  if x2 = (-1) then (
  zb1 (zm_gR m19 12 x0 5) fun v45 =>
  zb1 (zm_aI m19 0 v45 x1) fun v47 =>
  if v47 = 2 then (
  some ((-2), m19))
  else (
  fX12_text_b75 m19 x0 x1 x2))
  else (
  zb1 (fX12_is m19 x0 x1 x2) fun v44 =>
  if v44 = 0 then (
  some ((-2), m19))
  else (
  fX12_text_b75 m19 x0 x1 x2)))
theorem fX12_text_ck {μ : zM} {x0 : Nat} {x1 : Int32} {x2 : Int32} {z : Int32 × zM} (h : fX12_text μ x0 x1 x2 = some z) : zm_ck μ 12 x0 = true := (zgd_s h).1
set_option maxHeartbeats 4000000 in
set_option maxRecDepth 100000 in
theorem cX12_text_ok {μ : zM} {x0 : Nat} {x1 : Int32} {x2 : Int32} {r : Int32} {mo : zM} (hf : fX12_text μ x0 x1 x2 = some (r, mo)) : zC yX12_text cX12_text 4 (some .int) 8 0 0 [.ref x0, .int x1, .int x2] μ (some (.int r)) mo := by
  replace hf := (zgd_s hf).2
  refine zC.of (by decide) (Nat.le_of_ble_eq_true rfl) (fun K hin => ?_)
  clear hin
  show zz K cX12_text (4, RX12, some .int, 8, 0, 0, some (.int r), mo) 0 0 0 [(0, .ref x0), (1, .int x1), (2, .int x2)] [] μ
  refine zr_aload_n 0 dX12_text_0 rfl ?_
  refine zr_iconst 0 dX12_text_1 (by decide) ?_
  replace hf := zb1_s hf
  obtain ⟨m1, h2, hf⟩ := hf
  refine zr_put h2 zk12 (by decide) zl_788 rfl rfl rfl dX12_text_2 ?_
  refine zr_aload_n 0 dX12_text_5 rfl ?_
  refine zr_aload_n 0 dX12_text_6 rfl ?_
  replace hf := zb1_s hf
  obtain ⟨v3, h4, hf⟩ := hf
  refine zr_get (zm_gR_g h4) zk12 (by decide) zl_754 dX12_text_7 ?_
  refine zr_iconst 0 dX12_text_10 (by decide) ?_
  replace hf := zb1_s hf
  obtain ⟨v5, h6, hf⟩ := hf
  refine zr_iald h6 dX12_text_11 ?_
  replace hf := zb1_s hf
  obtain ⟨m7, h8, hf⟩ := hf
  refine zr_put h8 zk12 (by decide) zl_794 rfl rfl rfl dX12_text_12 ?_
  refine zr_aload_n 0 dX12_text_15 rfl ?_
  replace hf := zb1_s hf
  obtain ⟨v9, h10, hf⟩ := hf
  refine zr_get (zm_gR_g h10) zk12 (by decide) zl_754 dX12_text_16 ?_
  refine zr_iconst 0 dX12_text_19 (by decide) ?_
  refine zr_iconst 0 dX12_text_20 (by decide) ?_
  replace hf := zb1_s hf
  obtain ⟨m11, h12, hf⟩ := hf
  refine zr_iast h12 dX12_text_21 ?_
  refine zr_aload_n 0 dX12_text_22 rfl ?_
  replace hf := zb1_s hf
  obtain ⟨v13, h14, hf⟩ := hf
  refine zr_get (zm_gR_g h14) zk12 (by decide) zl_755 dX12_text_23 ?_
  refine zr_iconst 0 dX12_text_26 (by decide) ?_
  refine zr_iconst 0 dX12_text_27 (by decide) ?_
  replace hf := zb1_s hf
  obtain ⟨m15, h16, hf⟩ := hf
  refine zr_iast h16 dX12_text_28 ?_
  refine zr_aload_n 0 dX12_text_29 rfl ?_
  replace hf := zb1_s hf
  obtain ⟨v17, h18, hf⟩ := hf
  refine zr_get (zm_gR_g h18) zk12 (by decide) zl_756 dX12_text_30 ?_
  refine zr_iconst 0 dX12_text_33 (by decide) ?_
  refine zr_iconst (-1) dX12_text_34 (by decide) ?_
  replace hf := zb1_s hf
  obtain ⟨m19, h20, hf⟩ := hf
  refine zr_iast h20 dX12_text_35 ?_
  refine zr_iload_n 1 dX12_text_36 rfl ?_
  refine zr_iconst 0 dX12_text_37 (by decide) ?_
  refine zr_iconst 3 dX12_text_38 (by decide) ?_
  replace hf := zb1_s hf
  obtain ⟨v22, h21, hf⟩ := hf
  refine zr_callS [.int x1, .int 0, .int 3] (cX12_in_ok h21) zvs_X12_in zl_787 zl_786 rfl (Nat.le_of_ble_eq_true rfl) (Nat.le_of_ble_eq_true rfl) (Nat.le_of_ble_eq_true rfl) (Nat.le_of_ble_eq_true rfl) dX12_text_39 rfl ?_
  refine zr_if_eq 72 dX12_text_42 (by decide) (fun hc => ?_) (fun hc => ?_)
  · rw [if_pos hc] at hf
    refine zr_bipush (-2) dX12_text_72 (by decide) ?_
    cases hf
    exact zr_iret dX12_text_74
  · rw [if_neg hc] at hf
    refine zr_iload_n 2 dX12_text_45 rfl ?_
    refine zr_iconst (-1) dX12_text_46 (by decide) ?_
    have hb42 : ∀ (_ : Unit), fX12_text_b75 m19 x0 x1 x2 = some (r, mo) → zz K cX12_text (4, RX12, some .int, 8, 0, 0, some (.int r), mo) 0 0 75 [(0, .ref x0), (1, .int x1), (2, .int x2)] [] m19 := by
      intro _ hf
      unfold fX12_text_b75 at hf
      refine zr_aload_n 0 dX12_text_75 rfl ?_
      refine zr_iload_n 1 dX12_text_76 rfl ?_
      replace hf := zb2_s hf
      obtain ⟨v25, m24, h23, hf⟩ := hf
      refine zr_callV (ci := 12) [.int x1] (cX12_readText_ok h23) zvs_X12_readText zl_905 zl_906 (fX12_readText_ck h23) rfl rfl zl_904 rfl (Nat.le_of_ble_eq_true rfl) (Nat.le_of_ble_eq_true rfl) (Nat.le_of_ble_eq_true rfl) (Nat.le_of_ble_eq_true rfl) dX12_text_77 rfl ?_
      refine zr_if_ne 85 dX12_text_80 (by decide) (fun hc => ?_) (fun hc => ?_)
      · rw [if_neg hc] at hf
        refine zr_iload_n 2 dX12_text_85 rfl ?_
        refine zr_iconst (-1) dX12_text_86 (by decide) ?_
        replace hf := zb1_s hf
        obtain ⟨s26, hg, hf⟩ := hf
        have hj27 : zz K cX12_text (4, RX12, some .int, 8, 0, 0, some (.int r), mo) 0 0 100 [(0, .ref x0), (1, .int x1), (2, .int x2)] [.int s26] m24 := by
          refine zr_istore_n [(3, .int s26), (0, .ref x0), (1, .int x1), (2, .int x2)] dX12_text_100 (Nat.le_of_ble_eq_true rfl) rfl ?_
          refine zr_aload_n 1 dX12_text_101 rfl ?_
          replace hf := zb1_s hf
          obtain ⟨v28, h29, hf⟩ := hf
          refine zr_get (zm_gR_g h29) zk12 (by decide) zl_757 dX12_text_102 ?_
          refine zr_iload_n 2 dX12_text_105 rfl ?_
          refine zr_dup2 dX12_text_106 rfl rfl ?_
          replace hf := zb1_s hf
          obtain ⟨v30, h31, hf⟩ := hf
          refine zr_iald h31 dX12_text_107 ?_
          refine zr_iload_n 3 dX12_text_108 rfl ?_
          refine zr_iconst (-1) dX12_text_109 (by decide) ?_
          replace hf := zb1_s hf
          obtain ⟨s32, hg, hf⟩ := hf
          have hj33 : zz K cX12_text (4, RX12, some .int, 8, 0, 0, some (.int r), mo) 0 0 118 [(0, .ref x0), (1, .int x1), (3, .int s26)] [.int s32, .int v30, .int x1, .ref v28] m24 := by
            refine zr_iadd dX12_text_118 ?_
            replace hf := zb1_s hf
            obtain ⟨m34, h35, hf⟩ := hf
            refine zr_iast h35 dX12_text_119 ?_
            refine zr_aload_n 0 dX12_text_120 rfl ?_
            refine zr_iload_n 1 dX12_text_121 rfl ?_
            refine zr_iload_n 2 dX12_text_122 rfl ?_
            replace hf := zb1_s hf
            obtain ⟨m37, h36, hf⟩ := hf
            refine zr_callV (ci := 12) [.int x1, .int s26] (cX12_storeAll_ok h36) zvs_X12_storeAll zl_909 zl_910 (fX12_storeAll_ck h36) rfl rfl zl_908 rfl (Nat.le_of_ble_eq_true rfl) (Nat.le_of_ble_eq_true rfl) (Nat.le_of_ble_eq_true rfl) (Nat.le_of_ble_eq_true rfl) dX12_text_123 rfl ?_
            refine zr_iload_n 2 dX12_text_126 rfl ?_
            cases hf
            exact zr_iret dX12_text_127
          clear hf
          have hf := hg
          clear hg
          refine zr_icmp_ne 117 dX12_text_110 (by decide) (fun hc => ?_) (fun hc => ?_)
          · rw [if_neg hc] at hf
            refine zr_iconst 0 dX12_text_117 (by decide) ?_
            cases hf
            exact zr_lv [1, 2, 0] rfl hj33
          · rw [if_pos hc] at hf
            refine zr_iconst 1 dX12_text_113 (by decide) ?_
            refine zr_goto 118 dX12_text_114 (by decide) ?_
            cases hf
            exact zr_lv [1, 2, 0] rfl hj33
        clear hf
        have hf := hg
        clear hg
        refine zr_icmp_ne 99 dX12_text_87 (by decide) (fun hc => ?_) (fun hc => ?_)
        · rw [if_neg hc] at hf
          refine zr_iload_n 2 dX12_text_99 rfl ?_
          cases hf
          exact zr_lv [0, 1, 2] rfl hj27
        · rw [if_pos hc] at hf
          refine zr_aload_n 0 dX12_text_90 rfl ?_
          replace hf := zb1_s hf
          obtain ⟨v38, h39, hf⟩ := hf
          refine zr_get (zm_gR_g h39) zk12 (by decide) zl_757 dX12_text_91 ?_
          refine zr_iload_n 1 dX12_text_94 rfl ?_
          replace hf := zb1_s hf
          obtain ⟨v40, h41, hf⟩ := hf
          refine zr_iald h41 dX12_text_95 ?_
          refine zr_goto 100 dX12_text_96 (by decide) ?_
          cases hf
          exact zr_lv [0, 1, 2] rfl hj27
      · rw [if_pos hc] at hf
        refine zr_iconst (-1) dX12_text_83 (by decide) ?_
        cases hf
        exact zr_iret dX12_text_84
    refine zr_icmp_ne 63 dX12_text_47 (by decide) (fun hc => ?_) (fun hc => ?_)
    · rw [if_neg hc] at hf
      refine zr_aload_n 0 dX12_text_63 rfl ?_
      refine zr_iload_n 1 dX12_text_64 rfl ?_
      refine zr_iload_n 2 dX12_text_65 rfl ?_
      replace hf := zb1_s hf
      obtain ⟨v44, h43, hf⟩ := hf
      refine zr_callV (ci := 12) [.int x1, .int x2] (cX12_is_ok h43) zvs_X12_is zl_913 zl_914 (fX12_is_ck h43) rfl rfl zl_912 rfl (Nat.le_of_ble_eq_true rfl) (Nat.le_of_ble_eq_true rfl) (Nat.le_of_ble_eq_true rfl) (Nat.le_of_ble_eq_true rfl) dX12_text_66 rfl ?_
      refine zr_if_ne 75 dX12_text_69 (by decide) (fun hc => ?_) (fun hc => ?_)
      · rw [if_neg hc] at hf
        exact zr_lv [0, 1, 2] rfl (hb42 () hf)
      · rw [if_pos hc] at hf
        refine zr_bipush (-2) dX12_text_72 (by decide) ?_
        cases hf
        exact zr_iret dX12_text_74
    · rw [if_pos hc] at hf
      refine zr_aload_n 0 dX12_text_50 rfl ?_
      replace hf := zb1_s hf
      obtain ⟨v45, h46, hf⟩ := hf
      refine zr_get (zm_gR_g h46) zk12 (by decide) zl_757 dX12_text_51 ?_
      refine zr_iload_n 1 dX12_text_54 rfl ?_
      replace hf := zb1_s hf
      obtain ⟨v47, h48, hf⟩ := hf
      refine zr_iald h48 dX12_text_55 ?_
      refine zr_iconst 2 dX12_text_56 (by decide) ?_
      refine zr_icmp_ne 75 dX12_text_57 (by decide) (fun hc => ?_) (fun hc => ?_)
      · rw [if_neg hc] at hf
        exact zr_lv [0, 1, 2] rfl (hb42 () hf)
      · rw [if_pos hc] at hf
        refine zr_goto 72 dX12_text_60 (by decide) ?_
        refine zr_bipush (-2) dX12_text_72 (by decide) ?_
        cases hf
        exact zr_iret dX12_text_74
theorem dX12_fault_0 : decode cX12_fault 0 = .ok (.aload_n 0, 1) := by decide +kernel
theorem dX12_fault_1 : decode cX12_fault 1 = .ok (.iconst 0, 1) := by decide +kernel
theorem dX12_fault_2 : decode cX12_fault 2 = .ok (.putfield 93, 3) := by decide +kernel
theorem dX12_fault_5 : decode cX12_fault 5 = .ok (.iload_n 1, 1) := by decide +kernel
theorem dX12_fault_6 : decode cX12_fault 6 = .ok (.ifCond .ne 12, 3) := by decide +kernel
theorem dX12_fault_9 : decode cX12_fault 9 = .ok (.aload_n 0, 1) := by decide +kernel
theorem dX12_fault_10 : decode cX12_fault 10 = .ok (.getfield 17, 3) := by decide +kernel
theorem dX12_fault_13 : decode cX12_fault 13 = .ok (.iconst 0, 1) := by decide +kernel
theorem dX12_fault_14 : decode cX12_fault 14 = .ok (.iaload, 1) := by decide +kernel
theorem dX12_fault_15 : decode cX12_fault 15 = .ok (.goto 18, 3) := by decide +kernel
theorem dX12_fault_18 : decode cX12_fault 18 = .ok (.iload_n 1, 1) := by decide +kernel
theorem dX12_fault_19 : decode cX12_fault 19 = .ok (.iconst 1, 1) := by decide +kernel
theorem dX12_fault_20 : decode cX12_fault 20 = .ok (.if_icmp .ne 12, 3) := by decide +kernel
theorem dX12_fault_23 : decode cX12_fault 23 = .ok (.aload_n 0, 1) := by decide +kernel
theorem dX12_fault_24 : decode cX12_fault 24 = .ok (.getfield 20, 3) := by decide +kernel
theorem dX12_fault_27 : decode cX12_fault 27 = .ok (.iconst 0, 1) := by decide +kernel
theorem dX12_fault_28 : decode cX12_fault 28 = .ok (.iaload, 1) := by decide +kernel
theorem dX12_fault_29 : decode cX12_fault 29 = .ok (.goto 4, 3) := by decide +kernel
theorem dX12_fault_32 : decode cX12_fault 32 = .ok (.iconst (-1), 1) := by decide +kernel
theorem dX12_fault_33 : decode cX12_fault 33 = .ok (.ireturn, 1) := by decide +kernel
def fX12_fault (μ : zM) (x0 : Nat) (x1 : Int32) : Option (Int32 × zM) := zgd (zm_ck μ 12 x0) <|
  zb1 (zm_p μ 12 x0 0 (.int 0)) fun m1 =>
  zb1 (if x1 = 0 then (
  zb1 (zm_gR m1 12 x0 3) fun v9 =>
  zb1 (zm_aI m1 0 v9 0) fun v11 =>
  some v11)
  else (
  if x1 = 1 then (
  zb1 (zm_gR m1 12 x0 4) fun v5 =>
  zb1 (zm_aI m1 0 v5 0) fun v7 =>
  some v7)
  else (
  some (-1)))) fun s3 =>
  some (s3, m1)
theorem fX12_fault_ck {μ : zM} {x0 : Nat} {x1 : Int32} {z : Int32 × zM} (h : fX12_fault μ x0 x1 = some z) : zm_ck μ 12 x0 = true := (zgd_s h).1
set_option maxHeartbeats 4000000 in
set_option maxRecDepth 100000 in
theorem cX12_fault_ok {μ : zM} {x0 : Nat} {x1 : Int32} {r : Int32} {mo : zM} (hf : fX12_fault μ x0 x1 = some (r, mo)) : zC yX12_fault cX12_fault 2 (some .int) 0 0 0 [.ref x0, .int x1] μ (some (.int r)) mo := by
  replace hf := (zgd_s hf).2
  refine zC.of (by decide) (Nat.le_of_ble_eq_true rfl) (fun K hin => ?_)
  clear hin
  show zz K cX12_fault (2, RX12, some .int, 0, 0, 0, some (.int r), mo) 0 0 0 [(0, .ref x0), (1, .int x1)] [] μ
  refine zr_aload_n 0 dX12_fault_0 rfl ?_
  refine zr_iconst 0 dX12_fault_1 (by decide) ?_
  replace hf := zb1_s hf
  obtain ⟨m1, h2, hf⟩ := hf
  refine zr_put h2 zk12 (by decide) zl_788 rfl rfl rfl dX12_fault_2 ?_
  refine zr_iload_n 1 dX12_fault_5 rfl ?_
  replace hf := zb1_s hf
  obtain ⟨s3, hg, hf⟩ := hf
  have hj4 : zz K cX12_fault (2, RX12, some .int, 0, 0, 0, some (.int r), mo) 0 0 33 [] [.int s3] m1 := by
    cases hf
    exact zr_iret dX12_fault_33
  clear hf
  have hf := hg
  clear hg
  refine zr_if_ne 18 dX12_fault_6 (by decide) (fun hc => ?_) (fun hc => ?_)
  · rw [if_neg hc] at hf
    refine zr_iload_n 1 dX12_fault_18 rfl ?_
    refine zr_iconst 1 dX12_fault_19 (by decide) ?_
    refine zr_icmp_ne 32 dX12_fault_20 (by decide) (fun hc => ?_) (fun hc => ?_)
    · rw [if_neg hc] at hf
      refine zr_iconst (-1) dX12_fault_32 (by decide) ?_
      cases hf
      exact zr_lv [] rfl hj4
    · rw [if_pos hc] at hf
      refine zr_aload_n 0 dX12_fault_23 rfl ?_
      replace hf := zb1_s hf
      obtain ⟨v5, h6, hf⟩ := hf
      refine zr_get (zm_gR_g h6) zk12 (by decide) zl_756 dX12_fault_24 ?_
      refine zr_iconst 0 dX12_fault_27 (by decide) ?_
      replace hf := zb1_s hf
      obtain ⟨v7, h8, hf⟩ := hf
      refine zr_iald h8 dX12_fault_28 ?_
      refine zr_goto 33 dX12_fault_29 (by decide) ?_
      cases hf
      exact zr_lv [] rfl hj4
  · rw [if_pos hc] at hf
    refine zr_aload_n 0 dX12_fault_9 rfl ?_
    replace hf := zb1_s hf
    obtain ⟨v9, h10, hf⟩ := hf
    refine zr_get (zm_gR_g h10) zk12 (by decide) zl_755 dX12_fault_10 ?_
    refine zr_iconst 0 dX12_fault_13 (by decide) ?_
    replace hf := zb1_s hf
    obtain ⟨v11, h12, hf⟩ := hf
    refine zr_iald h12 dX12_fault_14 ?_
    refine zr_goto 33 dX12_fault_15 (by decide) ?_
    cases hf
    exact zr_lv [] rfl hj4
theorem zl_915 : Cond.fieldLink RX12 266 "TwoEchoesModel" "valley" "I" ∈ zt := zt_at 1364 (by decide +kernel)
theorem dX12_of_0 : decode cX12_of 0 = .ok (.aload_n 0, 1) := by decide +kernel
theorem dX12_of_1 : decode cX12_of 1 = .ok (.getfield 26, 3) := by decide +kernel
theorem dX12_of_4 : decode cX12_of 4 = .ok (.bipush 57, 2) := by decide +kernel
theorem dX12_of_6 : decode cX12_of 6 = .ok (.aload_n 0, 1) := by decide +kernel
theorem dX12_of_7 : decode cX12_of 7 = .ok (.getfield 266, 3) := by decide +kernel
theorem dX12_of_10 : decode cX12_of 10 = .ok (.imul, 1) := by decide +kernel
theorem dX12_of_11 : decode cX12_of 11 = .ok (.iload_n 1, 1) := by decide +kernel
theorem dX12_of_12 : decode cX12_of 12 = .ok (.iadd, 1) := by decide +kernel
theorem dX12_of_13 : decode cX12_of 13 = .ok (.iaload, 1) := by decide +kernel
theorem dX12_of_14 : decode cX12_of 14 = .ok (.ireturn, 1) := by decide +kernel
def fX12_of (μ : zM) (x0 : Nat) (x1 : Int32) : Option (Int32) := zgd (zm_ck μ 12 x0) <|
  zb1 (zm_gR μ 12 x0 6) fun v1 =>
  zb1 (zm_gI μ 12 x0 23) fun v3 =>
  zb1 (zm_aI μ 0 v1 ((57 * v3) + x1)) fun v5 =>
  some v5
theorem fX12_of_ck {μ : zM} {x0 : Nat} {x1 : Int32} {z : Int32} (h : fX12_of μ x0 x1 = some z) : zm_ck μ 12 x0 = true := (zgd_s h).1
set_option maxHeartbeats 4000000 in
set_option maxRecDepth 100000 in
theorem cX12_of_ok {μ : zM} {x0 : Nat} {x1 : Int32} {r : Int32} (hf : fX12_of μ x0 x1 = some r) : zC yX12_of cX12_of 2 (some .int) 0 0 0 [.ref x0, .int x1] μ (some (.int r)) μ := by
  replace hf := (zgd_s hf).2
  refine zC.of (by decide) (Nat.le_of_ble_eq_true rfl) (fun K hin => ?_)
  clear hin
  show zz K cX12_of (2, RX12, some .int, 0, 0, 0, some (.int r), μ) 0 0 0 [(0, .ref x0), (1, .int x1)] [] μ
  refine zr_aload_n 0 dX12_of_0 rfl ?_
  replace hf := zb1_s hf
  obtain ⟨v1, h2, hf⟩ := hf
  refine zr_get (zm_gR_g h2) zk12 (by decide) zl_758 dX12_of_1 ?_
  refine zr_bipush 57 dX12_of_4 (by decide) ?_
  refine zr_aload_n 0 dX12_of_6 rfl ?_
  replace hf := zb1_s hf
  obtain ⟨v3, h4, hf⟩ := hf
  refine zr_get (zm_gI_g h4) zk12 (by decide) zl_915 dX12_of_7 ?_
  refine zr_imul dX12_of_10 ?_
  refine zr_iload_n 1 dX12_of_11 rfl ?_
  refine zr_iadd dX12_of_12 ?_
  replace hf := zb1_s hf
  obtain ⟨v5, h6, hf⟩ := hf
  refine zr_iald h6 dX12_of_13 ?_
  cases hf
  exact zr_iret dX12_of_14
