theorem zl_1159 : Cond.fieldLink RX12 394 "TwoEchoesModel" "sellers" "I" ∈ zt := zt_at 1380 (by decide +kernel)
theorem zl_1160 : Cond.fieldLink RX12 397 "TwoEchoesModel" "buyers" "I" ∈ zt := zt_at 1381 (by decide +kernel)
theorem zl_1161 : Cond.code yX12_rankOf cX12_rankOf 6 (some .int) ∈ zt := zt_at 1814 (by decide +kernel)
theorem zvs_X12_rankOf : zvS yX12_rankOf cX12_rankOf 6 (some .int) 2 := ⟨zl_1161, zl_893, ⟨by decide +kernel, by decide +kernel, by decide +kernel⟩, by decide⟩
theorem zl_1162 : Cond.methodLink RX12 400 yX12_rankOf ∈ zt := zt_at 1811 (by decide +kernel)
theorem zl_1163 : Cond.instanceMethod yX12_rankOf ∈ zt := zt_at 1813 (by decide +kernel)
theorem zl_1164 : Cond.selects RX12 yX12_rankOf yX12_rankOf ∈ zt := zt_at 98 (by decide +kernel)
theorem dX12_layMarket_0 : decode cX12_layMarket 0 = .ok (.aload_n 0, 1) := by decide +kernel
theorem dX12_layMarket_1 : decode cX12_layMarket 1 = .ok (.iconst 0, 1) := by decide +kernel
theorem dX12_layMarket_2 : decode cX12_layMarket 2 = .ok (.putfield 394, 3) := by decide +kernel
theorem dX12_layMarket_5 : decode cX12_layMarket 5 = .ok (.aload_n 0, 1) := by decide +kernel
theorem dX12_layMarket_6 : decode cX12_layMarket 6 = .ok (.iconst 0, 1) := by decide +kernel
theorem dX12_layMarket_7 : decode cX12_layMarket 7 = .ok (.putfield 397, 3) := by decide +kernel
theorem dX12_layMarket_10 : decode cX12_layMarket 10 = .ok (.iconst 0, 1) := by decide +kernel
theorem dX12_layMarket_11 : decode cX12_layMarket 11 = .ok (.istore_n 1, 1) := by decide +kernel
theorem dX12_layMarket_12 : decode cX12_layMarket 12 = .ok (.iload_n 1, 1) := by decide +kernel
theorem dX12_layMarket_13 : decode cX12_layMarket 13 = .ok (.aload_n 0, 1) := by decide +kernel
theorem dX12_layMarket_14 : decode cX12_layMarket 14 = .ok (.getfield 276, 3) := by decide +kernel
theorem dX12_layMarket_17 : decode cX12_layMarket 17 = .ok (.if_icmp .ge 85, 3) := by decide +kernel
theorem dX12_layMarket_20 : decode cX12_layMarket 20 = .ok (.aload_n 0, 1) := by decide +kernel
theorem dX12_layMarket_21 : decode cX12_layMarket 21 = .ok (.iload_n 1, 1) := by decide +kernel
theorem dX12_layMarket_22 : decode cX12_layMarket 22 = .ok (.iconst 0, 1) := by decide +kernel
theorem dX12_layMarket_23 : decode cX12_layMarket 23 = .ok (.invokevirtual 391, 3) := by decide +kernel
theorem dX12_layMarket_26 : decode cX12_layMarket 26 = .ok (.ifCond .eq 32, 3) := by decide +kernel
theorem dX12_layMarket_29 : decode cX12_layMarket 29 = .ok (.aload_n 0, 1) := by decide +kernel
theorem dX12_layMarket_30 : decode cX12_layMarket 30 = .ok (.getfield 59, 3) := by decide +kernel
theorem dX12_layMarket_33 : decode cX12_layMarket 33 = .ok (.aload_n 0, 1) := by decide +kernel
theorem dX12_layMarket_34 : decode cX12_layMarket 34 = .ok (.iload_n 1, 1) := by decide +kernel
theorem dX12_layMarket_35 : decode cX12_layMarket 35 = .ok (.iconst 1, 1) := by decide +kernel
theorem dX12_layMarket_36 : decode cX12_layMarket 36 = .ok (.invokevirtual 400, 3) := by decide +kernel
theorem dX12_layMarket_39 : decode cX12_layMarket 39 = .ok (.aload_n 0, 1) := by decide +kernel
theorem dX12_layMarket_40 : decode cX12_layMarket 40 = .ok (.bipush 39, 2) := by decide +kernel
theorem dX12_layMarket_42 : decode cX12_layMarket 42 = .ok (.iload_n 1, 1) := by decide +kernel
theorem dX12_layMarket_43 : decode cX12_layMarket 43 = .ok (.iadd, 1) := by decide +kernel
theorem dX12_layMarket_44 : decode cX12_layMarket 44 = .ok (.invokevirtual 269, 3) := by decide +kernel
theorem dX12_layMarket_47 : decode cX12_layMarket 47 = .ok (.iastore, 1) := by decide +kernel
theorem dX12_layMarket_48 : decode cX12_layMarket 48 = .ok (.aload_n 0, 1) := by decide +kernel
theorem dX12_layMarket_49 : decode cX12_layMarket 49 = .ok (.dup, 1) := by decide +kernel
theorem dX12_layMarket_50 : decode cX12_layMarket 50 = .ok (.getfield 394, 3) := by decide +kernel
theorem dX12_layMarket_53 : decode cX12_layMarket 53 = .ok (.iconst 1, 1) := by decide +kernel
theorem dX12_layMarket_54 : decode cX12_layMarket 54 = .ok (.iadd, 1) := by decide +kernel
theorem dX12_layMarket_55 : decode cX12_layMarket 55 = .ok (.putfield 394, 3) := by decide +kernel
theorem dX12_layMarket_58 : decode cX12_layMarket 58 = .ok (.aload_n 0, 1) := by decide +kernel
theorem dX12_layMarket_59 : decode cX12_layMarket 59 = .ok (.iload_n 1, 1) := by decide +kernel
theorem dX12_layMarket_60 : decode cX12_layMarket 60 = .ok (.iconst 1, 1) := by decide +kernel
theorem dX12_layMarket_61 : decode cX12_layMarket 61 = .ok (.invokevirtual 391, 3) := by decide +kernel
theorem dX12_layMarket_64 : decode cX12_layMarket 64 = .ok (.ifCond .eq 32, 3) := by decide +kernel
theorem dX12_layMarket_67 : decode cX12_layMarket 67 = .ok (.aload_n 0, 1) := by decide +kernel
theorem dX12_layMarket_68 : decode cX12_layMarket 68 = .ok (.getfield 62, 3) := by decide +kernel
theorem dX12_layMarket_71 : decode cX12_layMarket 71 = .ok (.aload_n 0, 1) := by decide +kernel
theorem dX12_layMarket_72 : decode cX12_layMarket 72 = .ok (.iload_n 1, 1) := by decide +kernel
theorem dX12_layMarket_73 : decode cX12_layMarket 73 = .ok (.iconst 0, 1) := by decide +kernel
theorem dX12_layMarket_74 : decode cX12_layMarket 74 = .ok (.invokevirtual 400, 3) := by decide +kernel
theorem dX12_layMarket_77 : decode cX12_layMarket 77 = .ok (.aload_n 0, 1) := by decide +kernel
theorem dX12_layMarket_78 : decode cX12_layMarket 78 = .ok (.bipush 39, 2) := by decide +kernel
theorem dX12_layMarket_80 : decode cX12_layMarket 80 = .ok (.iload_n 1, 1) := by decide +kernel
theorem dX12_layMarket_81 : decode cX12_layMarket 81 = .ok (.iadd, 1) := by decide +kernel
theorem dX12_layMarket_82 : decode cX12_layMarket 82 = .ok (.invokevirtual 269, 3) := by decide +kernel
theorem dX12_layMarket_85 : decode cX12_layMarket 85 = .ok (.iastore, 1) := by decide +kernel
theorem dX12_layMarket_86 : decode cX12_layMarket 86 = .ok (.aload_n 0, 1) := by decide +kernel
theorem dX12_layMarket_87 : decode cX12_layMarket 87 = .ok (.dup, 1) := by decide +kernel
theorem dX12_layMarket_88 : decode cX12_layMarket 88 = .ok (.getfield 397, 3) := by decide +kernel
theorem dX12_layMarket_91 : decode cX12_layMarket 91 = .ok (.iconst 1, 1) := by decide +kernel
theorem dX12_layMarket_92 : decode cX12_layMarket 92 = .ok (.iadd, 1) := by decide +kernel
theorem dX12_layMarket_93 : decode cX12_layMarket 93 = .ok (.putfield 397, 3) := by decide +kernel
theorem dX12_layMarket_96 : decode cX12_layMarket 96 = .ok (.iinc 1 1, 3) := by decide +kernel
theorem dX12_layMarket_99 : decode cX12_layMarket 99 = .ok (.goto (-87), 3) := by decide +kernel
theorem dX12_layMarket_102 : decode cX12_layMarket 102 = .ok (.return_, 1) := by decide +kernel
noncomputable def fX12_layMarket_l12 (x0 : Nat) (F7 : Int32 → zM → Option (zM)) (x1_5 : Int32) (m6 : zM) : Option (zM) :=
  zb1 (zm_gI m6 12 x0 25) fun v11 =>
  if v11 ≤ x1_5 then (
  some m6)
  else (
  zb1 (fX12_isKind m6 x0 x1_5 0) fun v14 =>
  zc1 (if v14 = 0 then (
  some m6)
  else (
  zb1 (zm_gR m6 12 x0 37) fun v33 =>
  zb1 (fX12_rankOf m6 x0 x1_5 1) fun v36 =>
  zb1 (fX12_of m6 x0 (39 + x1_5)) fun v38 =>
  zb1 (zm_sI m6 0 v33 v36 v38) fun m39 =>
  zb1 (zm_gI m39 12 x0 39) fun v41 =>
  zb1 (zm_p m39 12 x0 39 (.int (v41 + 1))) fun m43 =>
  some m43) : Option (zM)) fun (m15 : zM) =>
  zb1 (fX12_isKind m15 x0 x1_5 1) fun v18 =>
  zc1 (if v18 = 0 then (
  some m15)
  else (
  zb1 (zm_gR m15 12 x0 38) fun v21 =>
  zb1 (fX12_rankOf m15 x0 x1_5 0) fun v24 =>
  zb1 (fX12_of m15 x0 (39 + x1_5)) fun v26 =>
  zb1 (zm_sI m15 0 v21 v24 v26) fun m27 =>
  zb1 (zm_gI m27 12 x0 40) fun v29 =>
  zb1 (zm_p m27 12 x0 40 (.int (v29 + 1))) fun m31 =>
  some m31) : Option (zM)) fun (m19 : zM) =>
  F7 (x1_5 + 1) m19)
noncomputable def fX12_layMarket (μ : zM) (x0 : Nat) : Option (zM) := zgd (zm_ck μ 12 x0) <|
  zb1 (zm_p μ 12 x0 39 (.int 0)) fun m1 =>
  zb1 (zm_p m1 12 x0 40 (.int 0)) fun m3 =>
  zb1 (zf2 (fX12_layMarket_l12 x0) zfu 0 m3 : Option (zM)) fun (m9 : zM) =>
  some m9
theorem fX12_layMarket_ck {μ : zM} {x0 : Nat} {z : zM} (h : fX12_layMarket μ x0 = some z) : zm_ck μ 12 x0 = true := (zgd_s h).1
set_option maxHeartbeats 4000000 in
set_option maxRecDepth 100000 in
theorem cX12_layMarket_ok {μ : zM} {x0 : Nat} {mo : zM} (hf : fX12_layMarket μ x0 = some mo) : zC yX12_layMarket cX12_layMarket 2 (none) 4 0 0 [.ref x0] μ (none) mo := by
  replace hf := (zgd_s hf).2
  refine zC.of (by decide) (Nat.le_of_ble_eq_true rfl) (fun K hin => ?_)
  clear hin
  show zz K cX12_layMarket (2, RX12, none, 4, 0, 0, none, mo) 0 0 0 [(0, .ref x0)] [] μ
  refine zr_aload_n 0 dX12_layMarket_0 rfl ?_
  refine zr_iconst 0 dX12_layMarket_1 (by decide) ?_
  replace hf := zb1_s hf
  obtain ⟨m1, h2, hf⟩ := hf
  refine zr_put h2 zk12 (by decide) zl_1159 rfl rfl rfl dX12_layMarket_2 ?_
  refine zr_aload_n 0 dX12_layMarket_5 rfl ?_
  refine zr_iconst 0 dX12_layMarket_6 (by decide) ?_
  replace hf := zb1_s hf
  obtain ⟨m3, h4, hf⟩ := hf
  refine zr_put h4 zk12 (by decide) zl_1160 rfl rfl rfl dX12_layMarket_7 ?_
  refine zr_iconst 0 dX12_layMarket_10 (by decide) ?_
  refine zr_istore_n [(1, .int 0), (0, .ref x0)] dX12_layMarket_11 (Nat.le_of_ble_eq_true rfl) rfl ?_
  replace hf := zb1_s hf
  obtain ⟨m9, hg, hf⟩ := hf
  have hj10 : zz K cX12_layMarket (2, RX12, none, 4, 0, 0, none, mo) 0 0 102 [] [] m9 := by
    cases hf
    exact zr_vret dX12_layMarket_102
  clear hf
  have hf := hg
  clear hg
  have hL45 : ∀ (n : Nat) (x1_5 : Int32) (m6 : zM), zf2 (fX12_layMarket_l12 x0) n x1_5 m6 = some m9 → zz K cX12_layMarket (2, RX12, none, 4, 0, 0, none, mo) 0 0 12 [(0, .ref x0), (1, .int x1_5)] [] m6 := by
    intro n
    induction n with
    | zero => intro x1_5 m6 hf; cases hf
    | succ n ih8 =>
      intro x1_5 m6 hf
      replace hf := zf2_s hf
      generalize zf2 (fX12_layMarket_l12 x0) n = F7 at hf ih8
      unfold fX12_layMarket_l12 at hf
      refine zr_iload_n 1 dX12_layMarket_12 rfl ?_
      refine zr_aload_n 0 dX12_layMarket_13 rfl ?_
      replace hf := zb1_s hf
      obtain ⟨v11, h12, hf⟩ := hf
      refine zr_get (zm_gI_g h12) zk12 (by decide) zl_1032 dX12_layMarket_14 ?_
      refine zr_icmp_ge 102 dX12_layMarket_17 (by decide) (fun hc => ?_) (fun hc => ?_)
      · rw [if_pos hc] at hf
        cases hf
        exact zr_lv [] rfl hj10
      · rw [if_neg hc] at hf
        refine zr_aload_n 0 dX12_layMarket_20 rfl ?_
        refine zr_iload_n 1 dX12_layMarket_21 rfl ?_
        refine zr_iconst 0 dX12_layMarket_22 (by decide) ?_
        replace hf := zb1_s hf
        obtain ⟨v14, h13, hf⟩ := hf
        refine zr_callV (ci := 12) [.int x1_5, .int 0] (cX12_isKind_ok h13) zvs_X12_isKind zl_1157 zl_1158 (fX12_isKind_ck h13) rfl rfl zl_1156 rfl (Nat.le_of_ble_eq_true rfl) (Nat.le_of_ble_eq_true rfl) (Nat.le_of_ble_eq_true rfl) (Nat.le_of_ble_eq_true rfl) dX12_layMarket_23 rfl ?_
        replace hf := zc1_s hf
        obtain ⟨m15, hg, hf⟩ := hf
        have hj16 : zz K cX12_layMarket (2, RX12, none, 4, 0, 0, none, mo) 0 0 58 [(0, .ref x0), (1, .int x1_5)] [] m15 := by
          refine zr_aload_n 0 dX12_layMarket_58 rfl ?_
          refine zr_iload_n 1 dX12_layMarket_59 rfl ?_
          refine zr_iconst 1 dX12_layMarket_60 (by decide) ?_
          replace hf := zb1_s hf
          obtain ⟨v18, h17, hf⟩ := hf
          refine zr_callV (ci := 12) [.int x1_5, .int 1] (cX12_isKind_ok h17) zvs_X12_isKind zl_1157 zl_1158 (fX12_isKind_ck h17) rfl rfl zl_1156 rfl (Nat.le_of_ble_eq_true rfl) (Nat.le_of_ble_eq_true rfl) (Nat.le_of_ble_eq_true rfl) (Nat.le_of_ble_eq_true rfl) dX12_layMarket_61 rfl ?_
          replace hf := zc1_s hf
          obtain ⟨m19, hg, hf⟩ := hf
          have hj20 : zz K cX12_layMarket (2, RX12, none, 4, 0, 0, none, mo) 0 0 96 [(0, .ref x0), (1, .int x1_5)] [] m19 := by
            refine zr_iinc (j := 1) (x1_5 + 1) [(1, .int (x1_5 + 1)), (0, .ref x0)] dX12_layMarket_96 rfl rfl (Nat.le_of_ble_eq_true rfl) rfl ?_
            refine zr_goto 12 dX12_layMarket_99 (by decide) ?_
            exact zr_lv [1, 0] rfl (ih8 (x1_5 + 1) m19 hf)
          clear hf
          have hf := hg
          clear hg
          refine zr_if_eq 96 dX12_layMarket_64 (by decide) (fun hc => ?_) (fun hc => ?_)
          · rw [if_pos hc] at hf
            cases hf
            exact zr_lv [0, 1] rfl hj20
          · rw [if_neg hc] at hf
            refine zr_aload_n 0 dX12_layMarket_67 rfl ?_
            replace hf := zb1_s hf
            obtain ⟨v21, h22, hf⟩ := hf
            refine zr_get (zm_gR_g h22) zk12 (by decide) zl_881 dX12_layMarket_68 ?_
            refine zr_aload_n 0 dX12_layMarket_71 rfl ?_
            refine zr_iload_n 1 dX12_layMarket_72 rfl ?_
            refine zr_iconst 0 dX12_layMarket_73 (by decide) ?_
            replace hf := zb1_s hf
            obtain ⟨v24, h23, hf⟩ := hf
            refine zr_callV (ci := 12) [.int x1_5, .int 0] (cX12_rankOf_ok h23) zvs_X12_rankOf zl_1163 zl_1164 (fX12_rankOf_ck h23) rfl rfl zl_1162 rfl (Nat.le_of_ble_eq_true rfl) (Nat.le_of_ble_eq_true rfl) (Nat.le_of_ble_eq_true rfl) (Nat.le_of_ble_eq_true rfl) dX12_layMarket_74 rfl ?_
            refine zr_aload_n 0 dX12_layMarket_77 rfl ?_
            refine zr_bipush 39 dX12_layMarket_78 (by decide) ?_
            refine zr_iload_n 1 dX12_layMarket_80 rfl ?_
            refine zr_iadd dX12_layMarket_81 ?_
            replace hf := zb1_s hf
            obtain ⟨v26, h25, hf⟩ := hf
            refine zr_callV (ci := 12) [.int (39 + x1_5)] (cX12_of_ok h25) zvs_X12_of zl_1029 zl_1030 (fX12_of_ck h25) rfl rfl zl_1028 rfl (Nat.le_of_ble_eq_true rfl) (Nat.le_of_ble_eq_true rfl) (Nat.le_of_ble_eq_true rfl) (Nat.le_of_ble_eq_true rfl) dX12_layMarket_82 rfl ?_
            replace hf := zb1_s hf
            obtain ⟨m27, h28, hf⟩ := hf
            refine zr_iast h28 dX12_layMarket_85 ?_
            refine zr_aload_n 0 dX12_layMarket_86 rfl ?_
            refine zr_dup dX12_layMarket_87 rfl ?_
            replace hf := zb1_s hf
            obtain ⟨v29, h30, hf⟩ := hf
            refine zr_get (zm_gI_g h30) zk12 (by decide) zl_1160 dX12_layMarket_88 ?_
            refine zr_iconst 1 dX12_layMarket_91 (by decide) ?_
            refine zr_iadd dX12_layMarket_92 ?_
            replace hf := zb1_s hf
            obtain ⟨m31, h32, hf⟩ := hf
            refine zr_put h32 zk12 (by decide) zl_1160 rfl rfl rfl dX12_layMarket_93 ?_
            cases hf
            exact zr_lv [0, 1] rfl hj20
        clear hf
        have hf := hg
        clear hg
        refine zr_if_eq 58 dX12_layMarket_26 (by decide) (fun hc => ?_) (fun hc => ?_)
        · rw [if_pos hc] at hf
          cases hf
          exact zr_lv [0, 1] rfl hj16
        · rw [if_neg hc] at hf
          refine zr_aload_n 0 dX12_layMarket_29 rfl ?_
          replace hf := zb1_s hf
          obtain ⟨v33, h34, hf⟩ := hf
          refine zr_get (zm_gR_g h34) zk12 (by decide) zl_880 dX12_layMarket_30 ?_
          refine zr_aload_n 0 dX12_layMarket_33 rfl ?_
          refine zr_iload_n 1 dX12_layMarket_34 rfl ?_
          refine zr_iconst 1 dX12_layMarket_35 (by decide) ?_
          replace hf := zb1_s hf
          obtain ⟨v36, h35, hf⟩ := hf
          refine zr_callV (ci := 12) [.int x1_5, .int 1] (cX12_rankOf_ok h35) zvs_X12_rankOf zl_1163 zl_1164 (fX12_rankOf_ck h35) rfl rfl zl_1162 rfl (Nat.le_of_ble_eq_true rfl) (Nat.le_of_ble_eq_true rfl) (Nat.le_of_ble_eq_true rfl) (Nat.le_of_ble_eq_true rfl) dX12_layMarket_36 rfl ?_
          refine zr_aload_n 0 dX12_layMarket_39 rfl ?_
          refine zr_bipush 39 dX12_layMarket_40 (by decide) ?_
          refine zr_iload_n 1 dX12_layMarket_42 rfl ?_
          refine zr_iadd dX12_layMarket_43 ?_
          replace hf := zb1_s hf
          obtain ⟨v38, h37, hf⟩ := hf
          refine zr_callV (ci := 12) [.int (39 + x1_5)] (cX12_of_ok h37) zvs_X12_of zl_1029 zl_1030 (fX12_of_ck h37) rfl rfl zl_1028 rfl (Nat.le_of_ble_eq_true rfl) (Nat.le_of_ble_eq_true rfl) (Nat.le_of_ble_eq_true rfl) (Nat.le_of_ble_eq_true rfl) dX12_layMarket_44 rfl ?_
          replace hf := zb1_s hf
          obtain ⟨m39, h40, hf⟩ := hf
          refine zr_iast h40 dX12_layMarket_47 ?_
          refine zr_aload_n 0 dX12_layMarket_48 rfl ?_
          refine zr_dup dX12_layMarket_49 rfl ?_
          replace hf := zb1_s hf
          obtain ⟨v41, h42, hf⟩ := hf
          refine zr_get (zm_gI_g h42) zk12 (by decide) zl_1159 dX12_layMarket_50 ?_
          refine zr_iconst 1 dX12_layMarket_53 (by decide) ?_
          refine zr_iadd dX12_layMarket_54 ?_
          replace hf := zb1_s hf
          obtain ⟨m43, h44, hf⟩ := hf
          refine zr_put h44 zk12 (by decide) zl_1159 rfl rfl rfl dX12_layMarket_55 ?_
          cases hf
          exact zr_lv [0, 1] rfl hj16
  exact zr_lv [1, 0] rfl (hL45 _ 0 m3 hf)
theorem zl_1165 : Cond.code yX12_lesser cX12_lesser 2 (some .int) ∈ zt := zt_at 1821 (by decide +kernel)
theorem zvs_X12_lesser : zvS yX12_lesser cX12_lesser 2 (some .int) 2 := ⟨zl_1165, zl_893, ⟨by decide +kernel, by decide +kernel, by decide +kernel⟩, by decide⟩
theorem zl_1166 : Cond.methodLink RX12 404 yX12_lesser ∈ zt := zt_at 1819 (by decide +kernel)
theorem zl_1167 : Cond.static yX12_lesser ∈ zt := zt_at 1820 (by decide +kernel)
theorem dX12_clears_0 : decode cX12_clears 0 = .ok (.iconst 0, 1) := by decide +kernel
theorem dX12_clears_1 : decode cX12_clears 1 = .ok (.istore_n 2, 1) := by decide +kernel
theorem dX12_clears_2 : decode cX12_clears 2 = .ok (.iconst 0, 1) := by decide +kernel
theorem dX12_clears_3 : decode cX12_clears 3 = .ok (.istore_n 3, 1) := by decide +kernel
theorem dX12_clears_4 : decode cX12_clears 4 = .ok (.iconst 0, 1) := by decide +kernel
theorem dX12_clears_5 : decode cX12_clears 5 = .ok (.istore 4, 2) := by decide +kernel
theorem dX12_clears_7 : decode cX12_clears 7 = .ok (.iconst 0, 1) := by decide +kernel
theorem dX12_clears_8 : decode cX12_clears 8 = .ok (.istore 5, 2) := by decide +kernel
theorem dX12_clears_10 : decode cX12_clears 10 = .ok (.iconst 0, 1) := by decide +kernel
theorem dX12_clears_11 : decode cX12_clears 11 = .ok (.istore 6, 2) := by decide +kernel
theorem dX12_clears_13 : decode cX12_clears 13 = .ok (.iload 6, 2) := by decide +kernel
theorem dX12_clears_15 : decode cX12_clears 15 = .ok (.aload_n 0, 1) := by decide +kernel
theorem dX12_clears_16 : decode cX12_clears 16 = .ok (.getfield 394, 3) := by decide +kernel
theorem dX12_clears_19 : decode cX12_clears 19 = .ok (.if_icmp .ge 47, 3) := by decide +kernel
theorem dX12_clears_22 : decode cX12_clears 22 = .ok (.iload_n 2, 1) := by decide +kernel
theorem dX12_clears_23 : decode cX12_clears 23 = .ok (.aload_n 0, 1) := by decide +kernel
theorem dX12_clears_24 : decode cX12_clears 24 = .ok (.getfield 59, 3) := by decide +kernel
theorem dX12_clears_27 : decode cX12_clears 27 = .ok (.iload 6, 2) := by decide +kernel
theorem dX12_clears_29 : decode cX12_clears 29 = .ok (.iaload, 1) := by decide +kernel
theorem dX12_clears_30 : decode cX12_clears 30 = .ok (.iload_n 1, 1) := by decide +kernel
theorem dX12_clears_31 : decode cX12_clears 31 = .ok (.if_icmp .ge 7, 3) := by decide +kernel
theorem dX12_clears_34 : decode cX12_clears 34 = .ok (.iconst 1, 1) := by decide +kernel
theorem dX12_clears_35 : decode cX12_clears 35 = .ok (.goto 4, 3) := by decide +kernel
theorem dX12_clears_38 : decode cX12_clears 38 = .ok (.iconst 0, 1) := by decide +kernel
theorem dX12_clears_39 : decode cX12_clears 39 = .ok (.iadd, 1) := by decide +kernel
theorem dX12_clears_40 : decode cX12_clears 40 = .ok (.istore_n 2, 1) := by decide +kernel
theorem dX12_clears_41 : decode cX12_clears 41 = .ok (.iload_n 3, 1) := by decide +kernel
theorem dX12_clears_42 : decode cX12_clears 42 = .ok (.aload_n 0, 1) := by decide +kernel
theorem dX12_clears_43 : decode cX12_clears 43 = .ok (.getfield 59, 3) := by decide +kernel
theorem dX12_clears_46 : decode cX12_clears 46 = .ok (.iload 6, 2) := by decide +kernel
theorem dX12_clears_48 : decode cX12_clears 48 = .ok (.iaload, 1) := by decide +kernel
theorem dX12_clears_49 : decode cX12_clears 49 = .ok (.iload_n 1, 1) := by decide +kernel
theorem dX12_clears_50 : decode cX12_clears 50 = .ok (.if_icmp .gt 7, 3) := by decide +kernel
theorem dX12_clears_53 : decode cX12_clears 53 = .ok (.iconst 1, 1) := by decide +kernel
theorem dX12_clears_54 : decode cX12_clears 54 = .ok (.goto 4, 3) := by decide +kernel
theorem dX12_clears_57 : decode cX12_clears 57 = .ok (.iconst 0, 1) := by decide +kernel
theorem dX12_clears_58 : decode cX12_clears 58 = .ok (.iadd, 1) := by decide +kernel
theorem dX12_clears_59 : decode cX12_clears 59 = .ok (.istore_n 3, 1) := by decide +kernel
theorem dX12_clears_60 : decode cX12_clears 60 = .ok (.iinc 6 1, 3) := by decide +kernel
theorem dX12_clears_63 : decode cX12_clears 63 = .ok (.goto (-50), 3) := by decide +kernel
theorem dX12_clears_66 : decode cX12_clears 66 = .ok (.iconst 0, 1) := by decide +kernel
theorem dX12_clears_67 : decode cX12_clears 67 = .ok (.istore 6, 2) := by decide +kernel
theorem dX12_clears_69 : decode cX12_clears 69 = .ok (.iload 6, 2) := by decide +kernel
theorem dX12_clears_71 : decode cX12_clears 71 = .ok (.aload_n 0, 1) := by decide +kernel
theorem dX12_clears_72 : decode cX12_clears 72 = .ok (.getfield 397, 3) := by decide +kernel
theorem dX12_clears_75 : decode cX12_clears 75 = .ok (.if_icmp .ge 51, 3) := by decide +kernel
theorem dX12_clears_78 : decode cX12_clears 78 = .ok (.iload 4, 2) := by decide +kernel
theorem dX12_clears_80 : decode cX12_clears 80 = .ok (.aload_n 0, 1) := by decide +kernel
theorem dX12_clears_81 : decode cX12_clears 81 = .ok (.getfield 62, 3) := by decide +kernel
theorem dX12_clears_84 : decode cX12_clears 84 = .ok (.iload 6, 2) := by decide +kernel
theorem dX12_clears_86 : decode cX12_clears 86 = .ok (.iaload, 1) := by decide +kernel
theorem dX12_clears_87 : decode cX12_clears 87 = .ok (.iload_n 1, 1) := by decide +kernel
theorem dX12_clears_88 : decode cX12_clears 88 = .ok (.if_icmp .le 7, 3) := by decide +kernel
theorem dX12_clears_91 : decode cX12_clears 91 = .ok (.iconst 1, 1) := by decide +kernel
theorem dX12_clears_92 : decode cX12_clears 92 = .ok (.goto 4, 3) := by decide +kernel
theorem dX12_clears_95 : decode cX12_clears 95 = .ok (.iconst 0, 1) := by decide +kernel
theorem dX12_clears_96 : decode cX12_clears 96 = .ok (.iadd, 1) := by decide +kernel
theorem dX12_clears_97 : decode cX12_clears 97 = .ok (.istore 4, 2) := by decide +kernel
theorem dX12_clears_99 : decode cX12_clears 99 = .ok (.iload 5, 2) := by decide +kernel
theorem dX12_clears_101 : decode cX12_clears 101 = .ok (.aload_n 0, 1) := by decide +kernel
theorem dX12_clears_102 : decode cX12_clears 102 = .ok (.getfield 62, 3) := by decide +kernel
theorem dX12_clears_105 : decode cX12_clears 105 = .ok (.iload 6, 2) := by decide +kernel
theorem dX12_clears_107 : decode cX12_clears 107 = .ok (.iaload, 1) := by decide +kernel
theorem dX12_clears_108 : decode cX12_clears 108 = .ok (.iload_n 1, 1) := by decide +kernel
theorem dX12_clears_109 : decode cX12_clears 109 = .ok (.if_icmp .lt 7, 3) := by decide +kernel
theorem dX12_clears_112 : decode cX12_clears 112 = .ok (.iconst 1, 1) := by decide +kernel
theorem dX12_clears_113 : decode cX12_clears 113 = .ok (.goto 4, 3) := by decide +kernel
theorem dX12_clears_116 : decode cX12_clears 116 = .ok (.iconst 0, 1) := by decide +kernel
theorem dX12_clears_117 : decode cX12_clears 117 = .ok (.iadd, 1) := by decide +kernel
theorem dX12_clears_118 : decode cX12_clears 118 = .ok (.istore 5, 2) := by decide +kernel
theorem dX12_clears_120 : decode cX12_clears 120 = .ok (.iinc 6 1, 3) := by decide +kernel
theorem dX12_clears_123 : decode cX12_clears 123 = .ok (.goto (-54), 3) := by decide +kernel
theorem dX12_clears_126 : decode cX12_clears 126 = .ok (.iload_n 2, 1) := by decide +kernel
theorem dX12_clears_127 : decode cX12_clears 127 = .ok (.iload 4, 2) := by decide +kernel
theorem dX12_clears_129 : decode cX12_clears 129 = .ok (.invokestatic 168, 3) := by decide +kernel
theorem dX12_clears_132 : decode cX12_clears 132 = .ok (.iload_n 3, 1) := by decide +kernel
theorem dX12_clears_133 : decode cX12_clears 133 = .ok (.iload 5, 2) := by decide +kernel
theorem dX12_clears_135 : decode cX12_clears 135 = .ok (.invokestatic 404, 3) := by decide +kernel
theorem dX12_clears_138 : decode cX12_clears 138 = .ok (.if_icmp .gt 7, 3) := by decide +kernel
theorem dX12_clears_141 : decode cX12_clears 141 = .ok (.iconst 1, 1) := by decide +kernel
theorem dX12_clears_142 : decode cX12_clears 142 = .ok (.goto 4, 3) := by decide +kernel
theorem dX12_clears_145 : decode cX12_clears 145 = .ok (.iconst 0, 1) := by decide +kernel
theorem dX12_clears_146 : decode cX12_clears 146 = .ok (.ireturn, 1) := by decide +kernel
noncomputable def fX12_clears_l13 (μ : zM) (x0 : Nat) (x1 : Int32) (F4 : Int32 → Int32 → Int32 → Option (Int32 × Int32)) (x2_1 : Int32) (x3_2 : Int32) (x6_3 : Int32) : Option (Int32 × Int32) :=
  zb1 (zm_gI μ 12 x0 39) fun v9 =>
  if v9 ≤ x6_3 then (
  some (x2_1, x3_2))
  else (
  zb1 (zm_gR μ 12 x0 37) fun v11 =>
  zb1 (zm_aI μ 0 v11 x6_3) fun v13 =>
  zb1 (if x1 ≤ v13 then (
  some 0)
  else (
  some 1) : Option (Int32)) fun (s15 : Int32) =>
  zb1 (zm_gR μ 12 x0 37) fun v17 =>
  zb1 (zm_aI μ 0 v17 x6_3) fun v19 =>
  zb1 (if x1 < v19 then (
  some 0)
  else (
  some 1) : Option (Int32)) fun (s21 : Int32) =>
  F4 (x2_1 + s15) (x3_2 + s21) (x6_3 + 1))
noncomputable def fX12_clears_l69 (μ : zM) (x0 : Nat) (x1 : Int32) (F27 : Int32 → Int32 → Int32 → Option (Int32 × Int32)) (x4_24 : Int32) (x5_25 : Int32) (x6_26 : Int32) : Option (Int32 × Int32) :=
  zb1 (zm_gI μ 12 x0 40) fun v32 =>
  if v32 ≤ x6_26 then (
  some (x4_24, x5_25))
  else (
  zb1 (zm_gR μ 12 x0 38) fun v34 =>
  zb1 (zm_aI μ 0 v34 x6_26) fun v36 =>
  zb1 (if v36 ≤ x1 then (
  some 0)
  else (
  some 1) : Option (Int32)) fun (s38 : Int32) =>
  zb1 (zm_gR μ 12 x0 38) fun v40 =>
  zb1 (zm_aI μ 0 v40 x6_26) fun v42 =>
  zb1 (if v42 < x1 then (
  some 0)
  else (
  some 1) : Option (Int32)) fun (s44 : Int32) =>
  F27 (x4_24 + s38) (x5_25 + s44) (x6_26 + 1))
noncomputable def fX12_clears (μ : zM) (x0 : Nat) (x1 : Int32) : Option (Int32) := zgd (zm_ck μ 12 x0) <|
  zb2 (zf3 (fX12_clears_l13 μ x0 x1) zfu 0 0 0 : Option (Int32 × Int32)) fun (x2_6 : Int32) (x3_7 : Int32) =>
  zb2 (zf3 (fX12_clears_l69 μ x0 x1) zfu 0 0 0 : Option (Int32 × Int32)) fun (x4_29 : Int32) (x5_30 : Int32) =>
  zb1 (fX12_greater μ x2_6 x4_29) fun v48 =>
  zb1 (fX12_lesser μ x3_7 x5_30) fun v50 =>
  zb1 (if v50 < v48 then (
  some 0)
  else (
  some 1) : Option (Int32)) fun (s51 : Int32) =>
  zb1 (zbz s51) fun v53 =>
  some v53
theorem fX12_clears_ck {μ : zM} {x0 : Nat} {x1 : Int32} {z : Int32} (h : fX12_clears μ x0 x1 = some z) : zm_ck μ 12 x0 = true := (zgd_s h).1
set_option maxHeartbeats 4000000 in
set_option maxRecDepth 100000 in
theorem cX12_clears_ok {μ : zM} {x0 : Nat} {x1 : Int32} {r : Int32} (hf : fX12_clears μ x0 x1 = some r) : zC yX12_clears cX12_clears 7 (some .boolean) 1 0 0 [.ref x0, .int x1] μ (some (.int r)) μ := by
  replace hf := (zgd_s hf).2
  refine zC.of (by decide) (Nat.le_of_ble_eq_true rfl) (fun K hin => ?_)
  clear hin
  show zz K cX12_clears (7, RX12, some .boolean, 1, 0, 0, some (.int r), μ) 0 0 0 [(0, .ref x0), (1, .int x1)] [] μ
  refine zr_iconst 0 dX12_clears_0 (by decide) ?_
  refine zr_istore_n [(2, .int 0), (0, .ref x0), (1, .int x1)] dX12_clears_1 (Nat.le_of_ble_eq_true rfl) rfl ?_
  refine zr_iconst 0 dX12_clears_2 (by decide) ?_
  refine zr_istore_n [(3, .int 0), (2, .int 0), (0, .ref x0), (1, .int x1)] dX12_clears_3 (Nat.le_of_ble_eq_true rfl) rfl ?_
  refine zr_iconst 0 dX12_clears_4 (by decide) ?_
  refine zr_istore [(4, .int 0), (3, .int 0), (2, .int 0), (0, .ref x0), (1, .int x1)] dX12_clears_5 (Nat.le_of_ble_eq_true rfl) rfl ?_
  refine zr_iconst 0 dX12_clears_7 (by decide) ?_
  refine zr_istore [(5, .int 0), (4, .int 0), (3, .int 0), (2, .int 0), (0, .ref x0), (1, .int x1)] dX12_clears_8 (Nat.le_of_ble_eq_true rfl) rfl ?_
  refine zr_iconst 0 dX12_clears_10 (by decide) ?_
  refine zr_istore [(6, .int 0), (5, .int 0), (4, .int 0), (3, .int 0), (2, .int 0), (0, .ref x0), (1, .int x1)] dX12_clears_11 (Nat.le_of_ble_eq_true rfl) rfl ?_
  replace hf := zb2_s hf
  obtain ⟨x2_6, x3_7, hg, hf⟩ := hf
  have hj8 : zz K cX12_clears (7, RX12, some .boolean, 1, 0, 0, some (.int r), μ) 0 0 66 [(0, .ref x0), (1, .int x1), (2, .int x2_6), (3, .int x3_7), (4, .int 0), (5, .int 0)] [] μ := by
    refine zr_iconst 0 dX12_clears_66 (by decide) ?_
    refine zr_istore [(6, .int 0), (0, .ref x0), (1, .int x1), (2, .int x2_6), (3, .int x3_7), (4, .int 0), (5, .int 0)] dX12_clears_67 (Nat.le_of_ble_eq_true rfl) rfl ?_
    replace hf := zb2_s hf
    obtain ⟨x4_29, x5_30, hg, hf⟩ := hf
    have hj31 : zz K cX12_clears (7, RX12, some .boolean, 1, 0, 0, some (.int r), μ) 0 0 126 [(2, .int x2_6), (3, .int x3_7), (4, .int x4_29), (5, .int x5_30)] [] μ := by
      refine zr_iload_n 0 dX12_clears_126 rfl ?_
      refine zr_iload 2 dX12_clears_127 rfl ?_
      replace hf := zb1_s hf
      obtain ⟨v48, h47, hf⟩ := hf
      refine zr_callS [.int x2_6, .int x4_29] (cX12_greater_ok h47) zvs_X12_greater zl_940 zl_939 rfl (Nat.le_of_ble_eq_true rfl) (Nat.le_of_ble_eq_true rfl) (Nat.le_of_ble_eq_true rfl) (Nat.le_of_ble_eq_true rfl) dX12_clears_129 rfl ?_
      refine zr_iload_n 1 dX12_clears_132 rfl ?_
      refine zr_iload 3 dX12_clears_133 rfl ?_
      replace hf := zb1_s hf
      obtain ⟨v50, h49, hf⟩ := hf
      refine zr_callS [.int x3_7, .int x5_30] (cX12_lesser_ok h49) zvs_X12_lesser zl_1167 zl_1166 rfl (Nat.le_of_ble_eq_true rfl) (Nat.le_of_ble_eq_true rfl) (Nat.le_of_ble_eq_true rfl) (Nat.le_of_ble_eq_true rfl) dX12_clears_135 rfl ?_
      replace hf := zb1_s hf
      obtain ⟨s51, hg, hf⟩ := hf
      have hj52 : zz K cX12_clears (7, RX12, some .boolean, 1, 0, 0, some (.int r), μ) 0 0 146 [] [.int s51] μ := by
        replace hf := zb1_s hf
        obtain ⟨v53, hn54, hf⟩ := hf
        replace hn54 := zbz_s hn54
        obtain ⟨hn54, rfl⟩ := hn54
        cases hf
        exact zr_zret hn54 dX12_clears_146
      clear hf
      have hf := hg
      clear hg
      refine zr_icmp_gt 145 dX12_clears_138 (by decide) (fun hc => ?_) (fun hc => ?_)
      · rw [if_pos hc] at hf
        refine zr_iconst 0 dX12_clears_145 (by decide) ?_
        cases hf
        exact zr_lv [] rfl hj52
      · rw [if_neg hc] at hf
        refine zr_iconst 1 dX12_clears_141 (by decide) ?_
        refine zr_goto 146 dX12_clears_142 (by decide) ?_
        cases hf
        exact zr_lv [] rfl hj52
    clear hf
    have hf := hg
    clear hg
    have hL46 : ∀ (n : Nat) (x4_24 : Int32) (x5_25 : Int32) (x6_26 : Int32), zf3 (fX12_clears_l69 μ x0 x1) n x4_24 x5_25 x6_26 = some (x4_29, x5_30) → zz K cX12_clears (7, RX12, some .boolean, 1, 0, 0, some (.int r), μ) 0 0 69 [(0, .ref x0), (1, .int x1), (2, .int x2_6), (3, .int x3_7), (4, .int x4_24), (5, .int x5_25), (6, .int x6_26)] [] μ := by
      intro n
      induction n with
      | zero => intro x4_24 x5_25 x6_26 hf; cases hf
      | succ n ih28 =>
        intro x4_24 x5_25 x6_26 hf
        replace hf := zf3_s hf
        generalize zf3 (fX12_clears_l69 μ x0 x1) n = F27 at hf ih28
        unfold fX12_clears_l69 at hf
        refine zr_iload 6 dX12_clears_69 rfl ?_
        refine zr_aload_n 0 dX12_clears_71 rfl ?_
        replace hf := zb1_s hf
        obtain ⟨v32, h33, hf⟩ := hf
        refine zr_get (zm_gI_g h33) zk12 (by decide) zl_1160 dX12_clears_72 ?_
        refine zr_icmp_ge 126 dX12_clears_75 (by decide) (fun hc => ?_) (fun hc => ?_)
        · rw [if_pos hc] at hf
          cases hf
          exact zr_lv [2, 3, 4, 5] rfl hj31
        · rw [if_neg hc] at hf
          refine zr_iload 4 dX12_clears_78 rfl ?_
          refine zr_aload_n 0 dX12_clears_80 rfl ?_
          replace hf := zb1_s hf
          obtain ⟨v34, h35, hf⟩ := hf
          refine zr_get (zm_gR_g h35) zk12 (by decide) zl_881 dX12_clears_81 ?_
          refine zr_iload 6 dX12_clears_84 rfl ?_
          replace hf := zb1_s hf
          obtain ⟨v36, h37, hf⟩ := hf
          refine zr_iald h37 dX12_clears_86 ?_
          refine zr_iload_n 1 dX12_clears_87 rfl ?_
          replace hf := zb1_s hf
          obtain ⟨s38, hg, hf⟩ := hf
          have hj39 : zz K cX12_clears (7, RX12, some .boolean, 1, 0, 0, some (.int r), μ) 0 0 96 [(0, .ref x0), (1, .int x1), (2, .int x2_6), (3, .int x3_7), (5, .int x5_25), (6, .int x6_26)] [.int s38, .int x4_24] μ := by
            refine zr_iadd dX12_clears_96 ?_
            refine zr_istore [(4, .int (x4_24 + s38)), (0, .ref x0), (1, .int x1), (2, .int x2_6), (3, .int x3_7), (5, .int x5_25), (6, .int x6_26)] dX12_clears_97 (Nat.le_of_ble_eq_true rfl) rfl ?_
            refine zr_iload 5 dX12_clears_99 rfl ?_
            refine zr_aload_n 1 dX12_clears_101 rfl ?_
            replace hf := zb1_s hf
            obtain ⟨v40, h41, hf⟩ := hf
            refine zr_get (zm_gR_g h41) zk12 (by decide) zl_881 dX12_clears_102 ?_
            refine zr_iload 6 dX12_clears_105 rfl ?_
            replace hf := zb1_s hf
            obtain ⟨v42, h43, hf⟩ := hf
            refine zr_iald h43 dX12_clears_107 ?_
            refine zr_iload_n 2 dX12_clears_108 rfl ?_
            replace hf := zb1_s hf
            obtain ⟨s44, hg, hf⟩ := hf
            have hj45 : zz K cX12_clears (7, RX12, some .boolean, 1, 0, 0, some (.int r), μ) 0 0 117 [(0, .ref x0), (1, .int x1), (2, .int x2_6), (3, .int x3_7), (4, .int (x4_24 + s38)), (6, .int x6_26)] [.int s44, .int x5_25] μ := by
              refine zr_iadd dX12_clears_117 ?_
              refine zr_istore [(5, .int (x5_25 + s44)), (0, .ref x0), (1, .int x1), (2, .int x2_6), (3, .int x3_7), (4, .int (x4_24 + s38)), (6, .int x6_26)] dX12_clears_118 (Nat.le_of_ble_eq_true rfl) rfl ?_
              refine zr_iinc (j := 6) (x6_26 + 1) [(6, .int (x6_26 + 1)), (5, .int (x5_25 + s44)), (0, .ref x0), (1, .int x1), (2, .int x2_6), (3, .int x3_7), (4, .int (x4_24 + s38))] dX12_clears_120 rfl rfl (Nat.le_of_ble_eq_true rfl) rfl ?_
              refine zr_goto 69 dX12_clears_123 (by decide) ?_
              exact zr_lv [2, 3, 4, 5, 6, 1, 0] rfl (ih28 (x4_24 + s38) (x5_25 + s44) (x6_26 + 1) hf)
            clear hf
            have hf := hg
            clear hg
            refine zr_icmp_lt 116 dX12_clears_109 (by decide) (fun hc => ?_) (fun hc => ?_)
            · rw [if_pos hc] at hf
              refine zr_iconst 0 dX12_clears_116 (by decide) ?_
              cases hf
              exact zr_lv [1, 2, 3, 4, 0, 6] rfl hj45
            · rw [if_neg hc] at hf
              refine zr_iconst 1 dX12_clears_112 (by decide) ?_
              refine zr_goto 117 dX12_clears_113 (by decide) ?_
              cases hf
              exact zr_lv [1, 2, 3, 4, 0, 6] rfl hj45
          clear hf
          have hf := hg
          clear hg
          refine zr_icmp_le 95 dX12_clears_88 (by decide) (fun hc => ?_) (fun hc => ?_)
          · rw [if_pos hc] at hf
            refine zr_iconst 0 dX12_clears_95 (by decide) ?_
            cases hf
            exact zr_lv [0, 1, 2, 3, 5, 6] rfl hj39
          · rw [if_neg hc] at hf
            refine zr_iconst 1 dX12_clears_91 (by decide) ?_
            refine zr_goto 96 dX12_clears_92 (by decide) ?_
            cases hf
            exact zr_lv [0, 1, 2, 3, 5, 6] rfl hj39
    exact zr_lv [1, 2, 3, 4, 5, 6, 0] rfl (hL46 _ 0 0 0 hf)
  clear hf
  have hf := hg
  clear hg
  have hL23 : ∀ (n : Nat) (x2_1 : Int32) (x3_2 : Int32) (x6_3 : Int32), zf3 (fX12_clears_l13 μ x0 x1) n x2_1 x3_2 x6_3 = some (x2_6, x3_7) → zz K cX12_clears (7, RX12, some .boolean, 1, 0, 0, some (.int r), μ) 0 0 13 [(0, .ref x0), (1, .int x1), (2, .int x2_1), (3, .int x3_2), (4, .int 0), (5, .int 0), (6, .int x6_3)] [] μ := by
    intro n
    induction n with
    | zero => intro x2_1 x3_2 x6_3 hf; cases hf
    | succ n ih5 =>
      intro x2_1 x3_2 x6_3 hf
      replace hf := zf3_s hf
      generalize zf3 (fX12_clears_l13 μ x0 x1) n = F4 at hf ih5
      unfold fX12_clears_l13 at hf
      refine zr_iload 6 dX12_clears_13 rfl ?_
      refine zr_aload_n 0 dX12_clears_15 rfl ?_
      replace hf := zb1_s hf
      obtain ⟨v9, h10, hf⟩ := hf
      refine zr_get (zm_gI_g h10) zk12 (by decide) zl_1159 dX12_clears_16 ?_
      refine zr_icmp_ge 66 dX12_clears_19 (by decide) (fun hc => ?_) (fun hc => ?_)
      · rw [if_pos hc] at hf
        cases hf
        exact zr_lv [0, 1, 2, 3, 4, 5] rfl hj8
      · rw [if_neg hc] at hf
        refine zr_iload_n 2 dX12_clears_22 rfl ?_
        refine zr_aload_n 0 dX12_clears_23 rfl ?_
        replace hf := zb1_s hf
        obtain ⟨v11, h12, hf⟩ := hf
        refine zr_get (zm_gR_g h12) zk12 (by decide) zl_880 dX12_clears_24 ?_
        refine zr_iload 6 dX12_clears_27 rfl ?_
        replace hf := zb1_s hf
        obtain ⟨v13, h14, hf⟩ := hf
        refine zr_iald h14 dX12_clears_29 ?_
        refine zr_iload_n 1 dX12_clears_30 rfl ?_
        replace hf := zb1_s hf
        obtain ⟨s15, hg, hf⟩ := hf
        have hj16 : zz K cX12_clears (7, RX12, some .boolean, 1, 0, 0, some (.int r), μ) 0 0 39 [(0, .ref x0), (1, .int x1), (3, .int x3_2), (4, .int 0), (5, .int 0), (6, .int x6_3)] [.int s15, .int x2_1] μ := by
          refine zr_iadd dX12_clears_39 ?_
          refine zr_istore_n [(2, .int (x2_1 + s15)), (0, .ref x0), (1, .int x1), (3, .int x3_2), (4, .int 0), (5, .int 0), (6, .int x6_3)] dX12_clears_40 (Nat.le_of_ble_eq_true rfl) rfl ?_
          refine zr_iload_n 3 dX12_clears_41 rfl ?_
          refine zr_aload_n 1 dX12_clears_42 rfl ?_
          replace hf := zb1_s hf
          obtain ⟨v17, h18, hf⟩ := hf
          refine zr_get (zm_gR_g h18) zk12 (by decide) zl_880 dX12_clears_43 ?_
          refine zr_iload 6 dX12_clears_46 rfl ?_
          replace hf := zb1_s hf
          obtain ⟨v19, h20, hf⟩ := hf
          refine zr_iald h20 dX12_clears_48 ?_
          refine zr_iload_n 2 dX12_clears_49 rfl ?_
          replace hf := zb1_s hf
          obtain ⟨s21, hg, hf⟩ := hf
          have hj22 : zz K cX12_clears (7, RX12, some .boolean, 1, 0, 0, some (.int r), μ) 0 0 58 [(0, .ref x0), (1, .int x1), (2, .int (x2_1 + s15)), (4, .int 0), (5, .int 0), (6, .int x6_3)] [.int s21, .int x3_2] μ := by
            refine zr_iadd dX12_clears_58 ?_
            refine zr_istore_n [(3, .int (x3_2 + s21)), (0, .ref x0), (1, .int x1), (2, .int (x2_1 + s15)), (4, .int 0), (5, .int 0), (6, .int x6_3)] dX12_clears_59 (Nat.le_of_ble_eq_true rfl) rfl ?_
            refine zr_iinc (j := 6) (x6_3 + 1) [(6, .int (x6_3 + 1)), (3, .int (x3_2 + s21)), (0, .ref x0), (1, .int x1), (2, .int (x2_1 + s15)), (4, .int 0), (5, .int 0)] dX12_clears_60 rfl rfl (Nat.le_of_ble_eq_true rfl) rfl ?_
            refine zr_goto 13 dX12_clears_63 (by decide) ?_
            exact zr_lv [2, 3, 4, 1, 5, 6, 0] rfl (ih5 (x2_1 + s15) (x3_2 + s21) (x6_3 + 1) hf)
          clear hf
          have hf := hg
          clear hg
          refine zr_icmp_gt 57 dX12_clears_50 (by decide) (fun hc => ?_) (fun hc => ?_)
          · rw [if_pos hc] at hf
            refine zr_iconst 0 dX12_clears_57 (by decide) ?_
            cases hf
            exact zr_lv [1, 2, 0, 4, 5, 6] rfl hj22
          · rw [if_neg hc] at hf
            refine zr_iconst 1 dX12_clears_53 (by decide) ?_
            refine zr_goto 58 dX12_clears_54 (by decide) ?_
            cases hf
            exact zr_lv [1, 2, 0, 4, 5, 6] rfl hj22
        clear hf
        have hf := hg
        clear hg
        refine zr_icmp_ge 38 dX12_clears_31 (by decide) (fun hc => ?_) (fun hc => ?_)
        · rw [if_pos hc] at hf
          refine zr_iconst 0 dX12_clears_38 (by decide) ?_
          cases hf
          exact zr_lv [0, 1, 3, 4, 5, 6] rfl hj16
        · rw [if_neg hc] at hf
          refine zr_iconst 1 dX12_clears_34 (by decide) ?_
          refine zr_goto 39 dX12_clears_35 (by decide) ?_
          cases hf
          exact zr_lv [0, 1, 3, 4, 5, 6] rfl hj16
  exact zr_lv [5, 6, 4, 3, 2, 1, 0] rfl (hL23 _ 0 0 0 hf)
theorem zl_1168 : Cond.code yX12_layMarket cX12_layMarket 2 (none) ∈ zt := zt_at 1806 (by decide +kernel)
theorem zvs_X12_layMarket : zvS yX12_layMarket cX12_layMarket 2 (none) 0 := ⟨zl_1168, zl_893, ⟨by decide +kernel, by decide +kernel, by decide +kernel⟩, by decide⟩
theorem zl_1169 : Cond.methodLink RX12 407 yX12_layMarket ∈ zt := zt_at 1803 (by decide +kernel)
theorem zl_1170 : Cond.instanceMethod yX12_layMarket ∈ zt := zt_at 1805 (by decide +kernel)
theorem zl_1171 : Cond.selects RX12 yX12_layMarket yX12_layMarket ∈ zt := zt_at 96 (by decide +kernel)
theorem zl_1172 : Cond.code yX12_clears cX12_clears 7 (some .boolean) ∈ zt := zt_at 1818 (by decide +kernel)
theorem zvs_X12_clears : zvS yX12_clears cX12_clears 7 (some .boolean) 1 := ⟨zl_1172, zl_893, ⟨by decide +kernel, by decide +kernel, by decide +kernel⟩, by decide⟩
theorem zl_1173 : Cond.methodLink RX12 410 yX12_clears ∈ zt := zt_at 1815 (by decide +kernel)
theorem zl_1174 : Cond.instanceMethod yX12_clears ∈ zt := zt_at 1817 (by decide +kernel)
theorem zl_1175 : Cond.selects RX12 yX12_clears yX12_clears ∈ zt := zt_at 99 (by decide +kernel)
theorem dX12_market_0 : decode cX12_market 0 = .ok (.aload_n 0, 1) := by decide +kernel
theorem dX12_market_1 : decode cX12_market 1 = .ok (.iconst 0, 1) := by decide +kernel
theorem dX12_market_2 : decode cX12_market 2 = .ok (.putfield 93, 3) := by decide +kernel
theorem dX12_market_5 : decode cX12_market 5 = .ok (.aload_n 0, 1) := by decide +kernel
theorem dX12_market_6 : decode cX12_market 6 = .ok (.iload_n 1, 1) := by decide +kernel
theorem dX12_market_7 : decode cX12_market 7 = .ok (.invokevirtual 298, 3) := by decide +kernel
theorem dX12_market_10 : decode cX12_market 10 = .ok (.ifCond .eq 12, 3) := by decide +kernel
theorem dX12_market_13 : decode cX12_market 13 = .ok (.iload_n 2, 1) := by decide +kernel
theorem dX12_market_14 : decode cX12_market 14 = .ok (.iconst 0, 1) := by decide +kernel
theorem dX12_market_15 : decode cX12_market 15 = .ok (.iconst 3, 1) := by decide +kernel
theorem dX12_market_16 : decode cX12_market 16 = .ok (.invokestatic 101, 3) := by decide +kernel
theorem dX12_market_19 : decode cX12_market 19 = .ok (.ifCond .ne 5, 3) := by decide +kernel
theorem dX12_market_22 : decode cX12_market 22 = .ok (.iconst (-1), 1) := by decide +kernel
theorem dX12_market_23 : decode cX12_market 23 = .ok (.ireturn, 1) := by decide +kernel
theorem dX12_market_24 : decode cX12_market 24 = .ok (.aload_n 0, 1) := by decide +kernel
theorem dX12_market_25 : decode cX12_market 25 = .ok (.invokevirtual 407, 3) := by decide +kernel
theorem dX12_market_28 : decode cX12_market 28 = .ok (.iconst 0, 1) := by decide +kernel
theorem dX12_market_29 : decode cX12_market 29 = .ok (.istore_n 3, 1) := by decide +kernel
theorem dX12_market_30 : decode cX12_market 30 = .ok (.iconst 0, 1) := by decide +kernel
theorem dX12_market_31 : decode cX12_market 31 = .ok (.istore 4, 2) := by decide +kernel
theorem dX12_market_33 : decode cX12_market 33 = .ok (.iload 4, 2) := by decide +kernel
theorem dX12_market_35 : decode cX12_market 35 = .ok (.aload_n 0, 1) := by decide +kernel
theorem dX12_market_36 : decode cX12_market 36 = .ok (.getfield 394, 3) := by decide +kernel
theorem dX12_market_39 : decode cX12_market 39 = .ok (.if_icmp .ge 53, 3) := by decide +kernel
theorem dX12_market_42 : decode cX12_market 42 = .ok (.iload 4, 2) := by decide +kernel
theorem dX12_market_44 : decode cX12_market 44 = .ok (.aload_n 0, 1) := by decide +kernel
theorem dX12_market_45 : decode cX12_market 45 = .ok (.getfield 397, 3) := by decide +kernel
theorem dX12_market_48 : decode cX12_market 48 = .ok (.if_icmp .ge 44, 3) := by decide +kernel
theorem dX12_market_51 : decode cX12_market 51 = .ok (.aload_n 0, 1) := by decide +kernel
theorem dX12_market_52 : decode cX12_market 52 = .ok (.getfield 62, 3) := by decide +kernel
theorem dX12_market_55 : decode cX12_market 55 = .ok (.iload 4, 2) := by decide +kernel
theorem dX12_market_57 : decode cX12_market 57 = .ok (.iaload, 1) := by decide +kernel
theorem dX12_market_58 : decode cX12_market 58 = .ok (.aload_n 0, 1) := by decide +kernel
theorem dX12_market_59 : decode cX12_market 59 = .ok (.getfield 59, 3) := by decide +kernel
theorem dX12_market_62 : decode cX12_market 62 = .ok (.iload 4, 2) := by decide +kernel
theorem dX12_market_64 : decode cX12_market 64 = .ok (.iaload, 1) := by decide +kernel
theorem dX12_market_65 : decode cX12_market 65 = .ok (.if_icmp .lt 27, 3) := by decide +kernel
theorem dX12_market_68 : decode cX12_market 68 = .ok (.iload_n 3, 1) := by decide +kernel
theorem dX12_market_69 : decode cX12_market 69 = .ok (.aload_n 0, 1) := by decide +kernel
theorem dX12_market_70 : decode cX12_market 70 = .ok (.getfield 62, 3) := by decide +kernel
theorem dX12_market_73 : decode cX12_market 73 = .ok (.iload 4, 2) := by decide +kernel
theorem dX12_market_75 : decode cX12_market 75 = .ok (.iaload, 1) := by decide +kernel
theorem dX12_market_76 : decode cX12_market 76 = .ok (.aload_n 0, 1) := by decide +kernel
theorem dX12_market_77 : decode cX12_market 77 = .ok (.getfield 59, 3) := by decide +kernel
theorem dX12_market_80 : decode cX12_market 80 = .ok (.iload 4, 2) := by decide +kernel
theorem dX12_market_82 : decode cX12_market 82 = .ok (.iaload, 1) := by decide +kernel
theorem dX12_market_83 : decode cX12_market 83 = .ok (.isub, 1) := by decide +kernel
theorem dX12_market_84 : decode cX12_market 84 = .ok (.iadd, 1) := by decide +kernel
theorem dX12_market_85 : decode cX12_market 85 = .ok (.istore_n 3, 1) := by decide +kernel
theorem dX12_market_86 : decode cX12_market 86 = .ok (.iinc 4 1, 3) := by decide +kernel
theorem dX12_market_89 : decode cX12_market 89 = .ok (.goto (-56), 3) := by decide +kernel
theorem dX12_market_92 : decode cX12_market 92 = .ok (.iconst (-1), 1) := by decide +kernel
theorem dX12_market_93 : decode cX12_market 93 = .ok (.istore 5, 2) := by decide +kernel
theorem dX12_market_95 : decode cX12_market 95 = .ok (.iconst (-1), 1) := by decide +kernel
theorem dX12_market_96 : decode cX12_market 96 = .ok (.istore 6, 2) := by decide +kernel
theorem dX12_market_98 : decode cX12_market 98 = .ok (.iconst 0, 1) := by decide +kernel
theorem dX12_market_99 : decode cX12_market 99 = .ok (.istore 7, 2) := by decide +kernel
theorem dX12_market_101 : decode cX12_market 101 = .ok (.iload 7, 2) := by decide +kernel
theorem dX12_market_103 : decode cX12_market 103 = .ok (.bipush 99, 2) := by decide +kernel
theorem dX12_market_105 : decode cX12_market 105 = .ok (.if_icmp .gt 51, 3) := by decide +kernel
theorem dX12_market_108 : decode cX12_market 108 = .ok (.aload_n 0, 1) := by decide +kernel
theorem dX12_market_109 : decode cX12_market 109 = .ok (.iload 7, 2) := by decide +kernel
theorem dX12_market_111 : decode cX12_market 111 = .ok (.invokevirtual 410, 3) := by decide +kernel
theorem dX12_market_114 : decode cX12_market 114 = .ok (.istore 8, 2) := by decide +kernel
theorem dX12_market_116 : decode cX12_market 116 = .ok (.iload 8, 2) := by decide +kernel
theorem dX12_market_118 : decode cX12_market 118 = .ok (.ifCond .eq 14, 3) := by decide +kernel
theorem dX12_market_121 : decode cX12_market 121 = .ok (.iload 5, 2) := by decide +kernel
theorem dX12_market_123 : decode cX12_market 123 = .ok (.iconst (-1), 1) := by decide +kernel
theorem dX12_market_124 : decode cX12_market 124 = .ok (.if_icmp .ne 8, 3) := by decide +kernel
theorem dX12_market_127 : decode cX12_market 127 = .ok (.iload 7, 2) := by decide +kernel
theorem dX12_market_129 : decode cX12_market 129 = .ok (.goto 5, 3) := by decide +kernel
theorem dX12_market_132 : decode cX12_market 132 = .ok (.iload 5, 2) := by decide +kernel
theorem dX12_market_134 : decode cX12_market 134 = .ok (.istore 5, 2) := by decide +kernel
theorem dX12_market_136 : decode cX12_market 136 = .ok (.iload 8, 2) := by decide +kernel
theorem dX12_market_138 : decode cX12_market 138 = .ok (.ifCond .eq 8, 3) := by decide +kernel
theorem dX12_market_141 : decode cX12_market 141 = .ok (.iload 7, 2) := by decide +kernel
theorem dX12_market_143 : decode cX12_market 143 = .ok (.goto 5, 3) := by decide +kernel
theorem dX12_market_146 : decode cX12_market 146 = .ok (.iload 6, 2) := by decide +kernel
theorem dX12_market_148 : decode cX12_market 148 = .ok (.istore 6, 2) := by decide +kernel
theorem dX12_market_150 : decode cX12_market 150 = .ok (.iinc 7 1, 3) := by decide +kernel
theorem dX12_market_153 : decode cX12_market 153 = .ok (.goto (-52), 3) := by decide +kernel
theorem dX12_market_156 : decode cX12_market 156 = .ok (.iload_n 2, 1) := by decide +kernel
theorem dX12_market_157 : decode cX12_market 157 = .ok (.ifCond .ne 7, 3) := by decide +kernel
theorem dX12_market_160 : decode cX12_market 160 = .ok (.iload_n 3, 1) := by decide +kernel
theorem dX12_market_161 : decode cX12_market 161 = .ok (.goto 25, 3) := by decide +kernel
theorem dX12_market_164 : decode cX12_market 164 = .ok (.iload_n 2, 1) := by decide +kernel
theorem dX12_market_165 : decode cX12_market 165 = .ok (.iconst 1, 1) := by decide +kernel
theorem dX12_market_166 : decode cX12_market 166 = .ok (.if_icmp .ne 8, 3) := by decide +kernel
theorem dX12_market_169 : decode cX12_market 169 = .ok (.iload 4, 2) := by decide +kernel
theorem dX12_market_171 : decode cX12_market 171 = .ok (.goto 15, 3) := by decide +kernel
theorem dX12_market_174 : decode cX12_market 174 = .ok (.iload_n 2, 1) := by decide +kernel
theorem dX12_market_175 : decode cX12_market 175 = .ok (.iconst 2, 1) := by decide +kernel
theorem dX12_market_176 : decode cX12_market 176 = .ok (.if_icmp .ne 8, 3) := by decide +kernel
theorem dX12_market_179 : decode cX12_market 179 = .ok (.iload 5, 2) := by decide +kernel
theorem dX12_market_181 : decode cX12_market 181 = .ok (.goto 5, 3) := by decide +kernel
theorem dX12_market_184 : decode cX12_market 184 = .ok (.iload 6, 2) := by decide +kernel
theorem dX12_market_186 : decode cX12_market 186 = .ok (.ireturn, 1) := by decide +kernel
noncomputable def fX12_market_l33 (m9 : zM) (x0 : Nat) (F12 : Int32 → Int32 → Option (Int32 × Int32)) (x3_10 : Int32) (x4_11 : Int32) : Option (Int32 × Int32) :=
  zb1 (zm_gI m9 12 x0 39) fun v17 =>
  if v17 ≤ x4_11 then (
  some (x3_10, x4_11))
  else (
  zb1 (zm_gI m9 12 x0 40) fun v19 =>
  if v19 ≤ x4_11 then (
  some (x3_10, x4_11))
  else (
  zb1 (zm_gR m9 12 x0 38) fun v21 =>
  zb1 (zm_aI m9 0 v21 x4_11) fun v23 =>
  zb1 (zm_gR m9 12 x0 37) fun v25 =>
  zb1 (zm_aI m9 0 v25 x4_11) fun v27 =>
  if v23 < v27 then (
  some (x3_10, x4_11))
  else (
  zb1 (zm_gR m9 12 x0 38) fun v29 =>
  zb1 (zm_aI m9 0 v29 x4_11) fun v31 =>
  zb1 (zm_gR m9 12 x0 37) fun v33 =>
  zb1 (zm_aI m9 0 v33 x4_11) fun v35 =>
  F12 (x3_10 + (v31 - v35)) (x4_11 + 1))))
noncomputable def fX12_market_b132 (x5_38 : Int32) : Option (Int32) :=
  some x5_38
noncomputable def fX12_market_l101 (m9 : zM) (x0 : Nat) (F41 : Int32 → Int32 → Int32 → Option (Int32 × Int32)) (x5_38 : Int32) (x6_39 : Int32) (x7_40 : Int32) : Option (Int32 × Int32) :=
  if 99 < x7_40 then (
  some (x5_38, x6_39))
  else (
  zb1 (fX12_clears m9 x0 x7_40) fun v47 =>
  zb1 (if v47 = 0 then (
  fX12_market_b132 x5_38)
  else (
  if x5_38 = (-1) then (
  some x7_40)
  else (
  fX12_market_b132 x5_38)) : Option (Int32)) fun (s48 : Int32) =>
  zb1 (if v47 = 0 then (
  some x6_39)
  else (
  some x7_40) : Option (Int32)) fun (s51 : Int32) =>
  F41 s48 s51 (x7_40 + 1))
noncomputable def fX12_market (μ : zM) (x0 : Nat) (x1 : Int32) (x2 : Int32) : Option (Int32 × zM) := zgd (zm_ck μ 12 x0) <|
  zb1 (zm_p μ 12 x0 0 (.int 0)) fun m1 =>
  zb2 (fX12_hand m1 x0 x1) fun v5 m4 =>
  if v5 = 0 then (
  some ((-1), m4))
  else (
  zb1 (fX12_in m4 x2 0 3) fun v7 =>
  if v7 = 0 then (
  some ((-1), m4))
  else (
  zb1 (fX12_layMarket m4 x0) fun m9 =>
  zb2 (zf2 (fX12_market_l33 m9 x0) zfu 0 0 : Option (Int32 × Int32)) fun (x3_14 : Int32) (x4_15 : Int32) =>
  zb2 (zf3 (fX12_market_l101 m9 x0) zfu (-1) (-1) 0 : Option (Int32 × Int32)) fun (x5_43 : Int32) (x6_44 : Int32) =>
  zb1 (if x2 = 0 then (
  some x3_14)
  else (
  if x2 = 1 then (
  some x4_15)
  else (
  if x2 = 2 then (
  some x5_43)
  else (
  some x6_44))) : Option (Int32)) fun (s54 : Int32) =>
  some (s54, m9)))
theorem fX12_market_ck {μ : zM} {x0 : Nat} {x1 : Int32} {x2 : Int32} {z : Int32 × zM} (h : fX12_market μ x0 x1 x2 = some z) : zm_ck μ 12 x0 = true := (zgd_s h).1
set_option maxHeartbeats 4000000 in
set_option maxRecDepth 100000 in
theorem cX12_market_ok {μ : zM} {x0 : Nat} {x1 : Int32} {x2 : Int32} {r : Int32} {mo : zM} (hf : fX12_market μ x0 x1 x2 = some (r, mo)) : zC yX12_market cX12_market 9 (some .int) 5 0 0 [.ref x0, .int x1, .int x2] μ (some (.int r)) mo := by
  replace hf := (zgd_s hf).2
  refine zC.of (by decide) (Nat.le_of_ble_eq_true rfl) (fun K hin => ?_)
  clear hin
  show zz K cX12_market (9, RX12, some .int, 5, 0, 0, some (.int r), mo) 0 0 0 [(0, .ref x0), (1, .int x1), (2, .int x2)] [] μ
  refine zr_aload_n 0 dX12_market_0 rfl ?_
  refine zr_iconst 0 dX12_market_1 (by decide) ?_
  replace hf := zb1_s hf
  obtain ⟨m1, h2, hf⟩ := hf
  refine zr_put h2 zk12 (by decide) zl_899 rfl rfl rfl dX12_market_2 ?_
  refine zr_aload_n 0 dX12_market_5 rfl ?_
  refine zr_iload_n 1 dX12_market_6 rfl ?_
  replace hf := zb2_s hf
  obtain ⟨v5, m4, h3, hf⟩ := hf
  refine zr_callV (ci := 12) [.int x1] (cX12_hand_ok h3) zvs_X12_hand zl_1057 zl_1058 (fX12_hand_ck h3) rfl rfl zl_1056 rfl (Nat.le_of_ble_eq_true rfl) (Nat.le_of_ble_eq_true rfl) (Nat.le_of_ble_eq_true rfl) (Nat.le_of_ble_eq_true rfl) dX12_market_7 rfl ?_
  refine zr_if_eq 22 dX12_market_10 (by decide) (fun hc => ?_) (fun hc => ?_)
  · rw [if_pos hc] at hf
    refine zr_iconst (-1) dX12_market_22 (by decide) ?_
    cases hf
    exact zr_iret dX12_market_23
  · rw [if_neg hc] at hf
    refine zr_iload_n 2 dX12_market_13 rfl ?_
    refine zr_iconst 0 dX12_market_14 (by decide) ?_
    refine zr_iconst 3 dX12_market_15 (by decide) ?_
    replace hf := zb1_s hf
    obtain ⟨v7, h6, hf⟩ := hf
    refine zr_callS [.int x2, .int 0, .int 3] (cX12_in_ok h6) zvs_X12_in zl_898 zl_897 rfl (Nat.le_of_ble_eq_true rfl) (Nat.le_of_ble_eq_true rfl) (Nat.le_of_ble_eq_true rfl) (Nat.le_of_ble_eq_true rfl) dX12_market_16 rfl ?_
    refine zr_if_ne 24 dX12_market_19 (by decide) (fun hc => ?_) (fun hc => ?_)
    · rw [if_neg hc] at hf
      refine zr_aload_n 0 dX12_market_24 rfl ?_
      replace hf := zb1_s hf
      obtain ⟨m9, h8, hf⟩ := hf
      refine zr_callV (ci := 12) [] (cX12_layMarket_ok h8) zvs_X12_layMarket zl_1170 zl_1171 (fX12_layMarket_ck h8) rfl rfl zl_1169 rfl (Nat.le_of_ble_eq_true rfl) (Nat.le_of_ble_eq_true rfl) (Nat.le_of_ble_eq_true rfl) (Nat.le_of_ble_eq_true rfl) dX12_market_25 rfl ?_
      refine zr_iconst 0 dX12_market_28 (by decide) ?_
      refine zr_istore_n [(3, .int 0), (0, .ref x0), (1, .int x1), (2, .int x2)] dX12_market_29 (Nat.le_of_ble_eq_true rfl) rfl ?_
      refine zr_iconst 0 dX12_market_30 (by decide) ?_
      refine zr_istore [(4, .int 0), (3, .int 0), (0, .ref x0), (1, .int x1), (2, .int x2)] dX12_market_31 (Nat.le_of_ble_eq_true rfl) rfl ?_
      replace hf := zb2_s hf
      obtain ⟨x3_14, x4_15, hg, hf⟩ := hf
      have hj16 : zz K cX12_market (9, RX12, some .int, 5, 0, 0, some (.int r), mo) 0 0 92 [(0, .ref x0), (2, .int x2), (3, .int x3_14), (4, .int x4_15)] [] m9 := by
        refine zr_iconst (-1) dX12_market_92 (by decide) ?_
        refine zr_istore [(5, .int (-1)), (0, .ref x0), (2, .int x2), (3, .int x3_14), (4, .int x4_15)] dX12_market_93 (Nat.le_of_ble_eq_true rfl) rfl ?_
        refine zr_iconst (-1) dX12_market_95 (by decide) ?_
        refine zr_istore [(6, .int (-1)), (5, .int (-1)), (0, .ref x0), (2, .int x2), (3, .int x3_14), (4, .int x4_15)] dX12_market_96 (Nat.le_of_ble_eq_true rfl) rfl ?_
        refine zr_iconst 0 dX12_market_98 (by decide) ?_
        refine zr_istore [(7, .int 0), (6, .int (-1)), (5, .int (-1)), (0, .ref x0), (2, .int x2), (3, .int x3_14), (4, .int x4_15)] dX12_market_99 (Nat.le_of_ble_eq_true rfl) rfl ?_
        replace hf := zb2_s hf
        obtain ⟨x5_43, x6_44, hg, hf⟩ := hf
        have hj45 : zz K cX12_market (9, RX12, some .int, 5, 0, 0, some (.int r), mo) 0 0 156 [(2, .int x2), (3, .int x3_14), (4, .int x4_15), (5, .int x5_43), (6, .int x6_44)] [] m9 := by
          refine zr_iload_n 0 dX12_market_156 rfl ?_
          replace hf := zb1_s hf
          obtain ⟨s54, hg, hf⟩ := hf
          have hj55 : zz K cX12_market (9, RX12, some .int, 5, 0, 0, some (.int r), mo) 0 0 186 [] [.int s54] m9 := by
            cases hf
            exact zr_iret dX12_market_186
          clear hf
          have hf := hg
          clear hg
          refine zr_if_ne 164 dX12_market_157 (by decide) (fun hc => ?_) (fun hc => ?_)
          · rw [if_neg hc] at hf
            refine zr_iload_n 0 dX12_market_164 rfl ?_
            refine zr_iconst 1 dX12_market_165 (by decide) ?_
            refine zr_icmp_ne 174 dX12_market_166 (by decide) (fun hc => ?_) (fun hc => ?_)
            · rw [if_neg hc] at hf
              refine zr_iload_n 0 dX12_market_174 rfl ?_
              refine zr_iconst 2 dX12_market_175 (by decide) ?_
              refine zr_icmp_ne 184 dX12_market_176 (by decide) (fun hc => ?_) (fun hc => ?_)
              · rw [if_neg hc] at hf
                refine zr_iload 4 dX12_market_184 rfl ?_
                cases hf
                exact zr_lv [] rfl hj55
              · rw [if_pos hc] at hf
                refine zr_iload 3 dX12_market_179 rfl ?_
                refine zr_goto 186 dX12_market_181 (by decide) ?_
                cases hf
                exact zr_lv [] rfl hj55
            · rw [if_pos hc] at hf
              refine zr_iload 2 dX12_market_169 rfl ?_
              refine zr_goto 186 dX12_market_171 (by decide) ?_
              cases hf
              exact zr_lv [] rfl hj55
          · rw [if_pos hc] at hf
            refine zr_iload_n 1 dX12_market_160 rfl ?_
            refine zr_goto 186 dX12_market_161 (by decide) ?_
            cases hf
            exact zr_lv [] rfl hj55
        clear hf
        have hf := hg
        clear hg
        have hL53 : ∀ (n : Nat) (x5_38 : Int32) (x6_39 : Int32) (x7_40 : Int32), zf3 (fX12_market_l101 m9 x0) n x5_38 x6_39 x7_40 = some (x5_43, x6_44) → zz K cX12_market (9, RX12, some .int, 5, 0, 0, some (.int r), mo) 0 0 101 [(0, .ref x0), (2, .int x2), (3, .int x3_14), (4, .int x4_15), (5, .int x5_38), (6, .int x6_39), (7, .int x7_40)] [] m9 := by
          intro n
          induction n with
          | zero => intro x5_38 x6_39 x7_40 hf; cases hf
          | succ n ih42 =>
            intro x5_38 x6_39 x7_40 hf
            replace hf := zf3_s hf
            generalize zf3 (fX12_market_l101 m9 x0) n = F41 at hf ih42
            unfold fX12_market_l101 at hf
            refine zr_iload 6 dX12_market_101 rfl ?_
            refine zr_bipush 99 dX12_market_103 (by decide) ?_
            refine zr_icmp_gt 156 dX12_market_105 (by decide) (fun hc => ?_) (fun hc => ?_)
            · rw [if_pos hc] at hf
              cases hf
              exact zr_lv [1, 2, 3, 4, 5] rfl hj45
            · rw [if_neg hc] at hf
              refine zr_aload_n 0 dX12_market_108 rfl ?_
              refine zr_iload 6 dX12_market_109 rfl ?_
              replace hf := zb1_s hf
              obtain ⟨v47, h46, hf⟩ := hf
              refine zr_callV (ci := 12) [.int x7_40] (cX12_clears_ok h46) zvs_X12_clears zl_1174 zl_1175 (fX12_clears_ck h46) rfl rfl zl_1173 rfl (Nat.le_of_ble_eq_true rfl) (Nat.le_of_ble_eq_true rfl) (Nat.le_of_ble_eq_true rfl) (Nat.le_of_ble_eq_true rfl) dX12_market_111 rfl ?_
              refine zr_istore [(8, .int v47), (0, .ref x0), (2, .int x2), (3, .int x3_14), (4, .int x4_15), (5, .int x5_38), (6, .int x6_39), (7, .int x7_40)] dX12_market_114 (Nat.le_of_ble_eq_true rfl) rfl ?_
              refine zr_iload 0 dX12_market_116 rfl ?_
              replace hf := zb1_s hf
              obtain ⟨s48, hg, hf⟩ := hf
              have hj49 : zz K cX12_market (9, RX12, some .int, 5, 0, 0, some (.int r), mo) 0 0 134 [(0, .ref x0), (2, .int x2), (3, .int x3_14), (4, .int x4_15), (6, .int x6_39), (7, .int x7_40), (8, .int v47)] [.int s48] m9 := by
                refine zr_istore [(5, .int s48), (0, .ref x0), (2, .int x2), (3, .int x3_14), (4, .int x4_15), (6, .int x6_39), (7, .int x7_40), (8, .int v47)] dX12_market_134 (Nat.le_of_ble_eq_true rfl) rfl ?_
                refine zr_iload 7 dX12_market_136 rfl ?_
                replace hf := zb1_s hf
                obtain ⟨s51, hg, hf⟩ := hf
                have hj52 : zz K cX12_market (9, RX12, some .int, 5, 0, 0, some (.int r), mo) 0 0 148 [(0, .ref x0), (2, .int x2), (3, .int x3_14), (4, .int x4_15), (5, .int s48), (7, .int x7_40)] [.int s51] m9 := by
                  refine zr_istore [(6, .int s51), (0, .ref x0), (2, .int x2), (3, .int x3_14), (4, .int x4_15), (5, .int s48), (7, .int x7_40)] dX12_market_148 (Nat.le_of_ble_eq_true rfl) rfl ?_
                  refine zr_iinc (j := 6) (x7_40 + 1) [(7, .int (x7_40 + 1)), (6, .int s51), (0, .ref x0), (2, .int x2), (3, .int x3_14), (4, .int x4_15), (5, .int s48)] dX12_market_150 rfl rfl (Nat.le_of_ble_eq_true rfl) rfl ?_
                  refine zr_goto 101 dX12_market_153 (by decide) ?_
                  exact zr_lv [2, 3, 4, 5, 6, 1, 0] rfl (ih42 s48 s51 (x7_40 + 1) hf)
                clear hf
                have hf := hg
                clear hg
                refine zr_if_eq 146 dX12_market_138 (by decide) (fun hc => ?_) (fun hc => ?_)
                · rw [if_pos hc] at hf
                  refine zr_iload 5 dX12_market_146 rfl ?_
                  cases hf
                  exact zr_lv [1, 2, 3, 4, 0, 6] rfl hj52
                · rw [if_neg hc] at hf
                  refine zr_iload 6 dX12_market_141 rfl ?_
                  refine zr_goto 148 dX12_market_143 (by decide) ?_
                  cases hf
                  exact zr_lv [1, 2, 3, 4, 0, 6] rfl hj52
              clear hf
              have hf := hg
              clear hg
              have hb50 : ∀ (_ : Unit), fX12_market_b132 x5_38 = some s48 → zz K cX12_market (9, RX12, some .int, 5, 0, 0, some (.int r), mo) 0 0 132 [(0, .ref x0), (2, .int x2), (3, .int x3_14), (4, .int x4_15), (5, .int x5_38), (6, .int x6_39), (7, .int x7_40), (8, .int v47)] [] m9 := by
                intro _ hf
                unfold fX12_market_b132 at hf
                refine zr_iload 4 dX12_market_132 rfl ?_
                cases hf
                exact zr_lv [0, 1, 2, 3, 5, 6, 7] rfl hj49
              refine zr_if_eq 132 dX12_market_118 (by decide) (fun hc => ?_) (fun hc => ?_)
              · rw [if_pos hc] at hf
                exact zr_lv [1, 2, 3, 4, 5, 6, 7, 0] rfl (hb50 () hf)
              · rw [if_neg hc] at hf
                refine zr_iload 5 dX12_market_121 rfl ?_
                refine zr_iconst (-1) dX12_market_123 (by decide) ?_
                refine zr_icmp_ne 132 dX12_market_124 (by decide) (fun hc => ?_) (fun hc => ?_)
                · rw [if_neg hc] at hf
                  exact zr_lv [1, 2, 3, 4, 5, 6, 7, 0] rfl (hb50 () hf)
                · rw [if_pos hc] at hf
                  refine zr_iload 7 dX12_market_127 rfl ?_
                  refine zr_goto 134 dX12_market_129 (by decide) ?_
                  cases hf
                  exact zr_lv [1, 2, 3, 4, 6, 7, 0] rfl hj49
        exact zr_lv [3, 4, 5, 6, 2, 1, 0] rfl (hL53 _ (-1) (-1) 0 hf)
      clear hf
      have hf := hg
      clear hg
      have hL37 : ∀ (n : Nat) (x3_10 : Int32) (x4_11 : Int32), zf2 (fX12_market_l33 m9 x0) n x3_10 x4_11 = some (x3_14, x4_15) → zz K cX12_market (9, RX12, some .int, 5, 0, 0, some (.int r), mo) 0 0 33 [(0, .ref x0), (2, .int x2), (3, .int x3_10), (4, .int x4_11)] [] m9 := by
        intro n
        induction n with
        | zero => intro x3_10 x4_11 hf; cases hf
        | succ n ih13 =>
          intro x3_10 x4_11 hf
          replace hf := zf2_s hf
          generalize zf2 (fX12_market_l33 m9 x0) n = F12 at hf ih13
          unfold fX12_market_l33 at hf
          refine zr_iload 3 dX12_market_33 rfl ?_
          refine zr_aload_n 0 dX12_market_35 rfl ?_
          replace hf := zb1_s hf
          obtain ⟨v17, h18, hf⟩ := hf
          refine zr_get (zm_gI_g h18) zk12 (by decide) zl_1159 dX12_market_36 ?_
          refine zr_icmp_ge 92 dX12_market_39 (by decide) (fun hc => ?_) (fun hc => ?_)
          · rw [if_pos hc] at hf
            cases hf
            exact zr_lv [0, 1, 2, 3] rfl hj16
          · rw [if_neg hc] at hf
            refine zr_iload 3 dX12_market_42 rfl ?_
            refine zr_aload_n 0 dX12_market_44 rfl ?_
            replace hf := zb1_s hf
            obtain ⟨v19, h20, hf⟩ := hf
            refine zr_get (zm_gI_g h20) zk12 (by decide) zl_1160 dX12_market_45 ?_
            refine zr_icmp_ge 92 dX12_market_48 (by decide) (fun hc => ?_) (fun hc => ?_)
            · rw [if_pos hc] at hf
              cases hf
              exact zr_lv [0, 1, 2, 3] rfl hj16
            · rw [if_neg hc] at hf
              refine zr_aload_n 0 dX12_market_51 rfl ?_
              replace hf := zb1_s hf
              obtain ⟨v21, h22, hf⟩ := hf
              refine zr_get (zm_gR_g h22) zk12 (by decide) zl_881 dX12_market_52 ?_
              refine zr_iload 3 dX12_market_55 rfl ?_
              replace hf := zb1_s hf
              obtain ⟨v23, h24, hf⟩ := hf
              refine zr_iald h24 dX12_market_57 ?_
              refine zr_aload_n 0 dX12_market_58 rfl ?_
              replace hf := zb1_s hf
              obtain ⟨v25, h26, hf⟩ := hf
              refine zr_get (zm_gR_g h26) zk12 (by decide) zl_880 dX12_market_59 ?_
              refine zr_iload 3 dX12_market_62 rfl ?_
              replace hf := zb1_s hf
              obtain ⟨v27, h28, hf⟩ := hf
              refine zr_iald h28 dX12_market_64 ?_
              refine zr_icmp_lt 92 dX12_market_65 (by decide) (fun hc => ?_) (fun hc => ?_)
              · rw [if_pos hc] at hf
                cases hf
                exact zr_lv [0, 1, 2, 3] rfl hj16
              · rw [if_neg hc] at hf
                refine zr_iload_n 2 dX12_market_68 rfl ?_
                refine zr_aload_n 0 dX12_market_69 rfl ?_
                replace hf := zb1_s hf
                obtain ⟨v29, h30, hf⟩ := hf
                refine zr_get (zm_gR_g h30) zk12 (by decide) zl_881 dX12_market_70 ?_
                refine zr_iload 3 dX12_market_73 rfl ?_
                replace hf := zb1_s hf
                obtain ⟨v31, h32, hf⟩ := hf
                refine zr_iald h32 dX12_market_75 ?_
                refine zr_aload_n 0 dX12_market_76 rfl ?_
                replace hf := zb1_s hf
                obtain ⟨v33, h34, hf⟩ := hf
                refine zr_get (zm_gR_g h34) zk12 (by decide) zl_880 dX12_market_77 ?_
                refine zr_iload 3 dX12_market_80 rfl ?_
                replace hf := zb1_s hf
                obtain ⟨v35, h36, hf⟩ := hf
                refine zr_iald h36 dX12_market_82 ?_
                refine zr_isub dX12_market_83 ?_
                refine zr_iadd dX12_market_84 ?_
                refine zr_istore_n [(3, .int (x3_10 + (v31 - v35))), (0, .ref x0), (2, .int x2), (4, .int x4_11)] dX12_market_85 (Nat.le_of_ble_eq_true rfl) rfl ?_
                refine zr_iinc (j := 3) (x4_11 + 1) [(4, .int (x4_11 + 1)), (3, .int (x3_10 + (v31 - v35))), (0, .ref x0), (2, .int x2)] dX12_market_86 rfl rfl (Nat.le_of_ble_eq_true rfl) rfl ?_
                refine zr_goto 33 dX12_market_89 (by decide) ?_
                exact zr_lv [2, 3, 1, 0] rfl (ih13 (x3_10 + (v31 - v35)) (x4_11 + 1) hf)
      exact zr_lv [2, 4, 1, 0] rfl (hL37 _ 0 0 hf)
    · rw [if_pos hc] at hf
      refine zr_iconst (-1) dX12_market_22 (by decide) ?_
      cases hf
      exact zr_iret dX12_market_23
theorem dX12_soldFor_0 : decode cX12_soldFor 0 = .ok (.iload_n 1, 1) := by decide +kernel
theorem dX12_soldFor_1 : decode cX12_soldFor 1 = .ok (.iload_n 0, 1) := by decide +kernel
theorem dX12_soldFor_2 : decode cX12_soldFor 2 = .ok (.if_icmp .ge 7, 3) := by decide +kernel
theorem dX12_soldFor_5 : decode cX12_soldFor 5 = .ok (.iconst 0, 1) := by decide +kernel
theorem dX12_soldFor_6 : decode cX12_soldFor 6 = .ok (.goto 10, 3) := by decide +kernel
theorem dX12_soldFor_9 : decode cX12_soldFor 9 = .ok (.iload_n 0, 1) := by decide +kernel
theorem dX12_soldFor_10 : decode cX12_soldFor 10 = .ok (.iload_n 1, 1) := by decide +kernel
theorem dX12_soldFor_11 : decode cX12_soldFor 11 = .ok (.iadd, 1) := by decide +kernel
theorem dX12_soldFor_12 : decode cX12_soldFor 12 = .ok (.iconst 2, 1) := by decide +kernel
theorem dX12_soldFor_13 : decode cX12_soldFor 13 = .ok (.idiv, 1) := by decide +kernel
theorem dX12_soldFor_14 : decode cX12_soldFor 14 = .ok (.iload_n 2, 1) := by decide +kernel
theorem dX12_soldFor_15 : decode cX12_soldFor 15 = .ok (.isub, 1) := by decide +kernel
theorem dX12_soldFor_16 : decode cX12_soldFor 16 = .ok (.ireturn, 1) := by decide +kernel
noncomputable def fX12_soldFor (μ : zM) (x0 : Int32) (x1 : Int32) (x2 : Int32) : Option (Int32) :=
  zb1 (if x0 ≤ x1 then (
  some (((x0 + x1) / 2) - x2))
  else (
  some 0) : Option (Int32)) fun (s1 : Int32) =>
  some s1
set_option maxHeartbeats 4000000 in
set_option maxRecDepth 100000 in
theorem cX12_soldFor_ok {μ : zM} {x0 : Int32} {x1 : Int32} {x2 : Int32} {r : Int32} (hf : fX12_soldFor μ x0 x1 x2 = some r) : zC yX12_soldFor cX12_soldFor 3 (some .int) 0 0 0 [.int x0, .int x1, .int x2] μ (some (.int r)) μ := by
  unfold fX12_soldFor at hf
  refine zC.of (by decide) (Nat.le_of_ble_eq_true rfl) (fun K hin => ?_)
  clear hin
  show zz K cX12_soldFor (3, RX12, some .int, 0, 0, 0, some (.int r), μ) 0 0 0 [(0, .int x0), (1, .int x1), (2, .int x2)] [] μ
  refine zr_iload_n 1 dX12_soldFor_0 rfl ?_
  refine zr_iload_n 0 dX12_soldFor_1 rfl ?_
  replace hf := zb1_s hf
  obtain ⟨s1, hg, hf⟩ := hf
  have hj2 : zz K cX12_soldFor (3, RX12, some .int, 0, 0, 0, some (.int r), μ) 0 0 16 [] [.int s1] μ := by
    cases hf
    exact zr_iret dX12_soldFor_16
  clear hf
  have hf := hg
  clear hg
  refine zr_icmp_ge 9 dX12_soldFor_2 (by decide) (fun hc => ?_) (fun hc => ?_)
  · rw [if_pos hc] at hf
    refine zr_iload_n 0 dX12_soldFor_9 rfl ?_
    refine zr_iload_n 1 dX12_soldFor_10 rfl ?_
    refine zr_iadd dX12_soldFor_11 ?_
    refine zr_iconst 2 dX12_soldFor_12 (by decide) ?_
    refine zr_idiv dX12_soldFor_13 (by decide) ?_
    refine zr_iload_n 2 dX12_soldFor_14 rfl ?_
    refine zr_isub dX12_soldFor_15 ?_
    cases hf
    exact zr_lv [] rfl hj2
  · rw [if_neg hc] at hf
    refine zr_iconst 0 dX12_soldFor_5 (by decide) ?_
    refine zr_goto 16 dX12_soldFor_6 (by decide) ?_
    cases hf
    exact zr_lv [] rfl hj2
theorem dX12_boughtFor_0 : decode cX12_boughtFor 0 = .ok (.iload_n 1, 1) := by decide +kernel
theorem dX12_boughtFor_1 : decode cX12_boughtFor 1 = .ok (.iload_n 0, 1) := by decide +kernel
theorem dX12_boughtFor_2 : decode cX12_boughtFor 2 = .ok (.if_icmp .ge 7, 3) := by decide +kernel
theorem dX12_boughtFor_5 : decode cX12_boughtFor 5 = .ok (.iconst 0, 1) := by decide +kernel
theorem dX12_boughtFor_6 : decode cX12_boughtFor 6 = .ok (.goto 10, 3) := by decide +kernel
theorem dX12_boughtFor_9 : decode cX12_boughtFor 9 = .ok (.iload_n 2, 1) := by decide +kernel
theorem dX12_boughtFor_10 : decode cX12_boughtFor 10 = .ok (.iload_n 0, 1) := by decide +kernel
theorem dX12_boughtFor_11 : decode cX12_boughtFor 11 = .ok (.iload_n 1, 1) := by decide +kernel
theorem dX12_boughtFor_12 : decode cX12_boughtFor 12 = .ok (.iadd, 1) := by decide +kernel
theorem dX12_boughtFor_13 : decode cX12_boughtFor 13 = .ok (.iconst 2, 1) := by decide +kernel
theorem dX12_boughtFor_14 : decode cX12_boughtFor 14 = .ok (.idiv, 1) := by decide +kernel
theorem dX12_boughtFor_15 : decode cX12_boughtFor 15 = .ok (.isub, 1) := by decide +kernel
theorem dX12_boughtFor_16 : decode cX12_boughtFor 16 = .ok (.ireturn, 1) := by decide +kernel
noncomputable def fX12_boughtFor (μ : zM) (x0 : Int32) (x1 : Int32) (x2 : Int32) : Option (Int32) :=
  zb1 (if x0 ≤ x1 then (
  some (x2 - ((x0 + x1) / 2)))
  else (
  some 0) : Option (Int32)) fun (s1 : Int32) =>
  some s1
set_option maxHeartbeats 4000000 in
set_option maxRecDepth 100000 in
theorem cX12_boughtFor_ok {μ : zM} {x0 : Int32} {x1 : Int32} {x2 : Int32} {r : Int32} (hf : fX12_boughtFor μ x0 x1 x2 = some r) : zC yX12_boughtFor cX12_boughtFor 3 (some .int) 0 0 0 [.int x0, .int x1, .int x2] μ (some (.int r)) μ := by
  unfold fX12_boughtFor at hf
  refine zC.of (by decide) (Nat.le_of_ble_eq_true rfl) (fun K hin => ?_)
  clear hin
  show zz K cX12_boughtFor (3, RX12, some .int, 0, 0, 0, some (.int r), μ) 0 0 0 [(0, .int x0), (1, .int x1), (2, .int x2)] [] μ
  refine zr_iload_n 1 dX12_boughtFor_0 rfl ?_
  refine zr_iload_n 0 dX12_boughtFor_1 rfl ?_
  replace hf := zb1_s hf
  obtain ⟨s1, hg, hf⟩ := hf
  have hj2 : zz K cX12_boughtFor (3, RX12, some .int, 0, 0, 0, some (.int r), μ) 0 0 16 [] [.int s1] μ := by
    cases hf
    exact zr_iret dX12_boughtFor_16
  clear hf
  have hf := hg
  clear hg
  refine zr_icmp_ge 9 dX12_boughtFor_2 (by decide) (fun hc => ?_) (fun hc => ?_)
  · rw [if_pos hc] at hf
    refine zr_iload_n 2 dX12_boughtFor_9 rfl ?_
    refine zr_iload_n 0 dX12_boughtFor_10 rfl ?_
    refine zr_iload_n 1 dX12_boughtFor_11 rfl ?_
    refine zr_iadd dX12_boughtFor_12 ?_
    refine zr_iconst 2 dX12_boughtFor_13 (by decide) ?_
    refine zr_idiv dX12_boughtFor_14 (by decide) ?_
    refine zr_isub dX12_boughtFor_15 ?_
    cases hf
    exact zr_lv [] rfl hj2
  · rw [if_neg hc] at hf
    refine zr_iconst 0 dX12_boughtFor_5 (by decide) ?_
    refine zr_goto 16 dX12_boughtFor_6 (by decide) ?_
    cases hf
    exact zr_lv [] rfl hj2
theorem zl_1176 : Cond.constant RX12 413 (-1000000) ∈ zt := zt_at 1826 (by decide +kernel)
theorem zl_1177 : Cond.code yX12_soldFor cX12_soldFor 3 (some .int) ∈ zt := zt_at 1829 (by decide +kernel)
theorem zvs_X12_soldFor : zvS yX12_soldFor cX12_soldFor 3 (some .int) 3 := ⟨zl_1177, zl_893, ⟨by decide +kernel, by decide +kernel, by decide +kernel⟩, by decide⟩
theorem zl_1178 : Cond.methodLink RX12 414 yX12_soldFor ∈ zt := zt_at 1827 (by decide +kernel)
theorem zl_1179 : Cond.static yX12_soldFor ∈ zt := zt_at 1828 (by decide +kernel)
theorem zl_1180 : Cond.code yX12_boughtFor cX12_boughtFor 3 (some .int) ∈ zt := zt_at 1832 (by decide +kernel)
theorem zvs_X12_boughtFor : zvS yX12_boughtFor cX12_boughtFor 3 (some .int) 3 := ⟨zl_1180, zl_893, ⟨by decide +kernel, by decide +kernel, by decide +kernel⟩, by decide⟩
theorem zl_1181 : Cond.methodLink RX12 417 yX12_boughtFor ∈ zt := zt_at 1830 (by decide +kernel)
theorem zl_1182 : Cond.static yX12_boughtFor ∈ zt := zt_at 1831 (by decide +kernel)
theorem dX12_bargain_0 : decode cX12_bargain 0 = .ok (.aload_n 0, 1) := by decide +kernel
theorem dX12_bargain_1 : decode cX12_bargain 1 = .ok (.iconst 0, 1) := by decide +kernel
theorem dX12_bargain_2 : decode cX12_bargain 2 = .ok (.putfield 93, 3) := by decide +kernel
theorem dX12_bargain_5 : decode cX12_bargain 5 = .ok (.aload_n 0, 1) := by decide +kernel
theorem dX12_bargain_6 : decode cX12_bargain 6 = .ok (.iload_n 1, 1) := by decide +kernel
theorem dX12_bargain_7 : decode cX12_bargain 7 = .ok (.invokevirtual 298, 3) := by decide +kernel
theorem dX12_bargain_10 : decode cX12_bargain 10 = .ok (.ifCond .eq 21, 3) := by decide +kernel
theorem dX12_bargain_13 : decode cX12_bargain 13 = .ok (.aload_n 0, 1) := by decide +kernel
theorem dX12_bargain_14 : decode cX12_bargain 14 = .ok (.iload_n 2, 1) := by decide +kernel
theorem dX12_bargain_15 : decode cX12_bargain 15 = .ok (.iconst 0, 1) := by decide +kernel
theorem dX12_bargain_16 : decode cX12_bargain 16 = .ok (.invokevirtual 391, 3) := by decide +kernel
theorem dX12_bargain_19 : decode cX12_bargain 19 = .ok (.ifCond .eq 12, 3) := by decide +kernel
theorem dX12_bargain_22 : decode cX12_bargain 22 = .ok (.aload_n 0, 1) := by decide +kernel
theorem dX12_bargain_23 : decode cX12_bargain 23 = .ok (.iload_n 3, 1) := by decide +kernel
theorem dX12_bargain_24 : decode cX12_bargain 24 = .ok (.iconst 1, 1) := by decide +kernel
theorem dX12_bargain_25 : decode cX12_bargain 25 = .ok (.invokevirtual 391, 3) := by decide +kernel
theorem dX12_bargain_28 : decode cX12_bargain 28 = .ok (.ifCond .ne 5, 3) := by decide +kernel
theorem dX12_bargain_31 : decode cX12_bargain 31 = .ok (.iconst (-1), 1) := by decide +kernel
theorem dX12_bargain_32 : decode cX12_bargain 32 = .ok (.ireturn, 1) := by decide +kernel
theorem dX12_bargain_33 : decode cX12_bargain 33 = .ok (.aload_n 0, 1) := by decide +kernel
theorem dX12_bargain_34 : decode cX12_bargain 34 = .ok (.bipush 39, 2) := by decide +kernel
theorem dX12_bargain_36 : decode cX12_bargain 36 = .ok (.iload_n 2, 1) := by decide +kernel
theorem dX12_bargain_37 : decode cX12_bargain 37 = .ok (.iadd, 1) := by decide +kernel
theorem dX12_bargain_38 : decode cX12_bargain 38 = .ok (.invokevirtual 269, 3) := by decide +kernel
theorem dX12_bargain_41 : decode cX12_bargain 41 = .ok (.istore 5, 2) := by decide +kernel
theorem dX12_bargain_43 : decode cX12_bargain 43 = .ok (.aload_n 0, 1) := by decide +kernel
theorem dX12_bargain_44 : decode cX12_bargain 44 = .ok (.bipush 39, 2) := by decide +kernel
theorem dX12_bargain_46 : decode cX12_bargain 46 = .ok (.iload_n 3, 1) := by decide +kernel
theorem dX12_bargain_47 : decode cX12_bargain 47 = .ok (.iadd, 1) := by decide +kernel
theorem dX12_bargain_48 : decode cX12_bargain 48 = .ok (.invokevirtual 269, 3) := by decide +kernel
theorem dX12_bargain_51 : decode cX12_bargain 51 = .ok (.istore 6, 2) := by decide +kernel
theorem dX12_bargain_53 : decode cX12_bargain 53 = .ok (.iconst 0, 1) := by decide +kernel
theorem dX12_bargain_54 : decode cX12_bargain 54 = .ok (.istore 7, 2) := by decide +kernel
theorem dX12_bargain_56 : decode cX12_bargain 56 = .ok (.iload 7, 2) := by decide +kernel
theorem dX12_bargain_58 : decode cX12_bargain 58 = .ok (.bipush 99, 2) := by decide +kernel
theorem dX12_bargain_60 : decode cX12_bargain 60 = .ok (.if_icmp .gt 97, 3) := by decide +kernel
theorem dX12_bargain_63 : decode cX12_bargain 63 = .ok (.aload_n 0, 1) := by decide +kernel
theorem dX12_bargain_64 : decode cX12_bargain 64 = .ok (.getfield 65, 3) := by decide +kernel
theorem dX12_bargain_67 : decode cX12_bargain 67 = .ok (.iload 7, 2) := by decide +kernel
theorem dX12_bargain_69 : decode cX12_bargain 69 = .ok (.ldc_w 413, 3) := by decide +kernel
theorem dX12_bargain_72 : decode cX12_bargain 72 = .ok (.iastore, 1) := by decide +kernel
theorem dX12_bargain_73 : decode cX12_bargain 73 = .ok (.aload_n 0, 1) := by decide +kernel
theorem dX12_bargain_74 : decode cX12_bargain 74 = .ok (.getfield 68, 3) := by decide +kernel
theorem dX12_bargain_77 : decode cX12_bargain 77 = .ok (.iload 7, 2) := by decide +kernel
theorem dX12_bargain_79 : decode cX12_bargain 79 = .ok (.ldc_w 413, 3) := by decide +kernel
theorem dX12_bargain_82 : decode cX12_bargain 82 = .ok (.iastore, 1) := by decide +kernel
theorem dX12_bargain_83 : decode cX12_bargain 83 = .ok (.iconst 0, 1) := by decide +kernel
theorem dX12_bargain_84 : decode cX12_bargain 84 = .ok (.istore 8, 2) := by decide +kernel
theorem dX12_bargain_86 : decode cX12_bargain 86 = .ok (.iload 8, 2) := by decide +kernel
theorem dX12_bargain_88 : decode cX12_bargain 88 = .ok (.bipush 99, 2) := by decide +kernel
theorem dX12_bargain_90 : decode cX12_bargain 90 = .ok (.if_icmp .gt 61, 3) := by decide +kernel
theorem dX12_bargain_93 : decode cX12_bargain 93 = .ok (.aload_n 0, 1) := by decide +kernel
theorem dX12_bargain_94 : decode cX12_bargain 94 = .ok (.getfield 65, 3) := by decide +kernel
theorem dX12_bargain_97 : decode cX12_bargain 97 = .ok (.iload 7, 2) := by decide +kernel
theorem dX12_bargain_99 : decode cX12_bargain 99 = .ok (.aload_n 0, 1) := by decide +kernel
theorem dX12_bargain_100 : decode cX12_bargain 100 = .ok (.getfield 65, 3) := by decide +kernel
theorem dX12_bargain_103 : decode cX12_bargain 103 = .ok (.iload 7, 2) := by decide +kernel
theorem dX12_bargain_105 : decode cX12_bargain 105 = .ok (.iaload, 1) := by decide +kernel
theorem dX12_bargain_106 : decode cX12_bargain 106 = .ok (.iload 8, 2) := by decide +kernel
theorem dX12_bargain_108 : decode cX12_bargain 108 = .ok (.iload 7, 2) := by decide +kernel
theorem dX12_bargain_110 : decode cX12_bargain 110 = .ok (.iload 5, 2) := by decide +kernel
theorem dX12_bargain_112 : decode cX12_bargain 112 = .ok (.invokestatic 414, 3) := by decide +kernel
theorem dX12_bargain_115 : decode cX12_bargain 115 = .ok (.invokestatic 168, 3) := by decide +kernel
theorem dX12_bargain_118 : decode cX12_bargain 118 = .ok (.iastore, 1) := by decide +kernel
theorem dX12_bargain_119 : decode cX12_bargain 119 = .ok (.aload_n 0, 1) := by decide +kernel
theorem dX12_bargain_120 : decode cX12_bargain 120 = .ok (.getfield 68, 3) := by decide +kernel
theorem dX12_bargain_123 : decode cX12_bargain 123 = .ok (.iload 7, 2) := by decide +kernel
theorem dX12_bargain_125 : decode cX12_bargain 125 = .ok (.aload_n 0, 1) := by decide +kernel
theorem dX12_bargain_126 : decode cX12_bargain 126 = .ok (.getfield 68, 3) := by decide +kernel
theorem dX12_bargain_129 : decode cX12_bargain 129 = .ok (.iload 7, 2) := by decide +kernel
theorem dX12_bargain_131 : decode cX12_bargain 131 = .ok (.iaload, 1) := by decide +kernel
theorem dX12_bargain_132 : decode cX12_bargain 132 = .ok (.iload 7, 2) := by decide +kernel
theorem dX12_bargain_134 : decode cX12_bargain 134 = .ok (.iload 8, 2) := by decide +kernel
theorem dX12_bargain_136 : decode cX12_bargain 136 = .ok (.iload 6, 2) := by decide +kernel
theorem dX12_bargain_138 : decode cX12_bargain 138 = .ok (.invokestatic 417, 3) := by decide +kernel
theorem dX12_bargain_141 : decode cX12_bargain 141 = .ok (.invokestatic 168, 3) := by decide +kernel
theorem dX12_bargain_144 : decode cX12_bargain 144 = .ok (.iastore, 1) := by decide +kernel
theorem dX12_bargain_145 : decode cX12_bargain 145 = .ok (.iinc 8 1, 3) := by decide +kernel
theorem dX12_bargain_148 : decode cX12_bargain 148 = .ok (.goto (-62), 3) := by decide +kernel
theorem dX12_bargain_151 : decode cX12_bargain 151 = .ok (.iinc 7 1, 3) := by decide +kernel
theorem dX12_bargain_154 : decode cX12_bargain 154 = .ok (.goto (-98), 3) := by decide +kernel
theorem dX12_bargain_157 : decode cX12_bargain 157 = .ok (.iconst 0, 1) := by decide +kernel
theorem dX12_bargain_158 : decode cX12_bargain 158 = .ok (.istore 7, 2) := by decide +kernel
theorem dX12_bargain_160 : decode cX12_bargain 160 = .ok (.iconst 0, 1) := by decide +kernel
theorem dX12_bargain_161 : decode cX12_bargain 161 = .ok (.istore 8, 2) := by decide +kernel
theorem dX12_bargain_163 : decode cX12_bargain 163 = .ok (.iconst 0, 1) := by decide +kernel
theorem dX12_bargain_164 : decode cX12_bargain 164 = .ok (.istore 9, 2) := by decide +kernel
theorem dX12_bargain_166 : decode cX12_bargain 166 = .ok (.iload 9, 2) := by decide +kernel
theorem dX12_bargain_168 : decode cX12_bargain 168 = .ok (.bipush 99, 2) := by decide +kernel
theorem dX12_bargain_170 : decode cX12_bargain 170 = .ok (.if_icmp .gt 107, 3) := by decide +kernel
theorem dX12_bargain_173 : decode cX12_bargain 173 = .ok (.iconst 0, 1) := by decide +kernel
theorem dX12_bargain_174 : decode cX12_bargain 174 = .ok (.istore 10, 2) := by decide +kernel
theorem dX12_bargain_176 : decode cX12_bargain 176 = .ok (.iload 10, 2) := by decide +kernel
theorem dX12_bargain_178 : decode cX12_bargain 178 = .ok (.bipush 99, 2) := by decide +kernel
theorem dX12_bargain_180 : decode cX12_bargain 180 = .ok (.if_icmp .gt 91, 3) := by decide +kernel
theorem dX12_bargain_183 : decode cX12_bargain 183 = .ok (.iload 9, 2) := by decide +kernel
theorem dX12_bargain_185 : decode cX12_bargain 185 = .ok (.iload 10, 2) := by decide +kernel
theorem dX12_bargain_187 : decode cX12_bargain 187 = .ok (.iload 5, 2) := by decide +kernel
theorem dX12_bargain_189 : decode cX12_bargain 189 = .ok (.invokestatic 414, 3) := by decide +kernel
theorem dX12_bargain_192 : decode cX12_bargain 192 = .ok (.aload_n 0, 1) := by decide +kernel
theorem dX12_bargain_193 : decode cX12_bargain 193 = .ok (.getfield 65, 3) := by decide +kernel
theorem dX12_bargain_196 : decode cX12_bargain 196 = .ok (.iload 10, 2) := by decide +kernel
theorem dX12_bargain_198 : decode cX12_bargain 198 = .ok (.iaload, 1) := by decide +kernel
theorem dX12_bargain_199 : decode cX12_bargain 199 = .ok (.if_icmp .ne 26, 3) := by decide +kernel
theorem dX12_bargain_202 : decode cX12_bargain 202 = .ok (.iload 9, 2) := by decide +kernel
theorem dX12_bargain_204 : decode cX12_bargain 204 = .ok (.iload 10, 2) := by decide +kernel
theorem dX12_bargain_206 : decode cX12_bargain 206 = .ok (.iload 6, 2) := by decide +kernel
theorem dX12_bargain_208 : decode cX12_bargain 208 = .ok (.invokestatic 417, 3) := by decide +kernel
theorem dX12_bargain_211 : decode cX12_bargain 211 = .ok (.aload_n 0, 1) := by decide +kernel
theorem dX12_bargain_212 : decode cX12_bargain 212 = .ok (.getfield 68, 3) := by decide +kernel
theorem dX12_bargain_215 : decode cX12_bargain 215 = .ok (.iload 9, 2) := by decide +kernel
theorem dX12_bargain_217 : decode cX12_bargain 217 = .ok (.iaload, 1) := by decide +kernel
theorem dX12_bargain_218 : decode cX12_bargain 218 = .ok (.if_icmp .ne 7, 3) := by decide +kernel
theorem dX12_bargain_221 : decode cX12_bargain 221 = .ok (.iconst 1, 1) := by decide +kernel
theorem dX12_bargain_222 : decode cX12_bargain 222 = .ok (.goto 4, 3) := by decide +kernel
theorem dX12_bargain_225 : decode cX12_bargain 225 = .ok (.iconst 0, 1) := by decide +kernel
theorem dX12_bargain_226 : decode cX12_bargain 226 = .ok (.istore 11, 2) := by decide +kernel
theorem dX12_bargain_228 : decode cX12_bargain 228 = .ok (.iload 7, 2) := by decide +kernel
theorem dX12_bargain_230 : decode cX12_bargain 230 = .ok (.iload 11, 2) := by decide +kernel
theorem dX12_bargain_232 : decode cX12_bargain 232 = .ok (.ifCond .eq 7, 3) := by decide +kernel
theorem dX12_bargain_235 : decode cX12_bargain 235 = .ok (.iconst 1, 1) := by decide +kernel
theorem dX12_bargain_236 : decode cX12_bargain 236 = .ok (.goto 4, 3) := by decide +kernel
theorem dX12_bargain_239 : decode cX12_bargain 239 = .ok (.iconst 0, 1) := by decide +kernel
theorem dX12_bargain_240 : decode cX12_bargain 240 = .ok (.iadd, 1) := by decide +kernel
theorem dX12_bargain_241 : decode cX12_bargain 241 = .ok (.istore 7, 2) := by decide +kernel
theorem dX12_bargain_243 : decode cX12_bargain 243 = .ok (.iload 8, 2) := by decide +kernel
theorem dX12_bargain_245 : decode cX12_bargain 245 = .ok (.iload 11, 2) := by decide +kernel
theorem dX12_bargain_247 : decode cX12_bargain 247 = .ok (.ifCond .eq 14, 3) := by decide +kernel
theorem dX12_bargain_250 : decode cX12_bargain 250 = .ok (.iload 10, 2) := by decide +kernel
theorem dX12_bargain_252 : decode cX12_bargain 252 = .ok (.iload 9, 2) := by decide +kernel
theorem dX12_bargain_254 : decode cX12_bargain 254 = .ok (.if_icmp .lt 7, 3) := by decide +kernel
theorem dX12_bargain_257 : decode cX12_bargain 257 = .ok (.iconst 1, 1) := by decide +kernel
theorem dX12_bargain_258 : decode cX12_bargain 258 = .ok (.goto 4, 3) := by decide +kernel
theorem dX12_bargain_261 : decode cX12_bargain 261 = .ok (.iconst 0, 1) := by decide +kernel
theorem dX12_bargain_262 : decode cX12_bargain 262 = .ok (.iadd, 1) := by decide +kernel
theorem dX12_bargain_263 : decode cX12_bargain 263 = .ok (.istore 8, 2) := by decide +kernel
theorem dX12_bargain_265 : decode cX12_bargain 265 = .ok (.iinc 10 1, 3) := by decide +kernel
theorem dX12_bargain_268 : decode cX12_bargain 268 = .ok (.goto (-92), 3) := by decide +kernel
theorem dX12_bargain_271 : decode cX12_bargain 271 = .ok (.iinc 9 1, 3) := by decide +kernel
theorem dX12_bargain_274 : decode cX12_bargain 274 = .ok (.goto (-108), 3) := by decide +kernel
theorem dX12_bargain_277 : decode cX12_bargain 277 = .ok (.iload 4, 2) := by decide +kernel
theorem dX12_bargain_279 : decode cX12_bargain 279 = .ok (.ifCond .eq 8, 3) := by decide +kernel
theorem dX12_bargain_282 : decode cX12_bargain 282 = .ok (.iload 8, 2) := by decide +kernel
theorem dX12_bargain_284 : decode cX12_bargain 284 = .ok (.goto 5, 3) := by decide +kernel
theorem dX12_bargain_287 : decode cX12_bargain 287 = .ok (.iload 7, 2) := by decide +kernel
theorem dX12_bargain_289 : decode cX12_bargain 289 = .ok (.ireturn, 1) := by decide +kernel
noncomputable def fX12_bargain_l86 (x0 : Nat) (x7_14 : Int32) (v11 : Int32) (v13 : Int32) (F30 : Int32 → zM → Option (zM)) (x8_28 : Int32) (m29 : zM) : Option (zM) :=
  if 99 < x8_28 then (
  some m29)
  else (
  zb1 (zm_gR m29 12 x0 41) fun v34 =>
  zb1 (zm_gR m29 12 x0 41) fun v36 =>
  zb1 (zm_aI m29 0 v36 x7_14) fun v38 =>
  zb1 (fX12_soldFor m29 x8_28 x7_14 v11) fun v41 =>
  zb1 (fX12_greater m29 v38 v41) fun v43 =>
  zb1 (zm_sI m29 0 v34 x7_14 v43) fun m44 =>
  zb1 (zm_gR m44 12 x0 42) fun v46 =>
  zb1 (zm_gR m44 12 x0 42) fun v48 =>
  zb1 (zm_aI m44 0 v48 x7_14) fun v50 =>
  zb1 (fX12_boughtFor m44 x7_14 x8_28 v13) fun v53 =>
  zb1 (fX12_greater m44 v50 v53) fun v55 =>
  zb1 (zm_sI m44 0 v46 x7_14 v55) fun m56 =>
  F30 (x8_28 + 1) m56)
noncomputable def fX12_bargain_l56 (x0 : Nat) (v11 : Int32) (v13 : Int32) (F16 : Int32 → zM → Option (zM)) (x7_14 : Int32) (m15 : zM) : Option (zM) :=
  if 99 < x7_14 then (
  some m15)
  else (
  zb1 (zm_gR m15 12 x0 41) fun v20 =>
  zb1 (zm_sI m15 0 v20 x7_14 (-1000000)) fun m22 =>
  zb1 (zm_gR m22 12 x0 42) fun v24 =>
  zb1 (zm_sI m22 0 v24 x7_14 (-1000000)) fun m26 =>
  zb1 (zf2 (fX12_bargain_l86 x0 x7_14 v11 v13) zfu 0 m26 : Option (zM)) fun (m32 : zM) =>
  F16 (x7_14 + 1) m32)
noncomputable def fX12_bargain_b225  : Option (Int32) :=
  some 0
noncomputable def fX12_bargain_l176 (m18 : zM) (x9_62 : Int32) (v11 : Int32) (x0 : Nat) (v13 : Int32) (F71 : Int32 → Int32 → Int32 → Option (Int32 × Int32)) (x7_68 : Int32) (x8_69 : Int32) (x10_70 : Int32) : Option (Int32 × Int32) :=
  if 99 < x10_70 then (
  some (x7_68, x8_69))
  else (
  zb1 (fX12_soldFor m18 x9_62 x10_70 v11) fun v77 =>
  zb1 (zm_gR m18 12 x0 41) fun v78 =>
  zb1 (zm_aI m18 0 v78 x10_70) fun v80 =>
  zb1 (if v77 = v80 then (
  zb1 (fX12_boughtFor m18 x9_62 x10_70 v13) fun v90 =>
  zb1 (zm_gR m18 12 x0 42) fun v91 =>
  zb1 (zm_aI m18 0 v91 x9_62) fun v93 =>
  if v90 = v93 then (
  some 1)
  else (
  fX12_bargain_b225))
  else (
  fX12_bargain_b225) : Option (Int32)) fun (s82 : Int32) =>
  zb1 (if s82 = 0 then (
  some 0)
  else (
  some 1) : Option (Int32)) fun (s85 : Int32) =>
  zb1 (if s82 = 0 then (
  some 0)
  else (
  if x10_70 < x9_62 then (
  some 0)
  else (
  some 1)) : Option (Int32)) fun (s87 : Int32) =>
  F71 (x7_68 + s85) (x8_69 + s87) (x10_70 + 1))
noncomputable def fX12_bargain_l166 (m18 : zM) (v11 : Int32) (x0 : Nat) (v13 : Int32) (F63 : Int32 → Int32 → Int32 → Option (Int32 × Int32)) (x7_60 : Int32) (x8_61 : Int32) (x9_62 : Int32) : Option (Int32 × Int32) :=
  if 99 < x9_62 then (
  some (x7_60, x8_61))
  else (
  zb2 (zf3 (fX12_bargain_l176 m18 x9_62 v11 x0 v13) zfu x7_60 x8_61 0 : Option (Int32 × Int32)) fun (x7_73 : Int32) (x8_74 : Int32) =>
  F63 x7_73 x8_74 (x9_62 + 1))
noncomputable def fX12_bargain (μ : zM) (x0 : Nat) (x1 : Int32) (x2 : Int32) (x3 : Int32) (x4 : Int32) : Option (Int32 × zM) := zgd (zm_ck μ 12 x0) <|
  zb1 (zm_p μ 12 x0 0 (.int 0)) fun m1 =>
  zb2 (fX12_hand m1 x0 x1) fun v5 m4 =>
  if v5 = 0 then (
  some ((-1), m4))
  else (
  zb1 (fX12_isKind m4 x0 x2 0) fun v7 =>
  if v7 = 0 then (
  some ((-1), m4))
  else (
  zb1 (fX12_isKind m4 x0 x3 1) fun v9 =>
  if v9 = 0 then (
  some ((-1), m4))
  else (
  zb1 (fX12_of m4 x0 (39 + x2)) fun v11 =>
  zb1 (fX12_of m4 x0 (39 + x3)) fun v13 =>
  zb1 (zf2 (fX12_bargain_l56 x0 v11 v13) zfu 0 m4 : Option (zM)) fun (m18 : zM) =>
  zb2 (zf3 (fX12_bargain_l166 m18 v11 x0 v13) zfu 0 0 0 : Option (Int32 × Int32)) fun (x7_65 : Int32) (x8_66 : Int32) =>
  zb1 (if x4 = 0 then (
  some x7_65)
  else (
  some x8_66) : Option (Int32)) fun (s97 : Int32) =>
  some (s97, m18))))
theorem fX12_bargain_ck {μ : zM} {x0 : Nat} {x1 : Int32} {x2 : Int32} {x3 : Int32} {x4 : Int32} {z : Int32 × zM} (h : fX12_bargain μ x0 x1 x2 x3 x4 = some z) : zm_ck μ 12 x0 = true := (zgd_s h).1
set_option maxHeartbeats 4000000 in
set_option maxRecDepth 100000 in
theorem cX12_bargain_ok {μ : zM} {x0 : Nat} {x1 : Int32} {x2 : Int32} {x3 : Int32} {x4 : Int32} {r : Int32} {mo : zM} (hf : fX12_bargain μ x0 x1 x2 x3 x4 = some (r, mo)) : zC yX12_bargain cX12_bargain 12 (some .int) 3 0 0 [.ref x0, .int x1, .int x2, .int x3, .int x4] μ (some (.int r)) mo := by
  replace hf := (zgd_s hf).2
  refine zC.of (by decide) (Nat.le_of_ble_eq_true rfl) (fun K hin => ?_)
  clear hin
  show zz K cX12_bargain (12, RX12, some .int, 3, 0, 0, some (.int r), mo) 0 0 0 [(0, .ref x0), (1, .int x1), (2, .int x2), (3, .int x3), (4, .int x4)] [] μ
  refine zr_aload_n 0 dX12_bargain_0 rfl ?_
  refine zr_iconst 0 dX12_bargain_1 (by decide) ?_
  replace hf := zb1_s hf
  obtain ⟨m1, h2, hf⟩ := hf
  refine zr_put h2 zk12 (by decide) zl_899 rfl rfl rfl dX12_bargain_2 ?_
  refine zr_aload_n 0 dX12_bargain_5 rfl ?_
  refine zr_iload_n 1 dX12_bargain_6 rfl ?_
  replace hf := zb2_s hf
  obtain ⟨v5, m4, h3, hf⟩ := hf
  refine zr_callV (ci := 12) [.int x1] (cX12_hand_ok h3) zvs_X12_hand zl_1057 zl_1058 (fX12_hand_ck h3) rfl rfl zl_1056 rfl (Nat.le_of_ble_eq_true rfl) (Nat.le_of_ble_eq_true rfl) (Nat.le_of_ble_eq_true rfl) (Nat.le_of_ble_eq_true rfl) dX12_bargain_7 rfl ?_
  refine zr_if_eq 31 dX12_bargain_10 (by decide) (fun hc => ?_) (fun hc => ?_)
  · rw [if_pos hc] at hf
    refine zr_iconst (-1) dX12_bargain_31 (by decide) ?_
    cases hf
    exact zr_iret dX12_bargain_32
  · rw [if_neg hc] at hf
    refine zr_aload_n 0 dX12_bargain_13 rfl ?_
    refine zr_iload_n 2 dX12_bargain_14 rfl ?_
    refine zr_iconst 0 dX12_bargain_15 (by decide) ?_
    replace hf := zb1_s hf
    obtain ⟨v7, h6, hf⟩ := hf
    refine zr_callV (ci := 12) [.int x2, .int 0] (cX12_isKind_ok h6) zvs_X12_isKind zl_1157 zl_1158 (fX12_isKind_ck h6) rfl rfl zl_1156 rfl (Nat.le_of_ble_eq_true rfl) (Nat.le_of_ble_eq_true rfl) (Nat.le_of_ble_eq_true rfl) (Nat.le_of_ble_eq_true rfl) dX12_bargain_16 rfl ?_
    refine zr_if_eq 31 dX12_bargain_19 (by decide) (fun hc => ?_) (fun hc => ?_)
    · rw [if_pos hc] at hf
      refine zr_iconst (-1) dX12_bargain_31 (by decide) ?_
      cases hf
      exact zr_iret dX12_bargain_32
    · rw [if_neg hc] at hf
      refine zr_aload_n 0 dX12_bargain_22 rfl ?_
      refine zr_iload_n 3 dX12_bargain_23 rfl ?_
      refine zr_iconst 1 dX12_bargain_24 (by decide) ?_
      replace hf := zb1_s hf
      obtain ⟨v9, h8, hf⟩ := hf
      refine zr_callV (ci := 12) [.int x3, .int 1] (cX12_isKind_ok h8) zvs_X12_isKind zl_1157 zl_1158 (fX12_isKind_ck h8) rfl rfl zl_1156 rfl (Nat.le_of_ble_eq_true rfl) (Nat.le_of_ble_eq_true rfl) (Nat.le_of_ble_eq_true rfl) (Nat.le_of_ble_eq_true rfl) dX12_bargain_25 rfl ?_
      refine zr_if_ne 33 dX12_bargain_28 (by decide) (fun hc => ?_) (fun hc => ?_)
      · rw [if_neg hc] at hf
        refine zr_aload_n 0 dX12_bargain_33 rfl ?_
        refine zr_bipush 39 dX12_bargain_34 (by decide) ?_
        refine zr_iload_n 2 dX12_bargain_36 rfl ?_
        refine zr_iadd dX12_bargain_37 ?_
        replace hf := zb1_s hf
        obtain ⟨v11, h10, hf⟩ := hf
        refine zr_callV (ci := 12) [.int (39 + x2)] (cX12_of_ok h10) zvs_X12_of zl_1029 zl_1030 (fX12_of_ck h10) rfl rfl zl_1028 rfl (Nat.le_of_ble_eq_true rfl) (Nat.le_of_ble_eq_true rfl) (Nat.le_of_ble_eq_true rfl) (Nat.le_of_ble_eq_true rfl) dX12_bargain_38 rfl ?_
        refine zr_istore [(5, .int v11), (0, .ref x0), (1, .int x1), (2, .int x2), (3, .int x3), (4, .int x4)] dX12_bargain_41 (Nat.le_of_ble_eq_true rfl) rfl ?_
        refine zr_aload_n 1 dX12_bargain_43 rfl ?_
        refine zr_bipush 39 dX12_bargain_44 (by decide) ?_
        refine zr_iload_n 4 dX12_bargain_46 rfl ?_
        refine zr_iadd dX12_bargain_47 ?_
        replace hf := zb1_s hf
        obtain ⟨v13, h12, hf⟩ := hf
        refine zr_callV (ci := 12) [.int (39 + x3)] (cX12_of_ok h12) zvs_X12_of zl_1029 zl_1030 (fX12_of_ck h12) rfl rfl zl_1028 rfl (Nat.le_of_ble_eq_true rfl) (Nat.le_of_ble_eq_true rfl) (Nat.le_of_ble_eq_true rfl) (Nat.le_of_ble_eq_true rfl) dX12_bargain_48 rfl ?_
        refine zr_istore [(6, .int v13), (5, .int v11), (0, .ref x0), (1, .int x1), (2, .int x2), (3, .int x3), (4, .int x4)] dX12_bargain_51 (Nat.le_of_ble_eq_true rfl) rfl ?_
        refine zr_iconst 0 dX12_bargain_53 (by decide) ?_
        refine zr_istore [(7, .int 0), (6, .int v13), (5, .int v11), (0, .ref x0), (1, .int x1), (2, .int x2), (3, .int x3), (4, .int x4)] dX12_bargain_54 (Nat.le_of_ble_eq_true rfl) rfl ?_
        replace hf := zb1_s hf
        obtain ⟨m18, hg, hf⟩ := hf
        have hj19 : zz K cX12_bargain (12, RX12, some .int, 3, 0, 0, some (.int r), mo) 0 0 157 [(0, .ref x0), (4, .int x4), (5, .int v11), (6, .int v13)] [] m18 := by
          refine zr_iconst 0 dX12_bargain_157 (by decide) ?_
          refine zr_istore [(7, .int 0), (0, .ref x0), (4, .int x4), (5, .int v11), (6, .int v13)] dX12_bargain_158 (Nat.le_of_ble_eq_true rfl) rfl ?_
          refine zr_iconst 0 dX12_bargain_160 (by decide) ?_
          refine zr_istore [(8, .int 0), (7, .int 0), (0, .ref x0), (4, .int x4), (5, .int v11), (6, .int v13)] dX12_bargain_161 (Nat.le_of_ble_eq_true rfl) rfl ?_
          refine zr_iconst 0 dX12_bargain_163 (by decide) ?_
          refine zr_istore [(9, .int 0), (8, .int 0), (7, .int 0), (0, .ref x0), (4, .int x4), (5, .int v11), (6, .int v13)] dX12_bargain_164 (Nat.le_of_ble_eq_true rfl) rfl ?_
          replace hf := zb2_s hf
          obtain ⟨x7_65, x8_66, hg, hf⟩ := hf
          have hj67 : zz K cX12_bargain (12, RX12, some .int, 3, 0, 0, some (.int r), mo) 0 0 277 [(4, .int x4), (7, .int x7_65), (8, .int x8_66)] [] m18 := by
            refine zr_iload 0 dX12_bargain_277 rfl ?_
            replace hf := zb1_s hf
            obtain ⟨s97, hg, hf⟩ := hf
            have hj98 : zz K cX12_bargain (12, RX12, some .int, 3, 0, 0, some (.int r), mo) 0 0 289 [] [.int s97] m18 := by
              cases hf
              exact zr_iret dX12_bargain_289
            clear hf
            have hf := hg
            clear hg
            refine zr_if_eq 287 dX12_bargain_279 (by decide) (fun hc => ?_) (fun hc => ?_)
            · rw [if_pos hc] at hf
              refine zr_iload 1 dX12_bargain_287 rfl ?_
              cases hf
              exact zr_lv [] rfl hj98
            · rw [if_neg hc] at hf
              refine zr_iload 2 dX12_bargain_282 rfl ?_
              refine zr_goto 289 dX12_bargain_284 (by decide) ?_
              cases hf
              exact zr_lv [] rfl hj98
          clear hf
          have hf := hg
          clear hg
          have hL96 : ∀ (n : Nat) (x7_60 : Int32) (x8_61 : Int32) (x9_62 : Int32), zf3 (fX12_bargain_l166 m18 v11 x0 v13) n x7_60 x8_61 x9_62 = some (x7_65, x8_66) → zz K cX12_bargain (12, RX12, some .int, 3, 0, 0, some (.int r), mo) 0 0 166 [(0, .ref x0), (4, .int x4), (5, .int v11), (6, .int v13), (7, .int x7_60), (8, .int x8_61), (9, .int x9_62)] [] m18 := by
            intro n
            induction n with
            | zero => intro x7_60 x8_61 x9_62 hf; cases hf
            | succ n ih64 =>
              intro x7_60 x8_61 x9_62 hf
              replace hf := zf3_s hf
              generalize zf3 (fX12_bargain_l166 m18 v11 x0 v13) n = F63 at hf ih64
              unfold fX12_bargain_l166 at hf
              refine zr_iload 6 dX12_bargain_166 rfl ?_
              refine zr_bipush 99 dX12_bargain_168 (by decide) ?_
              refine zr_icmp_gt 277 dX12_bargain_170 (by decide) (fun hc => ?_) (fun hc => ?_)
              · rw [if_pos hc] at hf
                cases hf
                exact zr_lv [1, 4, 5] rfl hj67
              · rw [if_neg hc] at hf
                refine zr_iconst 0 dX12_bargain_173 (by decide) ?_
                refine zr_istore [(10, .int 0), (0, .ref x0), (4, .int x4), (5, .int v11), (6, .int v13), (7, .int x7_60), (8, .int x8_61), (9, .int x9_62)] dX12_bargain_174 (Nat.le_of_ble_eq_true rfl) rfl ?_
                replace hf := zb2_s hf
                obtain ⟨x7_73, x8_74, hg, hf⟩ := hf
                have hj75 : zz K cX12_bargain (12, RX12, some .int, 3, 0, 0, some (.int r), mo) 0 0 271 [(0, .ref x0), (4, .int x4), (5, .int v11), (6, .int v13), (7, .int x7_73), (8, .int x8_74), (9, .int x9_62)] [] m18 := by
                  refine zr_iinc (j := 6) (x9_62 + 1) [(9, .int (x9_62 + 1)), (0, .ref x0), (4, .int x4), (5, .int v11), (6, .int v13), (7, .int x7_73), (8, .int x8_74)] dX12_bargain_271 rfl rfl (Nat.le_of_ble_eq_true rfl) rfl ?_
                  refine zr_goto 166 dX12_bargain_274 (by decide) ?_
                  exact zr_lv [1, 2, 3, 4, 5, 6, 0] rfl (ih64 x7_73 x8_74 (x9_62 + 1) hf)
                clear hf
                have hf := hg
                clear hg
                have hL95 : ∀ (n : Nat) (x7_68 : Int32) (x8_69 : Int32) (x10_70 : Int32), zf3 (fX12_bargain_l176 m18 x9_62 v11 x0 v13) n x7_68 x8_69 x10_70 = some (x7_73, x8_74) → zz K cX12_bargain (12, RX12, some .int, 3, 0, 0, some (.int r), mo) 0 0 176 [(0, .ref x0), (4, .int x4), (5, .int v11), (6, .int v13), (7, .int x7_68), (8, .int x8_69), (9, .int x9_62), (10, .int x10_70)] [] m18 := by
                  intro n
                  induction n with
                  | zero => intro x7_68 x8_69 x10_70 hf; cases hf
                  | succ n ih72 =>
                    intro x7_68 x8_69 x10_70 hf
                    replace hf := zf3_s hf
                    generalize zf3 (fX12_bargain_l176 m18 x9_62 v11 x0 v13) n = F71 at hf ih72
                    unfold fX12_bargain_l176 at hf
                    refine zr_iload 7 dX12_bargain_176 rfl ?_
                    refine zr_bipush 99 dX12_bargain_178 (by decide) ?_
                    refine zr_icmp_gt 271 dX12_bargain_180 (by decide) (fun hc => ?_) (fun hc => ?_)
                    · rw [if_pos hc] at hf
                      cases hf
                      exact zr_lv [0, 1, 2, 3, 4, 5, 6] rfl hj75
                    · rw [if_neg hc] at hf
                      refine zr_iload 6 dX12_bargain_183 rfl ?_
                      refine zr_iload 7 dX12_bargain_185 rfl ?_
                      refine zr_iload 2 dX12_bargain_187 rfl ?_
                      replace hf := zb1_s hf
                      obtain ⟨v77, h76, hf⟩ := hf
                      refine zr_callS [.int x9_62, .int x10_70, .int v11] (cX12_soldFor_ok h76) zvs_X12_soldFor zl_1179 zl_1178 rfl (Nat.le_of_ble_eq_true rfl) (Nat.le_of_ble_eq_true rfl) (Nat.le_of_ble_eq_true rfl) (Nat.le_of_ble_eq_true rfl) dX12_bargain_189 rfl ?_
                      refine zr_aload_n 0 dX12_bargain_192 rfl ?_
                      replace hf := zb1_s hf
                      obtain ⟨v78, h79, hf⟩ := hf
                      refine zr_get (zm_gR_g h79) zk12 (by decide) zl_882 dX12_bargain_193 ?_
                      refine zr_iload 7 dX12_bargain_196 rfl ?_
                      replace hf := zb1_s hf
                      obtain ⟨v80, h81, hf⟩ := hf
                      refine zr_iald h81 dX12_bargain_198 ?_
                      replace hf := zb1_s hf
                      obtain ⟨s82, hg, hf⟩ := hf
                      have hj83 : zz K cX12_bargain (12, RX12, some .int, 3, 0, 0, some (.int r), mo) 0 0 226 [(0, .ref x0), (4, .int x4), (5, .int v11), (6, .int v13), (7, .int x7_68), (8, .int x8_69), (9, .int x9_62), (10, .int x10_70)] [.int s82] m18 := by
                        refine zr_istore [(11, .int s82), (0, .ref x0), (4, .int x4), (5, .int v11), (6, .int v13), (7, .int x7_68), (8, .int x8_69), (9, .int x9_62), (10, .int x10_70)] dX12_bargain_226 (Nat.le_of_ble_eq_true rfl) rfl ?_
                        refine zr_iload 5 dX12_bargain_228 rfl ?_
                        refine zr_iload 0 dX12_bargain_230 rfl ?_
                        replace hf := zb1_s hf
                        obtain ⟨s85, hg, hf⟩ := hf
                        have hj86 : zz K cX12_bargain (12, RX12, some .int, 3, 0, 0, some (.int r), mo) 0 0 240 [(0, .ref x0), (4, .int x4), (5, .int v11), (6, .int v13), (8, .int x8_69), (9, .int x9_62), (10, .int x10_70), (11, .int s82)] [.int s85, .int x7_68] m18 := by
                          refine zr_iadd dX12_bargain_240 ?_
                          refine zr_istore [(7, .int (x7_68 + s85)), (0, .ref x0), (4, .int x4), (5, .int v11), (6, .int v13), (8, .int x8_69), (9, .int x9_62), (10, .int x10_70), (11, .int s82)] dX12_bargain_241 (Nat.le_of_ble_eq_true rfl) rfl ?_
                          refine zr_iload 5 dX12_bargain_243 rfl ?_
                          refine zr_iload 8 dX12_bargain_245 rfl ?_
                          replace hf := zb1_s hf
                          obtain ⟨s87, hg, hf⟩ := hf
                          have hj88 : zz K cX12_bargain (12, RX12, some .int, 3, 0, 0, some (.int r), mo) 0 0 262 [(0, .ref x0), (4, .int x4), (5, .int v11), (6, .int v13), (7, .int (x7_68 + s85)), (9, .int x9_62), (10, .int x10_70)] [.int s87, .int x8_69] m18 := by
                            refine zr_iadd dX12_bargain_262 ?_
                            refine zr_istore [(8, .int (x8_69 + s87)), (0, .ref x0), (4, .int x4), (5, .int v11), (6, .int v13), (7, .int (x7_68 + s85)), (9, .int x9_62), (10, .int x10_70)] dX12_bargain_263 (Nat.le_of_ble_eq_true rfl) rfl ?_
                            refine zr_iinc (j := 7) (x10_70 + 1) [(10, .int (x10_70 + 1)), (8, .int (x8_69 + s87)), (0, .ref x0), (4, .int x4), (5, .int v11), (6, .int v13), (7, .int (x7_68 + s85)), (9, .int x9_62)] dX12_bargain_265 rfl rfl (Nat.le_of_ble_eq_true rfl) rfl ?_
                            refine zr_goto 176 dX12_bargain_268 (by decide) ?_
                            exact zr_lv [2, 3, 4, 5, 6, 1, 7, 0] rfl (ih72 (x7_68 + s85) (x8_69 + s87) (x10_70 + 1) hf)
                          clear hf
                          have hf := hg
                          clear hg
                          refine zr_if_eq 261 dX12_bargain_247 (by decide) (fun hc => ?_) (fun hc => ?_)
                          · rw [if_pos hc] at hf
                            refine zr_iconst 0 dX12_bargain_261 (by decide) ?_
                            cases hf
                            exact zr_lv [1, 2, 3, 4, 0, 6, 7] rfl hj88
                          · rw [if_neg hc] at hf
                            refine zr_iload 7 dX12_bargain_250 rfl ?_
                            refine zr_iload 6 dX12_bargain_252 rfl ?_
                            refine zr_icmp_lt 261 dX12_bargain_254 (by decide) (fun hc => ?_) (fun hc => ?_)
                            · rw [if_pos hc] at hf
                              refine zr_iconst 0 dX12_bargain_261 (by decide) ?_
                              cases hf
                              exact zr_lv [1, 2, 3, 4, 0, 6, 7] rfl hj88
                            · rw [if_neg hc] at hf
                              refine zr_iconst 1 dX12_bargain_257 (by decide) ?_
                              refine zr_goto 262 dX12_bargain_258 (by decide) ?_
                              cases hf
                              exact zr_lv [1, 2, 3, 4, 0, 6, 7] rfl hj88
                        clear hf
                        have hf := hg
                        clear hg
                        refine zr_if_eq 239 dX12_bargain_232 (by decide) (fun hc => ?_) (fun hc => ?_)
                        · rw [if_pos hc] at hf
                          refine zr_iconst 0 dX12_bargain_239 (by decide) ?_
                          cases hf
                          exact zr_lv [1, 2, 3, 4, 6, 7, 8, 0] rfl hj86
                        · rw [if_neg hc] at hf
                          refine zr_iconst 1 dX12_bargain_235 (by decide) ?_
                          refine zr_goto 240 dX12_bargain_236 (by decide) ?_
                          cases hf
                          exact zr_lv [1, 2, 3, 4, 6, 7, 8, 0] rfl hj86
                      clear hf
                      have hf := hg
                      clear hg
                      have hb84 : ∀ (_ : Unit), fX12_bargain_b225 = some s82 → zz K cX12_bargain (12, RX12, some .int, 3, 0, 0, some (.int r), mo) 0 0 225 [(0, .ref x0), (4, .int x4), (5, .int v11), (6, .int v13), (7, .int x7_68), (8, .int x8_69), (9, .int x9_62), (10, .int x10_70)] [] m18 := by
                        intro _ hf
                        unfold fX12_bargain_b225 at hf
                        refine zr_iconst 0 dX12_bargain_225 (by decide) ?_
                        cases hf
                        exact zr_lv [0, 1, 2, 3, 4, 5, 6, 7] rfl hj83
                      refine zr_icmp_ne 225 dX12_bargain_199 (by decide) (fun hc => ?_) (fun hc => ?_)
                      · rw [if_neg hc] at hf
                        exact zr_lv [0, 1, 2, 3, 4, 5, 6, 7] rfl (hb84 () hf)
                      · rw [if_pos hc] at hf
                        refine zr_iload 6 dX12_bargain_202 rfl ?_
                        refine zr_iload 7 dX12_bargain_204 rfl ?_
                        refine zr_iload 3 dX12_bargain_206 rfl ?_
                        replace hf := zb1_s hf
                        obtain ⟨v90, h89, hf⟩ := hf
                        refine zr_callS [.int x9_62, .int x10_70, .int v13] (cX12_boughtFor_ok h89) zvs_X12_boughtFor zl_1182 zl_1181 rfl (Nat.le_of_ble_eq_true rfl) (Nat.le_of_ble_eq_true rfl) (Nat.le_of_ble_eq_true rfl) (Nat.le_of_ble_eq_true rfl) dX12_bargain_208 rfl ?_
                        refine zr_aload_n 0 dX12_bargain_211 rfl ?_
                        replace hf := zb1_s hf
                        obtain ⟨v91, h92, hf⟩ := hf
                        refine zr_get (zm_gR_g h92) zk12 (by decide) zl_883 dX12_bargain_212 ?_
                        refine zr_iload 6 dX12_bargain_215 rfl ?_
                        replace hf := zb1_s hf
                        obtain ⟨v93, h94, hf⟩ := hf
                        refine zr_iald h94 dX12_bargain_217 ?_
                        refine zr_icmp_ne 225 dX12_bargain_218 (by decide) (fun hc => ?_) (fun hc => ?_)
                        · rw [if_neg hc] at hf
                          exact zr_lv [0, 1, 2, 3, 4, 5, 6, 7] rfl (hb84 () hf)
                        · rw [if_pos hc] at hf
                          refine zr_iconst 1 dX12_bargain_221 (by decide) ?_
                          refine zr_goto 226 dX12_bargain_222 (by decide) ?_
                          cases hf
                          exact zr_lv [0, 1, 2, 3, 4, 5, 6, 7] rfl hj83
                exact zr_lv [1, 2, 3, 4, 5, 6, 7, 0] rfl (hL95 _ x7_60 x8_61 0 hf)
          exact zr_lv [3, 4, 5, 6, 2, 1, 0] rfl (hL96 _ 0 0 0 hf)
        clear hf
        have hf := hg
        clear hg
        have hL59 : ∀ (n : Nat) (x7_14 : Int32) (m15 : zM), zf2 (fX12_bargain_l56 x0 v11 v13) n x7_14 m15 = some m18 → zz K cX12_bargain (12, RX12, some .int, 3, 0, 0, some (.int r), mo) 0 0 56 [(0, .ref x0), (4, .int x4), (5, .int v11), (6, .int v13), (7, .int x7_14)] [] m15 := by
          intro n
          induction n with
          | zero => intro x7_14 m15 hf; cases hf
          | succ n ih17 =>
            intro x7_14 m15 hf
            replace hf := zf2_s hf
            generalize zf2 (fX12_bargain_l56 x0 v11 v13) n = F16 at hf ih17
            unfold fX12_bargain_l56 at hf
            refine zr_iload 4 dX12_bargain_56 rfl ?_
            refine zr_bipush 99 dX12_bargain_58 (by decide) ?_
            refine zr_icmp_gt 157 dX12_bargain_60 (by decide) (fun hc => ?_) (fun hc => ?_)
            · rw [if_pos hc] at hf
              cases hf
              exact zr_lv [0, 1, 2, 3] rfl hj19
            · rw [if_neg hc] at hf
              refine zr_aload_n 0 dX12_bargain_63 rfl ?_
              replace hf := zb1_s hf
              obtain ⟨v20, h21, hf⟩ := hf
              refine zr_get (zm_gR_g h21) zk12 (by decide) zl_882 dX12_bargain_64 ?_
              refine zr_iload 4 dX12_bargain_67 rfl ?_
              refine zr_ldcw zl_1176 dX12_bargain_69 ?_
              replace hf := zb1_s hf
              obtain ⟨m22, h23, hf⟩ := hf
              refine zr_iast h23 dX12_bargain_72 ?_
              refine zr_aload_n 0 dX12_bargain_73 rfl ?_
              replace hf := zb1_s hf
              obtain ⟨v24, h25, hf⟩ := hf
              refine zr_get (zm_gR_g h25) zk12 (by decide) zl_883 dX12_bargain_74 ?_
              refine zr_iload 4 dX12_bargain_77 rfl ?_
              refine zr_ldcw zl_1176 dX12_bargain_79 ?_
              replace hf := zb1_s hf
              obtain ⟨m26, h27, hf⟩ := hf
              refine zr_iast h27 dX12_bargain_82 ?_
              refine zr_iconst 0 dX12_bargain_83 (by decide) ?_
              refine zr_istore [(8, .int 0), (0, .ref x0), (4, .int x4), (5, .int v11), (6, .int v13), (7, .int x7_14)] dX12_bargain_84 (Nat.le_of_ble_eq_true rfl) rfl ?_
              replace hf := zb1_s hf
              obtain ⟨m32, hg, hf⟩ := hf
              have hj33 : zz K cX12_bargain (12, RX12, some .int, 3, 0, 0, some (.int r), mo) 0 0 151 [(0, .ref x0), (4, .int x4), (5, .int v11), (6, .int v13), (7, .int x7_14)] [] m32 := by
                refine zr_iinc (j := 4) (x7_14 + 1) [(7, .int (x7_14 + 1)), (0, .ref x0), (4, .int x4), (5, .int v11), (6, .int v13)] dX12_bargain_151 rfl rfl (Nat.le_of_ble_eq_true rfl) rfl ?_
                refine zr_goto 56 dX12_bargain_154 (by decide) ?_
                exact zr_lv [1, 2, 3, 4, 0] rfl (ih17 (x7_14 + 1) m32 hf)
              clear hf
              have hf := hg
              clear hg
              have hL58 : ∀ (n : Nat) (x8_28 : Int32) (m29 : zM), zf2 (fX12_bargain_l86 x0 x7_14 v11 v13) n x8_28 m29 = some m32 → zz K cX12_bargain (12, RX12, some .int, 3, 0, 0, some (.int r), mo) 0 0 86 [(0, .ref x0), (4, .int x4), (5, .int v11), (6, .int v13), (7, .int x7_14), (8, .int x8_28)] [] m29 := by
                intro n
                induction n with
                | zero => intro x8_28 m29 hf; cases hf
                | succ n ih31 =>
                  intro x8_28 m29 hf
                  replace hf := zf2_s hf
                  generalize zf2 (fX12_bargain_l86 x0 x7_14 v11 v13) n = F30 at hf ih31
                  unfold fX12_bargain_l86 at hf
                  refine zr_iload 5 dX12_bargain_86 rfl ?_
                  refine zr_bipush 99 dX12_bargain_88 (by decide) ?_
                  refine zr_icmp_gt 151 dX12_bargain_90 (by decide) (fun hc => ?_) (fun hc => ?_)
                  · rw [if_pos hc] at hf
                    cases hf
                    exact zr_lv [0, 1, 2, 3, 4] rfl hj33
                  · rw [if_neg hc] at hf
                    refine zr_aload_n 0 dX12_bargain_93 rfl ?_
                    replace hf := zb1_s hf
                    obtain ⟨v34, h35, hf⟩ := hf
                    refine zr_get (zm_gR_g h35) zk12 (by decide) zl_882 dX12_bargain_94 ?_
                    refine zr_iload 4 dX12_bargain_97 rfl ?_
                    refine zr_aload_n 0 dX12_bargain_99 rfl ?_
                    replace hf := zb1_s hf
                    obtain ⟨v36, h37, hf⟩ := hf
                    refine zr_get (zm_gR_g h37) zk12 (by decide) zl_882 dX12_bargain_100 ?_
                    refine zr_iload 4 dX12_bargain_103 rfl ?_
                    replace hf := zb1_s hf
                    obtain ⟨v38, h39, hf⟩ := hf
                    refine zr_iald h39 dX12_bargain_105 ?_
                    refine zr_iload 5 dX12_bargain_106 rfl ?_
                    refine zr_iload 4 dX12_bargain_108 rfl ?_
                    refine zr_iload 2 dX12_bargain_110 rfl ?_
                    replace hf := zb1_s hf
                    obtain ⟨v41, h40, hf⟩ := hf
                    refine zr_callS [.int x8_28, .int x7_14, .int v11] (cX12_soldFor_ok h40) zvs_X12_soldFor zl_1179 zl_1178 rfl (Nat.le_of_ble_eq_true rfl) (Nat.le_of_ble_eq_true rfl) (Nat.le_of_ble_eq_true rfl) (Nat.le_of_ble_eq_true rfl) dX12_bargain_112 rfl ?_
                    replace hf := zb1_s hf
                    obtain ⟨v43, h42, hf⟩ := hf
                    refine zr_callS [.int v38, .int v41] (cX12_greater_ok h42) zvs_X12_greater zl_940 zl_939 rfl (Nat.le_of_ble_eq_true rfl) (Nat.le_of_ble_eq_true rfl) (Nat.le_of_ble_eq_true rfl) (Nat.le_of_ble_eq_true rfl) dX12_bargain_115 rfl ?_
                    replace hf := zb1_s hf
                    obtain ⟨m44, h45, hf⟩ := hf
                    refine zr_iast h45 dX12_bargain_118 ?_
                    refine zr_aload_n 0 dX12_bargain_119 rfl ?_
                    replace hf := zb1_s hf
                    obtain ⟨v46, h47, hf⟩ := hf
                    refine zr_get (zm_gR_g h47) zk12 (by decide) zl_883 dX12_bargain_120 ?_
                    refine zr_iload 4 dX12_bargain_123 rfl ?_
                    refine zr_aload_n 0 dX12_bargain_125 rfl ?_
                    replace hf := zb1_s hf
                    obtain ⟨v48, h49, hf⟩ := hf
                    refine zr_get (zm_gR_g h49) zk12 (by decide) zl_883 dX12_bargain_126 ?_
                    refine zr_iload 4 dX12_bargain_129 rfl ?_
                    replace hf := zb1_s hf
                    obtain ⟨v50, h51, hf⟩ := hf
                    refine zr_iald h51 dX12_bargain_131 ?_
                    refine zr_iload 4 dX12_bargain_132 rfl ?_
                    refine zr_iload 5 dX12_bargain_134 rfl ?_
                    refine zr_iload 3 dX12_bargain_136 rfl ?_
                    replace hf := zb1_s hf
                    obtain ⟨v53, h52, hf⟩ := hf
                    refine zr_callS [.int x7_14, .int x8_28, .int v13] (cX12_boughtFor_ok h52) zvs_X12_boughtFor zl_1182 zl_1181 rfl (Nat.le_of_ble_eq_true rfl) (Nat.le_of_ble_eq_true rfl) (Nat.le_of_ble_eq_true rfl) (Nat.le_of_ble_eq_true rfl) dX12_bargain_138 rfl ?_
                    replace hf := zb1_s hf
                    obtain ⟨v55, h54, hf⟩ := hf
                    refine zr_callS [.int v50, .int v53] (cX12_greater_ok h54) zvs_X12_greater zl_940 zl_939 rfl (Nat.le_of_ble_eq_true rfl) (Nat.le_of_ble_eq_true rfl) (Nat.le_of_ble_eq_true rfl) (Nat.le_of_ble_eq_true rfl) dX12_bargain_141 rfl ?_
                    replace hf := zb1_s hf
                    obtain ⟨m56, h57, hf⟩ := hf
                    refine zr_iast h57 dX12_bargain_144 ?_
                    refine zr_iinc (j := 5) (x8_28 + 1) [(8, .int (x8_28 + 1)), (0, .ref x0), (4, .int x4), (5, .int v11), (6, .int v13), (7, .int x7_14)] dX12_bargain_145 rfl rfl (Nat.le_of_ble_eq_true rfl) rfl ?_
                    refine zr_goto 86 dX12_bargain_148 (by decide) ?_
                    exact zr_lv [1, 2, 3, 4, 5, 0] rfl (ih31 (x8_28 + 1) m56 hf)
              exact zr_lv [1, 2, 3, 4, 5, 0] rfl (hL58 _ 0 m26 hf)
        exact zr_lv [3, 7, 2, 1, 0] rfl (hL59 _ 0 m4 hf)
      · rw [if_pos hc] at hf
        refine zr_iconst (-1) dX12_bargain_31 (by decide) ?_
        cases hf
        exact zr_iret dX12_bargain_32
theorem dX12_heavy_0 : decode cX12_heavy 0 = .ok (.iconst 0, 1) := by decide +kernel
theorem dX12_heavy_1 : decode cX12_heavy 1 = .ok (.istore_n 2, 1) := by decide +kernel
theorem dX12_heavy_2 : decode cX12_heavy 2 = .ok (.iload_n 2, 1) := by decide +kernel
theorem dX12_heavy_3 : decode cX12_heavy 3 = .ok (.bipush 8, 2) := by decide +kernel
theorem dX12_heavy_5 : decode cX12_heavy 5 = .ok (.if_icmp .ge 95, 3) := by decide +kernel
theorem dX12_heavy_8 : decode cX12_heavy 8 = .ok (.iconst 0, 1) := by decide +kernel
theorem dX12_heavy_9 : decode cX12_heavy 9 = .ok (.istore_n 3, 1) := by decide +kernel
theorem dX12_heavy_10 : decode cX12_heavy 10 = .ok (.iconst 0, 1) := by decide +kernel
theorem dX12_heavy_11 : decode cX12_heavy 11 = .ok (.istore 4, 2) := by decide +kernel
theorem dX12_heavy_13 : decode cX12_heavy 13 = .ok (.iload 4, 2) := by decide +kernel
theorem dX12_heavy_15 : decode cX12_heavy 15 = .ok (.bipush 8, 2) := by decide +kernel
theorem dX12_heavy_17 : decode cX12_heavy 17 = .ok (.if_icmp .ge 63, 3) := by decide +kernel
theorem dX12_heavy_20 : decode cX12_heavy 20 = .ok (.iload_n 3, 1) := by decide +kernel
theorem dX12_heavy_21 : decode cX12_heavy 21 = .ok (.aload_n 0, 1) := by decide +kernel
theorem dX12_heavy_22 : decode cX12_heavy 22 = .ok (.bipush 19, 2) := by decide +kernel
theorem dX12_heavy_24 : decode cX12_heavy 24 = .ok (.iload 4, 2) := by decide +kernel
theorem dX12_heavy_26 : decode cX12_heavy 26 = .ok (.iadd, 1) := by decide +kernel
theorem dX12_heavy_27 : decode cX12_heavy 27 = .ok (.invokevirtual 269, 3) := by decide +kernel
theorem dX12_heavy_30 : decode cX12_heavy 30 = .ok (.aload_n 0, 1) := by decide +kernel
theorem dX12_heavy_31 : decode cX12_heavy 31 = .ok (.bipush 19, 2) := by decide +kernel
theorem dX12_heavy_33 : decode cX12_heavy 33 = .ok (.iload_n 2, 1) := by decide +kernel
theorem dX12_heavy_34 : decode cX12_heavy 34 = .ok (.iadd, 1) := by decide +kernel
theorem dX12_heavy_35 : decode cX12_heavy 35 = .ok (.invokevirtual 269, 3) := by decide +kernel
theorem dX12_heavy_38 : decode cX12_heavy 38 = .ok (.if_icmp .gt 29, 3) := by decide +kernel
theorem dX12_heavy_41 : decode cX12_heavy 41 = .ok (.aload_n 0, 1) := by decide +kernel
theorem dX12_heavy_42 : decode cX12_heavy 42 = .ok (.bipush 19, 2) := by decide +kernel
theorem dX12_heavy_44 : decode cX12_heavy 44 = .ok (.iload 4, 2) := by decide +kernel
theorem dX12_heavy_46 : decode cX12_heavy 46 = .ok (.iadd, 1) := by decide +kernel
theorem dX12_heavy_47 : decode cX12_heavy 47 = .ok (.invokevirtual 269, 3) := by decide +kernel
theorem dX12_heavy_50 : decode cX12_heavy 50 = .ok (.aload_n 0, 1) := by decide +kernel
theorem dX12_heavy_51 : decode cX12_heavy 51 = .ok (.bipush 19, 2) := by decide +kernel
theorem dX12_heavy_53 : decode cX12_heavy 53 = .ok (.iload_n 2, 1) := by decide +kernel
theorem dX12_heavy_54 : decode cX12_heavy 54 = .ok (.iadd, 1) := by decide +kernel
theorem dX12_heavy_55 : decode cX12_heavy 55 = .ok (.invokevirtual 269, 3) := by decide +kernel
theorem dX12_heavy_58 : decode cX12_heavy 58 = .ok (.if_icmp .ne 13, 3) := by decide +kernel
theorem dX12_heavy_61 : decode cX12_heavy 61 = .ok (.iload 4, 2) := by decide +kernel
theorem dX12_heavy_63 : decode cX12_heavy 63 = .ok (.iload_n 2, 1) := by decide +kernel
theorem dX12_heavy_64 : decode cX12_heavy 64 = .ok (.if_icmp .ge 7, 3) := by decide +kernel
theorem dX12_heavy_67 : decode cX12_heavy 67 = .ok (.iconst 1, 1) := by decide +kernel
theorem dX12_heavy_68 : decode cX12_heavy 68 = .ok (.goto 4, 3) := by decide +kernel
theorem dX12_heavy_71 : decode cX12_heavy 71 = .ok (.iconst 0, 1) := by decide +kernel
theorem dX12_heavy_72 : decode cX12_heavy 72 = .ok (.iadd, 1) := by decide +kernel
theorem dX12_heavy_73 : decode cX12_heavy 73 = .ok (.istore_n 3, 1) := by decide +kernel
theorem dX12_heavy_74 : decode cX12_heavy 74 = .ok (.iinc 4 1, 3) := by decide +kernel
theorem dX12_heavy_77 : decode cX12_heavy 77 = .ok (.goto (-64), 3) := by decide +kernel
theorem dX12_heavy_80 : decode cX12_heavy 80 = .ok (.iload_n 3, 1) := by decide +kernel
theorem dX12_heavy_81 : decode cX12_heavy 81 = .ok (.iload_n 1, 1) := by decide +kernel
theorem dX12_heavy_82 : decode cX12_heavy 82 = .ok (.if_icmp .ne 12, 3) := by decide +kernel
theorem dX12_heavy_85 : decode cX12_heavy 85 = .ok (.aload_n 0, 1) := by decide +kernel
theorem dX12_heavy_86 : decode cX12_heavy 86 = .ok (.bipush 19, 2) := by decide +kernel
theorem dX12_heavy_88 : decode cX12_heavy 88 = .ok (.iload_n 2, 1) := by decide +kernel
theorem dX12_heavy_89 : decode cX12_heavy 89 = .ok (.iadd, 1) := by decide +kernel
theorem dX12_heavy_90 : decode cX12_heavy 90 = .ok (.invokevirtual 269, 3) := by decide +kernel
theorem dX12_heavy_93 : decode cX12_heavy 93 = .ok (.ireturn, 1) := by decide +kernel
theorem dX12_heavy_94 : decode cX12_heavy 94 = .ok (.iinc 2 1, 3) := by decide +kernel
theorem dX12_heavy_97 : decode cX12_heavy 97 = .ok (.goto (-95), 3) := by decide +kernel
theorem dX12_heavy_100 : decode cX12_heavy 100 = .ok (.iconst 0, 1) := by decide +kernel
theorem dX12_heavy_101 : decode cX12_heavy 101 = .ok (.ireturn, 1) := by decide +kernel
noncomputable def fX12_heavy_l13 (μ : zM) (x0 : Nat) (x2_1 : Int32) (F6 : Int32 → Int32 → Option (Int32)) (x3_4 : Int32) (x4_5 : Int32) : Option (Int32) :=
  if 8 ≤ x4_5 then (
  some x3_4)
  else (
  zb1 (fX12_of μ x0 (19 + x4_5)) fun v11 =>
  zb1 (fX12_of μ x0 (19 + x2_1)) fun v13 =>
  zb1 (if v13 < v11 then (
  some 1)
  else (
  zb1 (fX12_of μ x0 (19 + x4_5)) fun v17 =>
  zb1 (fX12_of μ x0 (19 + x2_1)) fun v19 =>
  if v17 = v19 then (
  if x2_1 ≤ x4_5 then (
  some 0)
  else (
  some 1))
  else (
  some 0)) : Option (Int32)) fun (s14 : Int32) =>
  F6 (x3_4 + s14) (x4_5 + 1))
noncomputable def fX12_heavy_l2 (μ : zM) (x0 : Nat) (x1 : Int32) (F2 : Int32 → Option (Int32)) (x2_1 : Int32) : Option (Int32) :=
  if 8 ≤ x2_1 then (
  some 0)
  else (
  zb1 (zf2 (fX12_heavy_l13 μ x0 x2_1) zfu 0 0 : Option (Int32)) fun (x3_8 : Int32) =>
  if x3_8 = x1 then (
  zb1 (fX12_of μ x0 (19 + x2_1)) fun v22 =>
  some v22)
  else (
  F2 (x2_1 + 1)))
noncomputable def fX12_heavy (μ : zM) (x0 : Nat) (x1 : Int32) : Option (Int32) := zgd (zm_ck μ 12 x0) <|
  zf1 (fX12_heavy_l2 μ x0 x1) zfu 0
theorem fX12_heavy_ck {μ : zM} {x0 : Nat} {x1 : Int32} {z : Int32} (h : fX12_heavy μ x0 x1 = some z) : zm_ck μ 12 x0 = true := (zgd_s h).1
set_option maxHeartbeats 4000000 in
set_option maxRecDepth 100000 in
theorem cX12_heavy_ok {μ : zM} {x0 : Nat} {x1 : Int32} {r : Int32} (hf : fX12_heavy μ x0 x1 = some r) : zC yX12_heavy cX12_heavy 5 (some .int) 1 0 0 [.ref x0, .int x1] μ (some (.int r)) μ := by
  replace hf := (zgd_s hf).2
  refine zC.of (by decide) (Nat.le_of_ble_eq_true rfl) (fun K hin => ?_)
  clear hin
  show zz K cX12_heavy (5, RX12, some .int, 1, 0, 0, some (.int r), μ) 0 0 0 [(0, .ref x0), (1, .int x1)] [] μ
  refine zr_iconst 0 dX12_heavy_0 (by decide) ?_
  refine zr_istore_n [(2, .int 0), (0, .ref x0), (1, .int x1)] dX12_heavy_1 (Nat.le_of_ble_eq_true rfl) rfl ?_
  have hL23 : ∀ (n : Nat) (x2_1 : Int32), zf1 (fX12_heavy_l2 μ x0 x1) n x2_1 = some r → zz K cX12_heavy (5, RX12, some .int, 1, 0, 0, some (.int r), μ) 0 0 2 [(0, .ref x0), (1, .int x1), (2, .int x2_1)] [] μ := by
    intro n
    induction n with
    | zero => intro x2_1 hf; cases hf
    | succ n ih3 =>
      intro x2_1 hf
      replace hf := zf1_s hf
      generalize zf1 (fX12_heavy_l2 μ x0 x1) n = F2 at hf ih3
      unfold fX12_heavy_l2 at hf
      refine zr_iload_n 2 dX12_heavy_2 rfl ?_
      refine zr_bipush 8 dX12_heavy_3 (by decide) ?_
      refine zr_icmp_ge 100 dX12_heavy_5 (by decide) (fun hc => ?_) (fun hc => ?_)
      · rw [if_pos hc] at hf
        refine zr_iconst 0 dX12_heavy_100 (by decide) ?_
        cases hf
        exact zr_iret dX12_heavy_101
      · rw [if_neg hc] at hf
        refine zr_iconst 0 dX12_heavy_8 (by decide) ?_
        refine zr_istore_n [(3, .int 0), (0, .ref x0), (1, .int x1), (2, .int x2_1)] dX12_heavy_9 (Nat.le_of_ble_eq_true rfl) rfl ?_
        refine zr_iconst 0 dX12_heavy_10 (by decide) ?_
        refine zr_istore [(4, .int 0), (3, .int 0), (0, .ref x0), (1, .int x1), (2, .int x2_1)] dX12_heavy_11 (Nat.le_of_ble_eq_true rfl) rfl ?_
        replace hf := zb1_s hf
        obtain ⟨x3_8, hg, hf⟩ := hf
        have hj9 : zz K cX12_heavy (5, RX12, some .int, 1, 0, 0, some (.int r), μ) 0 0 80 [(0, .ref x0), (1, .int x1), (2, .int x2_1), (3, .int x3_8)] [] μ := by
          refine zr_iload_n 3 dX12_heavy_80 rfl ?_
          refine zr_iload_n 1 dX12_heavy_81 rfl ?_
          refine zr_icmp_ne 94 dX12_heavy_82 (by decide) (fun hc => ?_) (fun hc => ?_)
          · rw [if_neg hc] at hf
            refine zr_iinc (j := 2) (x2_1 + 1) [(2, .int (x2_1 + 1)), (0, .ref x0), (1, .int x1), (3, .int x3_8)] dX12_heavy_94 rfl rfl (Nat.le_of_ble_eq_true rfl) rfl ?_
            refine zr_goto 2 dX12_heavy_97 (by decide) ?_
            exact zr_lv [1, 2, 0] rfl (ih3 (x2_1 + 1) hf)
          · rw [if_pos hc] at hf
            refine zr_aload_n 0 dX12_heavy_85 rfl ?_
            refine zr_bipush 19 dX12_heavy_86 (by decide) ?_
            refine zr_iload_n 2 dX12_heavy_88 rfl ?_
            refine zr_iadd dX12_heavy_89 ?_
            replace hf := zb1_s hf
            obtain ⟨v22, h21, hf⟩ := hf
            refine zr_callV (ci := 12) [.int (19 + x2_1)] (cX12_of_ok h21) zvs_X12_of zl_1029 zl_1030 (fX12_of_ck h21) rfl rfl zl_1028 rfl (Nat.le_of_ble_eq_true rfl) (Nat.le_of_ble_eq_true rfl) (Nat.le_of_ble_eq_true rfl) (Nat.le_of_ble_eq_true rfl) dX12_heavy_90 rfl ?_
            cases hf
            exact zr_iret dX12_heavy_93
        clear hf
        have hf := hg
        clear hg
        have hL20 : ∀ (n : Nat) (x3_4 : Int32) (x4_5 : Int32), zf2 (fX12_heavy_l13 μ x0 x2_1) n x3_4 x4_5 = some x3_8 → zz K cX12_heavy (5, RX12, some .int, 1, 0, 0, some (.int r), μ) 0 0 13 [(0, .ref x0), (1, .int x1), (2, .int x2_1), (3, .int x3_4), (4, .int x4_5)] [] μ := by
          intro n
          induction n with
          | zero => intro x3_4 x4_5 hf; cases hf
          | succ n ih7 =>
            intro x3_4 x4_5 hf
            replace hf := zf2_s hf
            generalize zf2 (fX12_heavy_l13 μ x0 x2_1) n = F6 at hf ih7
            unfold fX12_heavy_l13 at hf
            refine zr_iload 4 dX12_heavy_13 rfl ?_
            refine zr_bipush 8 dX12_heavy_15 (by decide) ?_
            refine zr_icmp_ge 80 dX12_heavy_17 (by decide) (fun hc => ?_) (fun hc => ?_)
            · rw [if_pos hc] at hf
              cases hf
              exact zr_lv [0, 1, 2, 3] rfl hj9
            · rw [if_neg hc] at hf
              refine zr_iload_n 3 dX12_heavy_20 rfl ?_
              refine zr_aload_n 0 dX12_heavy_21 rfl ?_
              refine zr_bipush 19 dX12_heavy_22 (by decide) ?_
              refine zr_iload 4 dX12_heavy_24 rfl ?_
              refine zr_iadd dX12_heavy_26 ?_
              replace hf := zb1_s hf
              obtain ⟨v11, h10, hf⟩ := hf
              refine zr_callV (ci := 12) [.int (19 + x4_5)] (cX12_of_ok h10) zvs_X12_of zl_1029 zl_1030 (fX12_of_ck h10) rfl rfl zl_1028 rfl (Nat.le_of_ble_eq_true rfl) (Nat.le_of_ble_eq_true rfl) (Nat.le_of_ble_eq_true rfl) (Nat.le_of_ble_eq_true rfl) dX12_heavy_27 rfl ?_
              refine zr_aload_n 0 dX12_heavy_30 rfl ?_
              refine zr_bipush 19 dX12_heavy_31 (by decide) ?_
              refine zr_iload_n 2 dX12_heavy_33 rfl ?_
              refine zr_iadd dX12_heavy_34 ?_
              replace hf := zb1_s hf
              obtain ⟨v13, h12, hf⟩ := hf
              refine zr_callV (ci := 12) [.int (19 + x2_1)] (cX12_of_ok h12) zvs_X12_of zl_1029 zl_1030 (fX12_of_ck h12) rfl rfl zl_1028 rfl (Nat.le_of_ble_eq_true rfl) (Nat.le_of_ble_eq_true rfl) (Nat.le_of_ble_eq_true rfl) (Nat.le_of_ble_eq_true rfl) dX12_heavy_35 rfl ?_
              replace hf := zb1_s hf
              obtain ⟨s14, hg, hf⟩ := hf
              have hj15 : zz K cX12_heavy (5, RX12, some .int, 1, 0, 0, some (.int r), μ) 0 0 72 [(0, .ref x0), (1, .int x1), (2, .int x2_1), (4, .int x4_5)] [.int s14, .int x3_4] μ := by
                refine zr_iadd dX12_heavy_72 ?_
                refine zr_istore_n [(3, .int (x3_4 + s14)), (0, .ref x0), (1, .int x1), (2, .int x2_1), (4, .int x4_5)] dX12_heavy_73 (Nat.le_of_ble_eq_true rfl) rfl ?_
                refine zr_iinc (j := 4) (x4_5 + 1) [(4, .int (x4_5 + 1)), (3, .int (x3_4 + s14)), (0, .ref x0), (1, .int x1), (2, .int x2_1)] dX12_heavy_74 rfl rfl (Nat.le_of_ble_eq_true rfl) rfl ?_
                refine zr_goto 13 dX12_heavy_77 (by decide) ?_
                exact zr_lv [2, 3, 4, 1, 0] rfl (ih7 (x3_4 + s14) (x4_5 + 1) hf)
              clear hf
              have hf := hg
              clear hg
              refine zr_icmp_gt 67 dX12_heavy_38 (by decide) (fun hc => ?_) (fun hc => ?_)
              · rw [if_pos hc] at hf
                refine zr_iconst 1 dX12_heavy_67 (by decide) ?_
                refine zr_goto 72 dX12_heavy_68 (by decide) ?_
                cases hf
                exact zr_lv [0, 1, 2, 4] rfl hj15
              · rw [if_neg hc] at hf
                refine zr_aload_n 0 dX12_heavy_41 rfl ?_
                refine zr_bipush 19 dX12_heavy_42 (by decide) ?_
                refine zr_iload 4 dX12_heavy_44 rfl ?_
                refine zr_iadd dX12_heavy_46 ?_
                replace hf := zb1_s hf
                obtain ⟨v17, h16, hf⟩ := hf
                refine zr_callV (ci := 12) [.int (19 + x4_5)] (cX12_of_ok h16) zvs_X12_of zl_1029 zl_1030 (fX12_of_ck h16) rfl rfl zl_1028 rfl (Nat.le_of_ble_eq_true rfl) (Nat.le_of_ble_eq_true rfl) (Nat.le_of_ble_eq_true rfl) (Nat.le_of_ble_eq_true rfl) dX12_heavy_47 rfl ?_
                refine zr_aload_n 0 dX12_heavy_50 rfl ?_
                refine zr_bipush 19 dX12_heavy_51 (by decide) ?_
                refine zr_iload_n 2 dX12_heavy_53 rfl ?_
                refine zr_iadd dX12_heavy_54 ?_
                replace hf := zb1_s hf
                obtain ⟨v19, h18, hf⟩ := hf
                refine zr_callV (ci := 12) [.int (19 + x2_1)] (cX12_of_ok h18) zvs_X12_of zl_1029 zl_1030 (fX12_of_ck h18) rfl rfl zl_1028 rfl (Nat.le_of_ble_eq_true rfl) (Nat.le_of_ble_eq_true rfl) (Nat.le_of_ble_eq_true rfl) (Nat.le_of_ble_eq_true rfl) dX12_heavy_55 rfl ?_
                refine zr_icmp_ne 71 dX12_heavy_58 (by decide) (fun hc => ?_) (fun hc => ?_)
                · rw [if_neg hc] at hf
                  refine zr_iconst 0 dX12_heavy_71 (by decide) ?_
                  cases hf
                  exact zr_lv [0, 1, 2, 4] rfl hj15
                · rw [if_pos hc] at hf
                  refine zr_iload 4 dX12_heavy_61 rfl ?_
                  refine zr_iload_n 2 dX12_heavy_63 rfl ?_
                  refine zr_icmp_ge 71 dX12_heavy_64 (by decide) (fun hc => ?_) (fun hc => ?_)
                  · rw [if_pos hc] at hf
                    refine zr_iconst 0 dX12_heavy_71 (by decide) ?_
                    cases hf
                    exact zr_lv [0, 1, 2, 4] rfl hj15
                  · rw [if_neg hc] at hf
                    refine zr_iconst 1 dX12_heavy_67 (by decide) ?_
                    refine zr_goto 72 dX12_heavy_68 (by decide) ?_
                    cases hf
                    exact zr_lv [0, 1, 2, 4] rfl hj15
        exact zr_lv [2, 3, 4, 1, 0] rfl (hL20 _ 0 0 hf)
  exact zr_lv [1, 2, 0] rfl (hL23 _ 0 hf)
theorem zl_1183 : Cond.code yX12_heavy cX12_heavy 5 (some .int) ∈ zt := zt_at 1844 (by decide +kernel)
theorem zvs_X12_heavy : zvS yX12_heavy cX12_heavy 5 (some .int) 1 := ⟨zl_1183, zl_893, ⟨by decide +kernel, by decide +kernel, by decide +kernel⟩, by decide⟩
theorem zl_1184 : Cond.methodLink RX12 420 yX12_heavy ∈ zt := zt_at 1841 (by decide +kernel)
theorem zl_1185 : Cond.instanceMethod yX12_heavy ∈ zt := zt_at 1843 (by decide +kernel)
theorem zl_1186 : Cond.selects RX12 yX12_heavy yX12_heavy ∈ zt := zt_at 101 (by decide +kernel)
theorem zl_1187 : Cond.constant RX12 423 1000000 ∈ zt := zt_at 1845 (by decide +kernel)
theorem dX12_treeOf_0 : decode cX12_treeOf 0 = .ok (.iconst 1, 1) := by decide +kernel
theorem dX12_treeOf_1 : decode cX12_treeOf 1 = .ok (.iload_n 1, 1) := by decide +kernel
theorem dX12_treeOf_2 : decode cX12_treeOf 2 = .ok (.ishl, 1) := by decide +kernel
theorem dX12_treeOf_3 : decode cX12_treeOf 3 = .ok (.istore_n 2, 1) := by decide +kernel
theorem dX12_treeOf_4 : decode cX12_treeOf 4 = .ok (.iconst 0, 1) := by decide +kernel
theorem dX12_treeOf_5 : decode cX12_treeOf 5 = .ok (.istore_n 3, 1) := by decide +kernel
theorem dX12_treeOf_6 : decode cX12_treeOf 6 = .ok (.iload_n 3, 1) := by decide +kernel
theorem dX12_treeOf_7 : decode cX12_treeOf 7 = .ok (.iload_n 2, 1) := by decide +kernel
theorem dX12_treeOf_8 : decode cX12_treeOf 8 = .ok (.if_icmp .gt 20, 3) := by decide +kernel
theorem dX12_treeOf_11 : decode cX12_treeOf 11 = .ok (.aload_n 0, 1) := by decide +kernel
theorem dX12_treeOf_12 : decode cX12_treeOf 12 = .ok (.getfield 71, 3) := by decide +kernel
theorem dX12_treeOf_15 : decode cX12_treeOf 15 = .ok (.sipush 1032, 3) := by decide +kernel
theorem dX12_treeOf_18 : decode cX12_treeOf 18 = .ok (.iload_n 3, 1) := by decide +kernel
theorem dX12_treeOf_19 : decode cX12_treeOf 19 = .ok (.iadd, 1) := by decide +kernel
theorem dX12_treeOf_20 : decode cX12_treeOf 20 = .ok (.iconst 0, 1) := by decide +kernel
theorem dX12_treeOf_21 : decode cX12_treeOf 21 = .ok (.iastore, 1) := by decide +kernel
theorem dX12_treeOf_22 : decode cX12_treeOf 22 = .ok (.iinc 3 1, 3) := by decide +kernel
theorem dX12_treeOf_25 : decode cX12_treeOf 25 = .ok (.goto (-19), 3) := by decide +kernel
theorem dX12_treeOf_28 : decode cX12_treeOf 28 = .ok (.bipush 7, 2) := by decide +kernel
theorem dX12_treeOf_30 : decode cX12_treeOf 30 = .ok (.istore_n 3, 1) := by decide +kernel
theorem dX12_treeOf_31 : decode cX12_treeOf 31 = .ok (.iload_n 3, 1) := by decide +kernel
theorem dX12_treeOf_32 : decode cX12_treeOf 32 = .ok (.ifCond .lt 115, 3) := by decide +kernel
theorem dX12_treeOf_35 : decode cX12_treeOf 35 = .ok (.aload_n 0, 1) := by decide +kernel
theorem dX12_treeOf_36 : decode cX12_treeOf 36 = .ok (.iload_n 3, 1) := by decide +kernel
theorem dX12_treeOf_37 : decode cX12_treeOf 37 = .ok (.invokevirtual 420, 3) := by decide +kernel
theorem dX12_treeOf_40 : decode cX12_treeOf 40 = .ok (.istore 4, 2) := by decide +kernel
theorem dX12_treeOf_42 : decode cX12_treeOf 42 = .ok (.iconst 0, 1) := by decide +kernel
theorem dX12_treeOf_43 : decode cX12_treeOf 43 = .ok (.istore 5, 2) := by decide +kernel
theorem dX12_treeOf_45 : decode cX12_treeOf 45 = .ok (.iload 5, 2) := by decide +kernel
theorem dX12_treeOf_47 : decode cX12_treeOf 47 = .ok (.iload_n 2, 1) := by decide +kernel
theorem dX12_treeOf_48 : decode cX12_treeOf 48 = .ok (.if_icmp .gt 93, 3) := by decide +kernel
theorem dX12_treeOf_51 : decode cX12_treeOf 51 = .ok (.ldc_w 423, 3) := by decide +kernel
theorem dX12_treeOf_54 : decode cX12_treeOf 54 = .ok (.istore 6, 2) := by decide +kernel
theorem dX12_treeOf_56 : decode cX12_treeOf 56 = .ok (.iconst 1, 1) := by decide +kernel
theorem dX12_treeOf_57 : decode cX12_treeOf 57 = .ok (.istore 7, 2) := by decide +kernel
theorem dX12_treeOf_59 : decode cX12_treeOf 59 = .ok (.iload 7, 2) := by decide +kernel
theorem dX12_treeOf_61 : decode cX12_treeOf 61 = .ok (.iload_n 1, 1) := by decide +kernel
theorem dX12_treeOf_62 : decode cX12_treeOf 62 = .ok (.if_icmp .gt 58, 3) := by decide +kernel
theorem dX12_treeOf_65 : decode cX12_treeOf 65 = .ok (.iload_n 2, 1) := by decide +kernel
theorem dX12_treeOf_66 : decode cX12_treeOf 66 = .ok (.iload 7, 2) := by decide +kernel
theorem dX12_treeOf_68 : decode cX12_treeOf 68 = .ok (.ishr, 1) := by decide +kernel
theorem dX12_treeOf_69 : decode cX12_treeOf 69 = .ok (.istore 8, 2) := by decide +kernel
theorem dX12_treeOf_71 : decode cX12_treeOf 71 = .ok (.iload 8, 2) := by decide +kernel
theorem dX12_treeOf_73 : decode cX12_treeOf 73 = .ok (.iload 5, 2) := by decide +kernel
theorem dX12_treeOf_75 : decode cX12_treeOf 75 = .ok (.if_icmp .gt 35, 3) := by decide +kernel
theorem dX12_treeOf_78 : decode cX12_treeOf 78 = .ok (.iload 6, 2) := by decide +kernel
theorem dX12_treeOf_80 : decode cX12_treeOf 80 = .ok (.iload 7, 2) := by decide +kernel
theorem dX12_treeOf_82 : decode cX12_treeOf 82 = .ok (.iload 4, 2) := by decide +kernel
theorem dX12_treeOf_84 : decode cX12_treeOf 84 = .ok (.imul, 1) := by decide +kernel
theorem dX12_treeOf_85 : decode cX12_treeOf 85 = .ok (.aload_n 0, 1) := by decide +kernel
theorem dX12_treeOf_86 : decode cX12_treeOf 86 = .ok (.getfield 71, 3) := by decide +kernel
theorem dX12_treeOf_89 : decode cX12_treeOf 89 = .ok (.sipush 129, 3) := by decide +kernel
theorem dX12_treeOf_92 : decode cX12_treeOf 92 = .ok (.iload_n 3, 1) := by decide +kernel
theorem dX12_treeOf_93 : decode cX12_treeOf 93 = .ok (.iconst 1, 1) := by decide +kernel
theorem dX12_treeOf_94 : decode cX12_treeOf 94 = .ok (.iadd, 1) := by decide +kernel
theorem dX12_treeOf_95 : decode cX12_treeOf 95 = .ok (.imul, 1) := by decide +kernel
theorem dX12_treeOf_96 : decode cX12_treeOf 96 = .ok (.iload 5, 2) := by decide +kernel
theorem dX12_treeOf_98 : decode cX12_treeOf 98 = .ok (.iadd, 1) := by decide +kernel
theorem dX12_treeOf_99 : decode cX12_treeOf 99 = .ok (.iload 8, 2) := by decide +kernel
theorem dX12_treeOf_101 : decode cX12_treeOf 101 = .ok (.isub, 1) := by decide +kernel
theorem dX12_treeOf_102 : decode cX12_treeOf 102 = .ok (.iaload, 1) := by decide +kernel
theorem dX12_treeOf_103 : decode cX12_treeOf 103 = .ok (.iadd, 1) := by decide +kernel
theorem dX12_treeOf_104 : decode cX12_treeOf 104 = .ok (.invokestatic 404, 3) := by decide +kernel
theorem dX12_treeOf_107 : decode cX12_treeOf 107 = .ok (.goto 5, 3) := by decide +kernel
theorem dX12_treeOf_110 : decode cX12_treeOf 110 = .ok (.iload 6, 2) := by decide +kernel
theorem dX12_treeOf_112 : decode cX12_treeOf 112 = .ok (.istore 6, 2) := by decide +kernel
theorem dX12_treeOf_114 : decode cX12_treeOf 114 = .ok (.iinc 7 1, 3) := by decide +kernel
theorem dX12_treeOf_117 : decode cX12_treeOf 117 = .ok (.goto (-58), 3) := by decide +kernel
theorem dX12_treeOf_120 : decode cX12_treeOf 120 = .ok (.aload_n 0, 1) := by decide +kernel
theorem dX12_treeOf_121 : decode cX12_treeOf 121 = .ok (.getfield 71, 3) := by decide +kernel
theorem dX12_treeOf_124 : decode cX12_treeOf 124 = .ok (.sipush 129, 3) := by decide +kernel
theorem dX12_treeOf_127 : decode cX12_treeOf 127 = .ok (.iload_n 3, 1) := by decide +kernel
theorem dX12_treeOf_128 : decode cX12_treeOf 128 = .ok (.imul, 1) := by decide +kernel
theorem dX12_treeOf_129 : decode cX12_treeOf 129 = .ok (.iload 5, 2) := by decide +kernel
theorem dX12_treeOf_131 : decode cX12_treeOf 131 = .ok (.iadd, 1) := by decide +kernel
theorem dX12_treeOf_132 : decode cX12_treeOf 132 = .ok (.iload 6, 2) := by decide +kernel
theorem dX12_treeOf_134 : decode cX12_treeOf 134 = .ok (.iastore, 1) := by decide +kernel
theorem dX12_treeOf_135 : decode cX12_treeOf 135 = .ok (.iinc 5 1, 3) := by decide +kernel
theorem dX12_treeOf_138 : decode cX12_treeOf 138 = .ok (.goto (-93), 3) := by decide +kernel
theorem dX12_treeOf_141 : decode cX12_treeOf 141 = .ok (.iinc 3 (-1), 3) := by decide +kernel
theorem dX12_treeOf_144 : decode cX12_treeOf 144 = .ok (.goto (-113), 3) := by decide +kernel
theorem dX12_treeOf_147 : decode cX12_treeOf 147 = .ok (.aload_n 0, 1) := by decide +kernel
theorem dX12_treeOf_148 : decode cX12_treeOf 148 = .ok (.getfield 71, 3) := by decide +kernel
theorem dX12_treeOf_151 : decode cX12_treeOf 151 = .ok (.iload_n 2, 1) := by decide +kernel
theorem dX12_treeOf_152 : decode cX12_treeOf 152 = .ok (.iaload, 1) := by decide +kernel
theorem dX12_treeOf_153 : decode cX12_treeOf 153 = .ok (.ireturn, 1) := by decide +kernel
noncomputable def fX12_treeOf_l6 (x1 : Int32) (x0 : Nat) (F3 : Int32 → zM → Option (zM)) (x3_1 : Int32) (m2 : zM) : Option (zM) :=
  if (1 <<< (x1 &&& 31)) < x3_1 then (
  some m2)
  else (
  zb1 (zm_gR m2 12 x0 43) fun v7 =>
  zb1 (zm_sI m2 0 v7 (1032 + x3_1) 0) fun m9 =>
  F3 (x3_1 + 1) m9)
noncomputable def fX12_treeOf_l59 (x1 : Int32) (x5_20 : Int32) (m21 : zM) (x0 : Nat) (x3_12 : Int32) (v19 : Int32) (F28 : Int32 → Int32 → Option (Int32)) (x6_26 : Int32) (x7_27 : Int32) : Option (Int32) :=
  if x1 < x7_27 then (
  some x6_26)
  else (
  zb1 (if x5_20 < (((1 : Int32) <<< (x1 &&& 31)) >>> (x7_27 &&& 31)) then (
  some x6_26)
  else (
  zb1 (zm_gR m21 12 x0 43) fun v34 =>
  zb1 (zm_aI m21 0 v34 (((129 * (x3_12 + 1)) + x5_20) - (((1 : Int32) <<< (x1 &&& 31)) >>> (x7_27 &&& 31)))) fun v36 =>
  zb1 (fX12_lesser m21 x6_26 ((x7_27 * v19) + v36)) fun v39 =>
  some v39) : Option (Int32)) fun (s32 : Int32) =>
  F28 s32 (x7_27 + 1))
noncomputable def fX12_treeOf_l45 (x1 : Int32) (x0 : Nat) (x3_12 : Int32) (v19 : Int32) (F22 : Int32 → zM → Option (zM)) (x5_20 : Int32) (m21 : zM) : Option (zM) :=
  if (1 <<< (x1 &&& 31)) < x5_20 then (
  some m21)
  else (
  zb1 (zf2 (fX12_treeOf_l59 x1 x5_20 m21 x0 x3_12 v19) zfu 1000000 1 : Option (Int32)) fun (x6_30 : Int32) =>
  zb1 (zm_gR m21 12 x0 43) fun v41 =>
  zb1 (zm_sI m21 0 v41 ((129 * x3_12) + x5_20) x6_30) fun m43 =>
  F22 (x5_20 + 1) m43)
noncomputable def fX12_treeOf_l31 (x0 : Nat) (x1 : Int32) (F14 : Int32 → zM → Option (zM)) (x3_12 : Int32) (m13 : zM) : Option (zM) :=
  if x3_12 < 0 then (
  some m13)
  else (
  zb1 (fX12_heavy m13 x0 x3_12) fun v19 =>
  zb1 (zf2 (fX12_treeOf_l45 x1 x0 x3_12 v19) zfu 0 m13 : Option (zM)) fun (m24 : zM) =>
  F14 (x3_12 + (-1)) m24)
noncomputable def fX12_treeOf (μ : zM) (x0 : Nat) (x1 : Int32) : Option (Int32 × zM) := zgd (zm_ck μ 12 x0) <|
  zb1 (zf2 (fX12_treeOf_l6 x1 x0) zfu 0 μ : Option (zM)) fun (m5 : zM) =>
  zb1 (zf2 (fX12_treeOf_l31 x0 x1) zfu 7 m5 : Option (zM)) fun (m16 : zM) =>
  zb1 (zm_gR m16 12 x0 43) fun v47 =>
  zb1 (zm_aI m16 0 v47 (1 <<< (x1 &&& 31))) fun v49 =>
  some (v49, m16)
theorem fX12_treeOf_ck {μ : zM} {x0 : Nat} {x1 : Int32} {z : Int32 × zM} (h : fX12_treeOf μ x0 x1 = some z) : zm_ck μ 12 x0 = true := (zgd_s h).1
set_option maxHeartbeats 4000000 in
set_option maxRecDepth 100000 in
theorem cX12_treeOf_ok {μ : zM} {x0 : Nat} {x1 : Int32} {r : Int32} {mo : zM} (hf : fX12_treeOf μ x0 x1 = some (r, mo)) : zC yX12_treeOf cX12_treeOf 9 (some .int) 2 0 0 [.ref x0, .int x1] μ (some (.int r)) mo := by
  replace hf := (zgd_s hf).2
  refine zC.of (by decide) (Nat.le_of_ble_eq_true rfl) (fun K hin => ?_)
  clear hin
  show zz K cX12_treeOf (9, RX12, some .int, 2, 0, 0, some (.int r), mo) 0 0 0 [(0, .ref x0), (1, .int x1)] [] μ
  refine zr_iconst 1 dX12_treeOf_0 (by decide) ?_
  refine zr_iload_n 1 dX12_treeOf_1 rfl ?_
  refine zr_ishl dX12_treeOf_2 ?_
  refine zr_istore_n [(2, .int (1 <<< (x1 &&& 31))), (0, .ref x0), (1, .int x1)] dX12_treeOf_3 (Nat.le_of_ble_eq_true rfl) rfl ?_
  refine zr_iconst 0 dX12_treeOf_4 (by decide) ?_
  refine zr_istore_n [(3, .int 0), (2, .int (1 <<< (x1 &&& 31))), (0, .ref x0), (1, .int x1)] dX12_treeOf_5 (Nat.le_of_ble_eq_true rfl) rfl ?_
  replace hf := zb1_s hf
  obtain ⟨m5, hg, hf⟩ := hf
  have hj6 : zz K cX12_treeOf (9, RX12, some .int, 2, 0, 0, some (.int r), mo) 0 0 28 [(0, .ref x0), (1, .int x1), (2, .int (1 <<< (x1 &&& 31)))] [] m5 := by
    refine zr_bipush 7 dX12_treeOf_28 (by decide) ?_
    refine zr_istore_n [(3, .int 7), (0, .ref x0), (1, .int x1), (2, .int (1 <<< (x1 &&& 31)))] dX12_treeOf_30 (Nat.le_of_ble_eq_true rfl) rfl ?_
    replace hf := zb1_s hf
    obtain ⟨m16, hg, hf⟩ := hf
    have hj17 : zz K cX12_treeOf (9, RX12, some .int, 2, 0, 0, some (.int r), mo) 0 0 147 [(0, .ref x0), (2, .int (1 <<< (x1 &&& 31)))] [] m16 := by
      refine zr_aload_n 0 dX12_treeOf_147 rfl ?_
      replace hf := zb1_s hf
      obtain ⟨v47, h48, hf⟩ := hf
      refine zr_get (zm_gR_g h48) zk12 (by decide) zl_884 dX12_treeOf_148 ?_
      refine zr_iload_n 1 dX12_treeOf_151 rfl ?_
      replace hf := zb1_s hf
      obtain ⟨v49, h50, hf⟩ := hf
      refine zr_iald h50 dX12_treeOf_152 ?_
      cases hf
      exact zr_iret dX12_treeOf_153
    clear hf
    have hf := hg
    clear hg
    have hL46 : ∀ (n : Nat) (x3_12 : Int32) (m13 : zM), zf2 (fX12_treeOf_l31 x0 x1) n x3_12 m13 = some m16 → zz K cX12_treeOf (9, RX12, some .int, 2, 0, 0, some (.int r), mo) 0 0 31 [(0, .ref x0), (1, .int x1), (2, .int (1 <<< (x1 &&& 31))), (3, .int x3_12)] [] m13 := by
      intro n
      induction n with
      | zero => intro x3_12 m13 hf; cases hf
      | succ n ih15 =>
        intro x3_12 m13 hf
        replace hf := zf2_s hf
        generalize zf2 (fX12_treeOf_l31 x0 x1) n = F14 at hf ih15
        unfold fX12_treeOf_l31 at hf
        refine zr_iload_n 3 dX12_treeOf_31 rfl ?_
        refine zr_if_lt 147 dX12_treeOf_32 (by decide) (fun hc => ?_) (fun hc => ?_)
        · rw [if_pos hc] at hf
          cases hf
          exact zr_lv [0, 2] rfl hj17
        · rw [if_neg hc] at hf
          refine zr_aload_n 0 dX12_treeOf_35 rfl ?_
          refine zr_iload_n 3 dX12_treeOf_36 rfl ?_
          replace hf := zb1_s hf
          obtain ⟨v19, h18, hf⟩ := hf
          refine zr_callV (ci := 12) [.int x3_12] (cX12_heavy_ok h18) zvs_X12_heavy zl_1185 zl_1186 (fX12_heavy_ck h18) rfl rfl zl_1184 rfl (Nat.le_of_ble_eq_true rfl) (Nat.le_of_ble_eq_true rfl) (Nat.le_of_ble_eq_true rfl) (Nat.le_of_ble_eq_true rfl) dX12_treeOf_37 rfl ?_
          refine zr_istore [(4, .int v19), (0, .ref x0), (1, .int x1), (2, .int (1 <<< (x1 &&& 31))), (3, .int x3_12)] dX12_treeOf_40 (Nat.le_of_ble_eq_true rfl) rfl ?_
          refine zr_iconst 0 dX12_treeOf_42 (by decide) ?_
          refine zr_istore [(5, .int 0), (4, .int v19), (0, .ref x0), (1, .int x1), (2, .int (1 <<< (x1 &&& 31))), (3, .int x3_12)] dX12_treeOf_43 (Nat.le_of_ble_eq_true rfl) rfl ?_
          replace hf := zb1_s hf
          obtain ⟨m24, hg, hf⟩ := hf
          have hj25 : zz K cX12_treeOf (9, RX12, some .int, 2, 0, 0, some (.int r), mo) 0 0 141 [(0, .ref x0), (1, .int x1), (2, .int (1 <<< (x1 &&& 31))), (3, .int x3_12)] [] m24 := by
            refine zr_iinc (j := 3) (x3_12 + (-1)) [(3, .int (x3_12 + (-1))), (0, .ref x0), (1, .int x1), (2, .int (1 <<< (x1 &&& 31)))] dX12_treeOf_141 rfl rfl (Nat.le_of_ble_eq_true rfl) rfl ?_
            refine zr_goto 31 dX12_treeOf_144 (by decide) ?_
            exact zr_lv [1, 2, 3, 0] rfl (ih15 (x3_12 + (-1)) m24 hf)
          clear hf
          have hf := hg
          clear hg
          have hL45 : ∀ (n : Nat) (x5_20 : Int32) (m21 : zM), zf2 (fX12_treeOf_l45 x1 x0 x3_12 v19) n x5_20 m21 = some m24 → zz K cX12_treeOf (9, RX12, some .int, 2, 0, 0, some (.int r), mo) 0 0 45 [(0, .ref x0), (1, .int x1), (2, .int (1 <<< (x1 &&& 31))), (3, .int x3_12), (4, .int v19), (5, .int x5_20)] [] m21 := by
            intro n
            induction n with
            | zero => intro x5_20 m21 hf; cases hf
            | succ n ih23 =>
              intro x5_20 m21 hf
              replace hf := zf2_s hf
              generalize zf2 (fX12_treeOf_l45 x1 x0 x3_12 v19) n = F22 at hf ih23
              unfold fX12_treeOf_l45 at hf
              refine zr_iload 5 dX12_treeOf_45 rfl ?_
              refine zr_iload_n 2 dX12_treeOf_47 rfl ?_
              refine zr_icmp_gt 141 dX12_treeOf_48 (by decide) (fun hc => ?_) (fun hc => ?_)
              · rw [if_pos hc] at hf
                cases hf
                exact zr_lv [0, 1, 2, 3] rfl hj25
              · rw [if_neg hc] at hf
                refine zr_ldcw zl_1187 dX12_treeOf_51 ?_
                refine zr_istore [(6, .int 1000000), (0, .ref x0), (1, .int x1), (2, .int (1 <<< (x1 &&& 31))), (3, .int x3_12), (4, .int v19), (5, .int x5_20)] dX12_treeOf_54 (Nat.le_of_ble_eq_true rfl) rfl ?_
                refine zr_iconst 1 dX12_treeOf_56 (by decide) ?_
                refine zr_istore [(7, .int 1), (6, .int 1000000), (0, .ref x0), (1, .int x1), (2, .int (1 <<< (x1 &&& 31))), (3, .int x3_12), (4, .int v19), (5, .int x5_20)] dX12_treeOf_57 (Nat.le_of_ble_eq_true rfl) rfl ?_
                replace hf := zb1_s hf
                obtain ⟨x6_30, hg, hf⟩ := hf
                have hj31 : zz K cX12_treeOf (9, RX12, some .int, 2, 0, 0, some (.int r), mo) 0 0 120 [(0, .ref x0), (1, .int x1), (2, .int (1 <<< (x1 &&& 31))), (3, .int x3_12), (4, .int v19), (5, .int x5_20), (6, .int x6_30)] [] m21 := by
                  refine zr_aload_n 0 dX12_treeOf_120 rfl ?_
                  replace hf := zb1_s hf
                  obtain ⟨v41, h42, hf⟩ := hf
                  refine zr_get (zm_gR_g h42) zk12 (by decide) zl_884 dX12_treeOf_121 ?_
                  refine zr_sipush 129 dX12_treeOf_124 (by decide) ?_
                  refine zr_iload_n 3 dX12_treeOf_127 rfl ?_
                  refine zr_imul dX12_treeOf_128 ?_
                  refine zr_iload 5 dX12_treeOf_129 rfl ?_
                  refine zr_iadd dX12_treeOf_131 ?_
                  refine zr_iload 6 dX12_treeOf_132 rfl ?_
                  replace hf := zb1_s hf
                  obtain ⟨m43, h44, hf⟩ := hf
                  refine zr_iast h44 dX12_treeOf_134 ?_
                  refine zr_iinc (j := 5) (x5_20 + 1) [(5, .int (x5_20 + 1)), (0, .ref x0), (1, .int x1), (2, .int (1 <<< (x1 &&& 31))), (3, .int x3_12), (4, .int v19), (6, .int x6_30)] dX12_treeOf_135 rfl rfl (Nat.le_of_ble_eq_true rfl) rfl ?_
                  refine zr_goto 45 dX12_treeOf_138 (by decide) ?_
                  exact zr_lv [1, 2, 3, 4, 5, 0] rfl (ih23 (x5_20 + 1) m43 hf)
                clear hf
                have hf := hg
                clear hg
                have hL40 : ∀ (n : Nat) (x6_26 : Int32) (x7_27 : Int32), zf2 (fX12_treeOf_l59 x1 x5_20 m21 x0 x3_12 v19) n x6_26 x7_27 = some x6_30 → zz K cX12_treeOf (9, RX12, some .int, 2, 0, 0, some (.int r), mo) 0 0 59 [(0, .ref x0), (1, .int x1), (2, .int (1 <<< (x1 &&& 31))), (3, .int x3_12), (4, .int v19), (5, .int x5_20), (6, .int x6_26), (7, .int x7_27)] [] m21 := by
                  intro n
                  induction n with
                  | zero => intro x6_26 x7_27 hf; cases hf
                  | succ n ih29 =>
                    intro x6_26 x7_27 hf
                    replace hf := zf2_s hf
                    generalize zf2 (fX12_treeOf_l59 x1 x5_20 m21 x0 x3_12 v19) n = F28 at hf ih29
                    unfold fX12_treeOf_l59 at hf
                    refine zr_iload 7 dX12_treeOf_59 rfl ?_
                    refine zr_iload_n 1 dX12_treeOf_61 rfl ?_
                    refine zr_icmp_gt 120 dX12_treeOf_62 (by decide) (fun hc => ?_) (fun hc => ?_)
                    · rw [if_pos hc] at hf
                      cases hf
                      exact zr_lv [0, 1, 2, 3, 4, 5, 6] rfl hj31
                    · rw [if_neg hc] at hf
                      refine zr_iload_n 2 dX12_treeOf_65 rfl ?_
                      refine zr_iload 7 dX12_treeOf_66 rfl ?_
                      refine zr_ishr dX12_treeOf_68 ?_
                      refine zr_istore [(8, .int (((1 : Int32) <<< (x1 &&& 31)) >>> (x7_27 &&& 31))), (0, .ref x0), (1, .int x1), (2, .int (1 <<< (x1 &&& 31))), (3, .int x3_12), (4, .int v19), (5, .int x5_20), (6, .int x6_26), (7, .int x7_27)] dX12_treeOf_69 (Nat.le_of_ble_eq_true rfl) rfl ?_
                      refine zr_iload 0 dX12_treeOf_71 rfl ?_
                      refine zr_iload 6 dX12_treeOf_73 rfl ?_
                      replace hf := zb1_s hf
                      obtain ⟨s32, hg, hf⟩ := hf
                      have hj33 : zz K cX12_treeOf (9, RX12, some .int, 2, 0, 0, some (.int r), mo) 0 0 112 [(0, .ref x0), (1, .int x1), (2, .int (1 <<< (x1 &&& 31))), (3, .int x3_12), (4, .int v19), (5, .int x5_20), (7, .int x7_27)] [.int s32] m21 := by
                        refine zr_istore [(6, .int s32), (0, .ref x0), (1, .int x1), (2, .int (1 <<< (x1 &&& 31))), (3, .int x3_12), (4, .int v19), (5, .int x5_20), (7, .int x7_27)] dX12_treeOf_112 (Nat.le_of_ble_eq_true rfl) rfl ?_
                        refine zr_iinc (j := 7) (x7_27 + 1) [(7, .int (x7_27 + 1)), (6, .int s32), (0, .ref x0), (1, .int x1), (2, .int (1 <<< (x1 &&& 31))), (3, .int x3_12), (4, .int v19), (5, .int x5_20)] dX12_treeOf_114 rfl rfl (Nat.le_of_ble_eq_true rfl) rfl ?_
                        refine zr_goto 59 dX12_treeOf_117 (by decide) ?_
                        exact zr_lv [2, 3, 4, 5, 6, 7, 1, 0] rfl (ih29 s32 (x7_27 + 1) hf)
                      clear hf
                      have hf := hg
                      clear hg
                      refine zr_icmp_gt 110 dX12_treeOf_75 (by decide) (fun hc => ?_) (fun hc => ?_)
                      · rw [if_pos hc] at hf
                        refine zr_iload 7 dX12_treeOf_110 rfl ?_
                        cases hf
                        exact zr_lv [1, 2, 3, 4, 5, 6, 8] rfl hj33
                      · rw [if_neg hc] at hf
                        refine zr_iload 7 dX12_treeOf_78 rfl ?_
                        refine zr_iload 8 dX12_treeOf_80 rfl ?_
                        refine zr_iload 5 dX12_treeOf_82 rfl ?_
                        refine zr_imul dX12_treeOf_84 ?_
                        refine zr_aload_n 1 dX12_treeOf_85 rfl ?_
                        replace hf := zb1_s hf
                        obtain ⟨v34, h35, hf⟩ := hf
                        refine zr_get (zm_gR_g h35) zk12 (by decide) zl_884 dX12_treeOf_86 ?_
                        refine zr_sipush 129 dX12_treeOf_89 (by decide) ?_
                        refine zr_iload_n 4 dX12_treeOf_92 rfl ?_
                        refine zr_iconst 1 dX12_treeOf_93 (by decide) ?_
                        refine zr_iadd dX12_treeOf_94 ?_
                        refine zr_imul dX12_treeOf_95 ?_
                        refine zr_iload 6 dX12_treeOf_96 rfl ?_
                        refine zr_iadd dX12_treeOf_98 ?_
                        refine zr_iload 0 dX12_treeOf_99 rfl ?_
                        refine zr_isub dX12_treeOf_101 ?_
                        replace hf := zb1_s hf
                        obtain ⟨v36, h37, hf⟩ := hf
                        refine zr_iald h37 dX12_treeOf_102 ?_
                        refine zr_iadd dX12_treeOf_103 ?_
                        replace hf := zb1_s hf
                        obtain ⟨v39, h38, hf⟩ := hf
                        refine zr_callS [.int x6_26, .int ((x7_27 * v19) + v36)] (cX12_lesser_ok h38) zvs_X12_lesser zl_1167 zl_1166 rfl (Nat.le_of_ble_eq_true rfl) (Nat.le_of_ble_eq_true rfl) (Nat.le_of_ble_eq_true rfl) (Nat.le_of_ble_eq_true rfl) dX12_treeOf_104 rfl ?_
                        refine zr_goto 112 dX12_treeOf_107 (by decide) ?_
                        cases hf
                        exact zr_lv [1, 2, 3, 4, 5, 6, 8] rfl hj33
                exact zr_lv [2, 3, 4, 5, 6, 7, 1, 0] rfl (hL40 _ 1000000 1 hf)
          exact zr_lv [2, 3, 4, 5, 1, 0] rfl (hL45 _ 0 m13 hf)
    exact zr_lv [1, 2, 3, 0] rfl (hL46 _ 7 m5 hf)
  clear hf
  have hf := hg
  clear hg
  have hL11 : ∀ (n : Nat) (x3_1 : Int32) (m2 : zM), zf2 (fX12_treeOf_l6 x1 x0) n x3_1 m2 = some m5 → zz K cX12_treeOf (9, RX12, some .int, 2, 0, 0, some (.int r), mo) 0 0 6 [(0, .ref x0), (1, .int x1), (2, .int (1 <<< (x1 &&& 31))), (3, .int x3_1)] [] m2 := by
    intro n
    induction n with
    | zero => intro x3_1 m2 hf; cases hf
    | succ n ih4 =>
      intro x3_1 m2 hf
      replace hf := zf2_s hf
      generalize zf2 (fX12_treeOf_l6 x1 x0) n = F3 at hf ih4
      unfold fX12_treeOf_l6 at hf
      refine zr_iload_n 3 dX12_treeOf_6 rfl ?_
      refine zr_iload_n 2 dX12_treeOf_7 rfl ?_
      refine zr_icmp_gt 28 dX12_treeOf_8 (by decide) (fun hc => ?_) (fun hc => ?_)
      · rw [if_pos hc] at hf
        cases hf
        exact zr_lv [0, 1, 2] rfl hj6
      · rw [if_neg hc] at hf
        refine zr_aload_n 0 dX12_treeOf_11 rfl ?_
        replace hf := zb1_s hf
        obtain ⟨v7, h8, hf⟩ := hf
        refine zr_get (zm_gR_g h8) zk12 (by decide) zl_884 dX12_treeOf_12 ?_
        refine zr_sipush 1032 dX12_treeOf_15 (by decide) ?_
        refine zr_iload_n 3 dX12_treeOf_18 rfl ?_
        refine zr_iadd dX12_treeOf_19 ?_
        refine zr_iconst 0 dX12_treeOf_20 (by decide) ?_
        replace hf := zb1_s hf
        obtain ⟨m9, h10, hf⟩ := hf
        refine zr_iast h10 dX12_treeOf_21 ?_
        refine zr_iinc (j := 3) (x3_1 + 1) [(3, .int (x3_1 + 1)), (0, .ref x0), (1, .int x1), (2, .int (1 <<< (x1 &&& 31)))] dX12_treeOf_22 rfl rfl (Nat.le_of_ble_eq_true rfl) rfl ?_
        refine zr_goto 6 dX12_treeOf_25 (by decide) ?_
        exact zr_lv [1, 2, 3, 0] rfl (ih4 (x3_1 + 1) m9 hf)
  exact zr_lv [2, 3, 1, 0] rfl (hL11 _ 0 μ hf)
theorem zl_1188 : Cond.code yX12_treeOf cX12_treeOf 9 (some .int) ∈ zt := zt_at 1840 (by decide +kernel)
theorem zvs_X12_treeOf : zvS yX12_treeOf cX12_treeOf 9 (some .int) 1 := ⟨zl_1188, zl_893, ⟨by decide +kernel, by decide +kernel, by decide +kernel⟩, by decide⟩
theorem zl_1189 : Cond.methodLink RX12 424 yX12_treeOf ∈ zt := zt_at 1837 (by decide +kernel)
theorem zl_1190 : Cond.instanceMethod yX12_treeOf ∈ zt := zt_at 1839 (by decide +kernel)
theorem zl_1191 : Cond.selects RX12 yX12_treeOf yX12_treeOf ∈ zt := zt_at 100 (by decide +kernel)
theorem dX12_talk_0 : decode cX12_talk 0 = .ok (.aload_n 0, 1) := by decide +kernel
theorem dX12_talk_1 : decode cX12_talk 1 = .ok (.iconst 0, 1) := by decide +kernel
theorem dX12_talk_2 : decode cX12_talk 2 = .ok (.putfield 93, 3) := by decide +kernel
theorem dX12_talk_5 : decode cX12_talk 5 = .ok (.aload_n 0, 1) := by decide +kernel
theorem dX12_talk_6 : decode cX12_talk 6 = .ok (.iload_n 1, 1) := by decide +kernel
theorem dX12_talk_7 : decode cX12_talk 7 = .ok (.invokevirtual 298, 3) := by decide +kernel
theorem dX12_talk_10 : decode cX12_talk 10 = .ok (.ifCond .eq 18, 3) := by decide +kernel
theorem dX12_talk_13 : decode cX12_talk 13 = .ok (.iload_n 2, 1) := by decide +kernel
theorem dX12_talk_14 : decode cX12_talk 14 = .ok (.iconst (-1), 1) := by decide +kernel
theorem dX12_talk_15 : decode cX12_talk 15 = .ok (.if_icmp .eq 15, 3) := by decide +kernel
theorem dX12_talk_18 : decode cX12_talk 18 = .ok (.iload_n 2, 1) := by decide +kernel
theorem dX12_talk_19 : decode cX12_talk 19 = .ok (.iconst 3, 1) := by decide +kernel
theorem dX12_talk_20 : decode cX12_talk 20 = .ok (.bipush 7, 2) := by decide +kernel
theorem dX12_talk_22 : decode cX12_talk 22 = .ok (.invokestatic 101, 3) := by decide +kernel
theorem dX12_talk_25 : decode cX12_talk 25 = .ok (.ifCond .ne 5, 3) := by decide +kernel
theorem dX12_talk_28 : decode cX12_talk 28 = .ok (.iconst (-1), 1) := by decide +kernel
theorem dX12_talk_29 : decode cX12_talk 29 = .ok (.ireturn, 1) := by decide +kernel
theorem dX12_talk_30 : decode cX12_talk 30 = .ok (.aload_n 0, 1) := by decide +kernel
theorem dX12_talk_31 : decode cX12_talk 31 = .ok (.iload_n 2, 1) := by decide +kernel
theorem dX12_talk_32 : decode cX12_talk 32 = .ok (.iconst (-1), 1) := by decide +kernel
theorem dX12_talk_33 : decode cX12_talk 33 = .ok (.if_icmp .ne 8, 3) := by decide +kernel
theorem dX12_talk_36 : decode cX12_talk 36 = .ok (.bipush 7, 2) := by decide +kernel
theorem dX12_talk_38 : decode cX12_talk 38 = .ok (.goto 4, 3) := by decide +kernel
theorem dX12_talk_41 : decode cX12_talk 41 = .ok (.iload_n 2, 1) := by decide +kernel
theorem dX12_talk_42 : decode cX12_talk 42 = .ok (.invokevirtual 424, 3) := by decide +kernel
theorem dX12_talk_45 : decode cX12_talk 45 = .ok (.ireturn, 1) := by decide +kernel
noncomputable def fX12_talk_b30 (x2 : Int32) (m4 : zM) (x0 : Nat) : Option (Int32 × zM) :=
  zb1 (if x2 = (-1) then (
  some 7)
  else (
  some x2) : Option (Int32)) fun (s6 : Int32) =>
  zb2 (fX12_treeOf m4 x0 s6) fun v10 m9 =>
  some (v10, m9)
noncomputable def fX12_talk (μ : zM) (x0 : Nat) (x1 : Int32) (x2 : Int32) : Option (Int32 × zM) := zgd (zm_ck μ 12 x0) <|
  zb1 (zm_p μ 12 x0 0 (.int 0)) fun m1 =>
  zb2 (fX12_hand m1 x0 x1) fun v5 m4 =>
  if v5 = 0 then (
  some ((-1), m4))
  else (
  if x2 = (-1) then (
  fX12_talk_b30 x2 m4 x0)
  else (
  zb1 (fX12_in m4 x2 3 7) fun v13 =>
  if v13 = 0 then (
  some ((-1), m4))
  else (
  fX12_talk_b30 x2 m4 x0)))
theorem fX12_talk_ck {μ : zM} {x0 : Nat} {x1 : Int32} {x2 : Int32} {z : Int32 × zM} (h : fX12_talk μ x0 x1 x2 = some z) : zm_ck μ 12 x0 = true := (zgd_s h).1
set_option maxHeartbeats 4000000 in
set_option maxRecDepth 100000 in
theorem cX12_talk_ok {μ : zM} {x0 : Nat} {x1 : Int32} {x2 : Int32} {r : Int32} {mo : zM} (hf : fX12_talk μ x0 x1 x2 = some (r, mo)) : zC yX12_talk cX12_talk 3 (some .int) 3 0 0 [.ref x0, .int x1, .int x2] μ (some (.int r)) mo := by
  replace hf := (zgd_s hf).2
  refine zC.of (by decide) (Nat.le_of_ble_eq_true rfl) (fun K hin => ?_)
  clear hin
  show zz K cX12_talk (3, RX12, some .int, 3, 0, 0, some (.int r), mo) 0 0 0 [(0, .ref x0), (1, .int x1), (2, .int x2)] [] μ
  refine zr_aload_n 0 dX12_talk_0 rfl ?_
  refine zr_iconst 0 dX12_talk_1 (by decide) ?_
  replace hf := zb1_s hf
  obtain ⟨m1, h2, hf⟩ := hf
  refine zr_put h2 zk12 (by decide) zl_899 rfl rfl rfl dX12_talk_2 ?_
  refine zr_aload_n 0 dX12_talk_5 rfl ?_
  refine zr_iload_n 1 dX12_talk_6 rfl ?_
  replace hf := zb2_s hf
  obtain ⟨v5, m4, h3, hf⟩ := hf
  refine zr_callV (ci := 12) [.int x1] (cX12_hand_ok h3) zvs_X12_hand zl_1057 zl_1058 (fX12_hand_ck h3) rfl rfl zl_1056 rfl (Nat.le_of_ble_eq_true rfl) (Nat.le_of_ble_eq_true rfl) (Nat.le_of_ble_eq_true rfl) (Nat.le_of_ble_eq_true rfl) dX12_talk_7 rfl ?_
  refine zr_if_eq 28 dX12_talk_10 (by decide) (fun hc => ?_) (fun hc => ?_)
  · rw [if_pos hc] at hf
    refine zr_iconst (-1) dX12_talk_28 (by decide) ?_
    cases hf
    exact zr_iret dX12_talk_29
  · rw [if_neg hc] at hf
    refine zr_iload_n 2 dX12_talk_13 rfl ?_
    refine zr_iconst (-1) dX12_talk_14 (by decide) ?_
    have hb11 : ∀ (_ : Unit), fX12_talk_b30 x2 m4 x0 = some (r, mo) → zz K cX12_talk (3, RX12, some .int, 3, 0, 0, some (.int r), mo) 0 0 30 [(0, .ref x0), (2, .int x2)] [] m4 := by
      intro _ hf
      unfold fX12_talk_b30 at hf
      refine zr_aload_n 0 dX12_talk_30 rfl ?_
      refine zr_iload_n 1 dX12_talk_31 rfl ?_
      refine zr_iconst (-1) dX12_talk_32 (by decide) ?_
      replace hf := zb1_s hf
      obtain ⟨s6, hg, hf⟩ := hf
      have hj7 : zz K cX12_talk (3, RX12, some .int, 3, 0, 0, some (.int r), mo) 0 0 42 [] [.int s6, .ref x0] m4 := by
        replace hf := zb2_s hf
        obtain ⟨v10, m9, h8, hf⟩ := hf
        refine zr_callV (ci := 12) [.int s6] (cX12_treeOf_ok h8) zvs_X12_treeOf zl_1190 zl_1191 (fX12_treeOf_ck h8) rfl rfl zl_1189 rfl (Nat.le_of_ble_eq_true rfl) (Nat.le_of_ble_eq_true rfl) (Nat.le_of_ble_eq_true rfl) (Nat.le_of_ble_eq_true rfl) dX12_talk_42 rfl ?_
        cases hf
        exact zr_iret dX12_talk_45
      clear hf
      have hf := hg
      clear hg
      refine zr_icmp_ne 41 dX12_talk_33 (by decide) (fun hc => ?_) (fun hc => ?_)
      · rw [if_neg hc] at hf
        refine zr_iload_n 1 dX12_talk_41 rfl ?_
        cases hf
        exact zr_lv [] rfl hj7
      · rw [if_pos hc] at hf
        refine zr_bipush 7 dX12_talk_36 (by decide) ?_
        refine zr_goto 42 dX12_talk_38 (by decide) ?_
        cases hf
        exact zr_lv [] rfl hj7
    refine zr_icmp_eq 30 dX12_talk_15 (by decide) (fun hc => ?_) (fun hc => ?_)
    · rw [if_pos hc] at hf
      exact zr_lv [0, 2] rfl (hb11 () hf)
    · rw [if_neg hc] at hf
      refine zr_iload_n 2 dX12_talk_18 rfl ?_
      refine zr_iconst 3 dX12_talk_19 (by decide) ?_
      refine zr_bipush 7 dX12_talk_20 (by decide) ?_
      replace hf := zb1_s hf
      obtain ⟨v13, h12, hf⟩ := hf
      refine zr_callS [.int x2, .int 3, .int 7] (cX12_in_ok h12) zvs_X12_in zl_898 zl_897 rfl (Nat.le_of_ble_eq_true rfl) (Nat.le_of_ble_eq_true rfl) (Nat.le_of_ble_eq_true rfl) (Nat.le_of_ble_eq_true rfl) dX12_talk_22 rfl ?_
      refine zr_if_ne 30 dX12_talk_25 (by decide) (fun hc => ?_) (fun hc => ?_)
      · rw [if_neg hc] at hf
        exact zr_lv [0, 2] rfl (hb11 () hf)
      · rw [if_pos hc] at hf
        refine zr_iconst (-1) dX12_talk_28 (by decide) ?_
        cases hf
        exact zr_iret dX12_talk_29
