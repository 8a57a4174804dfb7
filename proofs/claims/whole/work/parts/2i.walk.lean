theorem dX10_weightFrom_0 : decode cX10_weightFrom 0 = .ok (.iconst 0, 1) := by decide +kernel
theorem dX10_weightFrom_1 : decode cX10_weightFrom 1 = .ok (.istore_n 2, 1) := by decide +kernel
theorem dX10_weightFrom_2 : decode cX10_weightFrom 2 = .ok (.iload_n 1, 1) := by decide +kernel
theorem dX10_weightFrom_3 : decode cX10_weightFrom 3 = .ok (.istore_n 3, 1) := by decide +kernel
theorem dX10_weightFrom_4 : decode cX10_weightFrom 4 = .ok (.iload_n 3, 1) := by decide +kernel
theorem dX10_weightFrom_5 : decode cX10_weightFrom 5 = .ok (.bipush 8, 2) := by decide +kernel
theorem dX10_weightFrom_7 : decode cX10_weightFrom 7 = .ok (.if_icmp .ge 15, 3) := by decide +kernel
theorem dX10_weightFrom_10 : decode cX10_weightFrom 10 = .ok (.iload_n 2, 1) := by decide +kernel
theorem dX10_weightFrom_11 : decode cX10_weightFrom 11 = .ok (.aload_n 0, 1) := by decide +kernel
theorem dX10_weightFrom_12 : decode cX10_weightFrom 12 = .ok (.iload_n 3, 1) := by decide +kernel
theorem dX10_weightFrom_13 : decode cX10_weightFrom 13 = .ok (.iaload, 1) := by decide +kernel
theorem dX10_weightFrom_14 : decode cX10_weightFrom 14 = .ok (.iadd, 1) := by decide +kernel
theorem dX10_weightFrom_15 : decode cX10_weightFrom 15 = .ok (.istore_n 2, 1) := by decide +kernel
theorem dX10_weightFrom_16 : decode cX10_weightFrom 16 = .ok (.iinc 3 1, 3) := by decide +kernel
theorem dX10_weightFrom_19 : decode cX10_weightFrom 19 = .ok (.goto (-15), 3) := by decide +kernel
theorem dX10_weightFrom_22 : decode cX10_weightFrom 22 = .ok (.iload_n 2, 1) := by decide +kernel
theorem dX10_weightFrom_23 : decode cX10_weightFrom 23 = .ok (.ireturn, 1) := by decide +kernel
noncomputable def fX10_weightFrom_l4 (μ : zM) (x0 : Nat) (F3 : Int32 → Int32 → Option (Int32)) (x2_1 : Int32) (x3_2 : Int32) : Option (Int32) :=
  if 8 ≤ x3_2 then (
  some x2_1)
  else (
  zb1 (zm_aI μ 0 x0 x3_2) fun v7 =>
  F3 (x2_1 + v7) (x3_2 + 1))
noncomputable def fX10_weightFrom (μ : zM) (x0 : Nat) (x1 : Int32) : Option (Int32) :=
  zb1 (zf2 (fX10_weightFrom_l4 μ x0) zfu 0 x1 : Option (Int32)) fun (x2_5 : Int32) =>
  some x2_5
set_option maxHeartbeats 4000000 in
set_option maxRecDepth 100000 in
theorem cX10_weightFrom_ok {μ : zM} {x0 : Nat} {x1 : Int32} {r : Int32} (hf : fX10_weightFrom μ x0 x1 = some r) : zC yX10_weightFrom cX10_weightFrom 4 (some .int) 0 0 0 [.ref x0, .int x1] μ (some (.int r)) μ := by
  unfold fX10_weightFrom at hf
  refine zC.of (by decide) (Nat.le_of_ble_eq_true rfl) (fun K hin => ?_)
  clear hin
  show zz K cX10_weightFrom (4, RX10, some .int, 0, 0, 0, some (.int r), μ) 0 0 0 [(0, .ref x0), (1, .int x1)] [] μ
  refine zr_iconst 0 dX10_weightFrom_0 (by decide) ?_
  refine zr_istore_n [(2, .int 0), (0, .ref x0), (1, .int x1)] dX10_weightFrom_1 (Nat.le_of_ble_eq_true rfl) rfl ?_
  refine zr_iload_n 2 dX10_weightFrom_2 rfl ?_
  refine zr_istore_n [(3, .int x1), (2, .int 0), (0, .ref x0), (1, .int x1)] dX10_weightFrom_3 (Nat.le_of_ble_eq_true rfl) rfl ?_
  replace hf := zb1_s hf
  obtain ⟨x2_5, hg, hf⟩ := hf
  have hj6 : zz K cX10_weightFrom (4, RX10, some .int, 0, 0, 0, some (.int r), μ) 0 0 22 [(2, .int x2_5)] [] μ := by
    refine zr_iload_n 0 dX10_weightFrom_22 rfl ?_
    cases hf
    exact zr_iret dX10_weightFrom_23
  clear hf
  have hf := hg
  clear hg
  have hL9 : ∀ (n : Nat) (x2_1 : Int32) (x3_2 : Int32), zf2 (fX10_weightFrom_l4 μ x0) n x2_1 x3_2 = some x2_5 → zz K cX10_weightFrom (4, RX10, some .int, 0, 0, 0, some (.int r), μ) 0 0 4 [(0, .ref x0), (2, .int x2_1), (3, .int x3_2)] [] μ := by
    intro n
    induction n with
    | zero => intro x2_1 x3_2 hf; cases hf
    | succ n ih4 =>
      intro x2_1 x3_2 hf
      replace hf := zf2_s hf
      generalize zf2 (fX10_weightFrom_l4 μ x0) n = F3 at hf ih4
      unfold fX10_weightFrom_l4 at hf
      refine zr_iload_n 2 dX10_weightFrom_4 rfl ?_
      refine zr_bipush 8 dX10_weightFrom_5 (by decide) ?_
      refine zr_icmp_ge 22 dX10_weightFrom_7 (by decide) (fun hc => ?_) (fun hc => ?_)
      · rw [if_pos hc] at hf
        cases hf
        exact zr_lv [1] rfl hj6
      · rw [if_neg hc] at hf
        refine zr_iload_n 1 dX10_weightFrom_10 rfl ?_
        refine zr_aload_n 0 dX10_weightFrom_11 rfl ?_
        refine zr_iload_n 2 dX10_weightFrom_12 rfl ?_
        replace hf := zb1_s hf
        obtain ⟨v7, h8, hf⟩ := hf
        refine zr_iald h8 dX10_weightFrom_13 ?_
        refine zr_iadd dX10_weightFrom_14 ?_
        refine zr_istore_n [(2, .int (x2_1 + v7)), (0, .ref x0), (3, .int x3_2)] dX10_weightFrom_15 (Nat.le_of_ble_eq_true rfl) rfl ?_
        refine zr_iinc (j := 2) (x3_2 + 1) [(3, .int (x3_2 + 1)), (2, .int (x2_1 + v7)), (0, .ref x0)] dX10_weightFrom_16 rfl rfl (Nat.le_of_ble_eq_true rfl) rfl ?_
        refine zr_goto 4 dX10_weightFrom_19 (by decide) ?_
        exact zr_lv [2, 1, 0] rfl (ih4 (x2_1 + v7) (x3_2 + 1) hf)
  exact zr_lv [2, 1, 0] rfl (hL9 _ 0 x1 hf)
theorem zl_603 : Cond.constant RX10 43 1000000 ∈ zt := zt_at 1036 (by decide +kernel)
theorem zl_604 : Cond.code yX10_fewestBelow cX10_fewestBelow 7 (some .int) ∈ zt := zt_at 1035 (by decide +kernel)
theorem zvs_X10_fewestBelow : zvS yX10_fewestBelow cX10_fewestBelow 7 (some .int) 4 := ⟨zl_604, zl_596, ⟨by decide +kernel, by decide +kernel, by decide +kernel⟩, by decide⟩
theorem zl_605 : Cond.methodLink RX10 39 yX10_fewestBelow ∈ zt := zt_at 1033 (by decide +kernel)
theorem zl_606 : Cond.static yX10_fewestBelow ∈ zt := zt_at 1034 (by decide +kernel)
theorem zl_607 : Cond.code yX10_weightFrom cX10_weightFrom 4 (some .int) ∈ zt := zt_at 1039 (by decide +kernel)
theorem zvs_X10_weightFrom : zvS yX10_weightFrom cX10_weightFrom 4 (some .int) 2 := ⟨zl_607, zl_596, ⟨by decide +kernel, by decide +kernel, by decide +kernel⟩, by decide⟩
theorem zl_608 : Cond.methodLink RX10 44 yX10_weightFrom ∈ zt := zt_at 1037 (by decide +kernel)
theorem zl_609 : Cond.static yX10_weightFrom ∈ zt := zt_at 1038 (by decide +kernel)
theorem zl_610 : Cond.methodLink RX10 48 Lib.Math.min.name ∈ zt := zt_at 1040 (by decide +kernel)
theorem dX10_fewestBelow_0 : decode cX10_fewestBelow 0 = .ok (.bipush 8, 2) := by decide +kernel
theorem dX10_fewestBelow_2 : decode cX10_fewestBelow 2 = .ok (.iload_n 1, 1) := by decide +kernel
theorem dX10_fewestBelow_3 : decode cX10_fewestBelow 3 = .ok (.isub, 1) := by decide +kernel
theorem dX10_fewestBelow_4 : decode cX10_fewestBelow 4 = .ok (.iload_n 2, 1) := by decide +kernel
theorem dX10_fewestBelow_5 : decode cX10_fewestBelow 5 = .ok (.if_icmp .gt 5, 3) := by decide +kernel
theorem dX10_fewestBelow_8 : decode cX10_fewestBelow 8 = .ok (.iconst 0, 1) := by decide +kernel
theorem dX10_fewestBelow_9 : decode cX10_fewestBelow 9 = .ok (.ireturn, 1) := by decide +kernel
theorem dX10_fewestBelow_10 : decode cX10_fewestBelow 10 = .ok (.iload_n 3, 1) := by decide +kernel
theorem dX10_fewestBelow_11 : decode cX10_fewestBelow 11 = .ok (.ifCond .gt 6, 3) := by decide +kernel
theorem dX10_fewestBelow_14 : decode cX10_fewestBelow 14 = .ok (.ldc 43, 2) := by decide +kernel
theorem dX10_fewestBelow_16 : decode cX10_fewestBelow 16 = .ok (.ireturn, 1) := by decide +kernel
theorem dX10_fewestBelow_17 : decode cX10_fewestBelow 17 = .ok (.ldc 43, 2) := by decide +kernel
theorem dX10_fewestBelow_19 : decode cX10_fewestBelow 19 = .ok (.istore 4, 2) := by decide +kernel
theorem dX10_fewestBelow_21 : decode cX10_fewestBelow 21 = .ok (.iconst 0, 1) := by decide +kernel
theorem dX10_fewestBelow_22 : decode cX10_fewestBelow 22 = .ok (.istore 5, 2) := by decide +kernel
theorem dX10_fewestBelow_24 : decode cX10_fewestBelow 24 = .ok (.iload 5, 2) := by decide +kernel
theorem dX10_fewestBelow_26 : decode cX10_fewestBelow 26 = .ok (.iload_n 2, 1) := by decide +kernel
theorem dX10_fewestBelow_27 : decode cX10_fewestBelow 27 = .ok (.if_icmp .ge 46, 3) := by decide +kernel
theorem dX10_fewestBelow_30 : decode cX10_fewestBelow 30 = .ok (.aload_n 0, 1) := by decide +kernel
theorem dX10_fewestBelow_31 : decode cX10_fewestBelow 31 = .ok (.iload_n 1, 1) := by decide +kernel
theorem dX10_fewestBelow_32 : decode cX10_fewestBelow 32 = .ok (.iload 5, 2) := by decide +kernel
theorem dX10_fewestBelow_34 : decode cX10_fewestBelow 34 = .ok (.iadd, 1) := by decide +kernel
theorem dX10_fewestBelow_35 : decode cX10_fewestBelow 35 = .ok (.iconst 2, 1) := by decide +kernel
theorem dX10_fewestBelow_36 : decode cX10_fewestBelow 36 = .ok (.iload_n 2, 1) := by decide +kernel
theorem dX10_fewestBelow_37 : decode cX10_fewestBelow 37 = .ok (.iload 5, 2) := by decide +kernel
theorem dX10_fewestBelow_39 : decode cX10_fewestBelow 39 = .ok (.isub, 1) := by decide +kernel
theorem dX10_fewestBelow_40 : decode cX10_fewestBelow 40 = .ok (.imul, 1) := by decide +kernel
theorem dX10_fewestBelow_41 : decode cX10_fewestBelow 41 = .ok (.iload_n 3, 1) := by decide +kernel
theorem dX10_fewestBelow_42 : decode cX10_fewestBelow 42 = .ok (.iconst 1, 1) := by decide +kernel
theorem dX10_fewestBelow_43 : decode cX10_fewestBelow 43 = .ok (.isub, 1) := by decide +kernel
theorem dX10_fewestBelow_44 : decode cX10_fewestBelow 44 = .ok (.invokestatic 39, 3) := by decide +kernel
theorem dX10_fewestBelow_47 : decode cX10_fewestBelow 47 = .ok (.istore 6, 2) := by decide +kernel
theorem dX10_fewestBelow_49 : decode cX10_fewestBelow 49 = .ok (.iload 4, 2) := by decide +kernel
theorem dX10_fewestBelow_51 : decode cX10_fewestBelow 51 = .ok (.iload 6, 2) := by decide +kernel
theorem dX10_fewestBelow_53 : decode cX10_fewestBelow 53 = .ok (.aload_n 0, 1) := by decide +kernel
theorem dX10_fewestBelow_54 : decode cX10_fewestBelow 54 = .ok (.iload_n 1, 1) := by decide +kernel
theorem dX10_fewestBelow_55 : decode cX10_fewestBelow 55 = .ok (.iload 5, 2) := by decide +kernel
theorem dX10_fewestBelow_57 : decode cX10_fewestBelow 57 = .ok (.iadd, 1) := by decide +kernel
theorem dX10_fewestBelow_58 : decode cX10_fewestBelow 58 = .ok (.invokestatic 44, 3) := by decide +kernel
theorem dX10_fewestBelow_61 : decode cX10_fewestBelow 61 = .ok (.iadd, 1) := by decide +kernel
theorem dX10_fewestBelow_62 : decode cX10_fewestBelow 62 = .ok (.invokestatic 48, 3) := by decide +kernel
theorem dX10_fewestBelow_65 : decode cX10_fewestBelow 65 = .ok (.istore 4, 2) := by decide +kernel
theorem dX10_fewestBelow_67 : decode cX10_fewestBelow 67 = .ok (.iinc 5 1, 3) := by decide +kernel
theorem dX10_fewestBelow_70 : decode cX10_fewestBelow 70 = .ok (.goto (-46), 3) := by decide +kernel
theorem dX10_fewestBelow_73 : decode cX10_fewestBelow 73 = .ok (.iload 4, 2) := by decide +kernel
theorem dX10_fewestBelow_75 : decode cX10_fewestBelow 75 = .ok (.ireturn, 1) := by decide +kernel
noncomputable def fX10_fewestBelow_l24 (x2 : Int32) (FR : Nat → Int32 → Int32 → Int32 → Option (Int32)) (x0 : Nat) (x1 : Int32) (x3 : Int32) (μ : zM) (F3 : Int32 → Int32 → Option (Int32)) (x4_1 : Int32) (x5_2 : Int32) : Option (Int32) :=
  if x2 ≤ x5_2 then (
  some x4_1)
  else (
  zb1 (FR x0 (x1 + x5_2) (2 * (x2 - x5_2)) (x3 - 1)) fun v8 =>
  zb1 (fX10_weightFrom μ x0 (x1 + x5_2)) fun v10 =>
  F3 (if (v8 + v10) < x4_1 then (v8 + v10) else x4_1 : Int32) (x5_2 + 1))
noncomputable def fX10_fewestBelow_k (μ : zM) (FR : Nat → Int32 → Int32 → Int32 → Option (Int32)) (x0 : Nat) (x1 : Int32) (x2 : Int32) (x3 : Int32) : Option (Int32) :=
  if x2 < (8 - x1) then (
  if 0 < x3 then (
  zb1 (zf2 (fX10_fewestBelow_l24 x2 FR x0 x1 x3 μ) zfu 1000000 0 : Option (Int32)) fun (x4_5 : Int32) =>
  some x4_5)
  else (
  some 1000000))
  else (
  some 0)
noncomputable def fX10_fewestBelow (μ : zM) (x0 : Nat) (x1 : Int32) (x2 : Int32) (x3 : Int32) : Option (Int32) := zf4 (fX10_fewestBelow_k μ) 9 x0 x1 x2 x3
set_option maxHeartbeats 4000000 in
set_option maxRecDepth 100000 in
theorem cX10_fewestBelow_n (μ : zM) : ∀ (n : Nat) (x0 : Nat) (x1 : Int32) (x2 : Int32) (x3 : Int32) (r : Int32), zf4 (fX10_fewestBelow_k μ) n x0 x1 x2 x3 = some r → zC yX10_fewestBelow cX10_fewestBelow 7 (some .int) (1 + n) 0 0 [.ref x0, .int x1, .int x2, .int x3] μ (some (.int r)) μ := by
  intro n
  induction n with
  | zero => intro x0 x1 x2 x3 r hf; cases hf
  | succ n ihR =>
    intro x0 x1 x2 x3 r hf
    replace hf := zf4_s hf
    generalize zf4 (fX10_fewestBelow_k μ) n = FR at hf ihR
    unfold fX10_fewestBelow_k at hf
    refine zC.of (by decide) (Nat.le_of_ble_eq_true rfl) (fun K hin => ?_)
    clear hin
    show zz K cX10_fewestBelow (7, RX10, some .int, 1 + (n + 1), 0, 0, some (.int r), μ) 0 0 0 [(0, .ref x0), (1, .int x1), (2, .int x2), (3, .int x3)] [] μ
    refine zr_bipush 8 dX10_fewestBelow_0 (by decide) ?_
    refine zr_iload_n 1 dX10_fewestBelow_2 rfl ?_
    refine zr_isub dX10_fewestBelow_3 ?_
    refine zr_iload_n 2 dX10_fewestBelow_4 rfl ?_
    refine zr_icmp_gt 10 dX10_fewestBelow_5 (by decide) (fun hc => ?_) (fun hc => ?_)
    · rw [if_pos hc] at hf
      refine zr_iload_n 3 dX10_fewestBelow_10 rfl ?_
      refine zr_if_gt 17 dX10_fewestBelow_11 (by decide) (fun hc => ?_) (fun hc => ?_)
      · rw [if_pos hc] at hf
        refine zr_ldc zl_603 dX10_fewestBelow_17 ?_
        refine zr_istore [(4, .int 1000000), (0, .ref x0), (1, .int x1), (2, .int x2), (3, .int x3)] dX10_fewestBelow_19 (Nat.le_of_ble_eq_true rfl) rfl ?_
        refine zr_iconst 0 dX10_fewestBelow_21 (by decide) ?_
        refine zr_istore [(5, .int 0), (4, .int 1000000), (0, .ref x0), (1, .int x1), (2, .int x2), (3, .int x3)] dX10_fewestBelow_22 (Nat.le_of_ble_eq_true rfl) rfl ?_
        replace hf := zb1_s hf
        obtain ⟨x4_5, hg, hf⟩ := hf
        have hj6 : zz K cX10_fewestBelow (7, RX10, some .int, 1 + (n + 1), 0, 0, some (.int r), μ) 0 0 73 [(4, .int x4_5)] [] μ := by
          refine zr_iload 0 dX10_fewestBelow_73 rfl ?_
          cases hf
          exact zr_iret dX10_fewestBelow_75
        clear hf
        have hf := hg
        clear hg
        have hL11 : ∀ (tk : Nat) (x4_1 : Int32) (x5_2 : Int32), zf2 (fX10_fewestBelow_l24 x2 FR x0 x1 x3 μ) tk x4_1 x5_2 = some x4_5 → zz K cX10_fewestBelow (7, RX10, some .int, 1 + (n + 1), 0, 0, some (.int r), μ) 0 0 24 [(0, .ref x0), (1, .int x1), (2, .int x2), (3, .int x3), (4, .int x4_1), (5, .int x5_2)] [] μ := by
          intro tk
          induction tk with
          | zero => intro x4_1 x5_2 hf; cases hf
          | succ tk ih4 =>
            intro x4_1 x5_2 hf
            replace hf := zf2_s hf
            generalize zf2 (fX10_fewestBelow_l24 x2 FR x0 x1 x3 μ) tk = F3 at hf ih4
            unfold fX10_fewestBelow_l24 at hf
            refine zr_iload 5 dX10_fewestBelow_24 rfl ?_
            refine zr_iload_n 2 dX10_fewestBelow_26 rfl ?_
            refine zr_icmp_ge 73 dX10_fewestBelow_27 (by decide) (fun hc => ?_) (fun hc => ?_)
            · rw [if_pos hc] at hf
              cases hf
              exact zr_lv [4] rfl hj6
            · rw [if_neg hc] at hf
              refine zr_aload_n 0 dX10_fewestBelow_30 rfl ?_
              refine zr_iload_n 1 dX10_fewestBelow_31 rfl ?_
              refine zr_iload 5 dX10_fewestBelow_32 rfl ?_
              refine zr_iadd dX10_fewestBelow_34 ?_
              refine zr_iconst 2 dX10_fewestBelow_35 (by decide) ?_
              refine zr_iload_n 2 dX10_fewestBelow_36 rfl ?_
              refine zr_iload 5 dX10_fewestBelow_37 rfl ?_
              refine zr_isub dX10_fewestBelow_39 ?_
              refine zr_imul dX10_fewestBelow_40 ?_
              refine zr_iload_n 3 dX10_fewestBelow_41 rfl ?_
              refine zr_iconst 1 dX10_fewestBelow_42 (by decide) ?_
              refine zr_isub dX10_fewestBelow_43 ?_
              replace hf := zb1_s hf
              obtain ⟨v8, h7, hf⟩ := hf
              refine zr_callS [.ref x0, .int (x1 + x5_2), .int (2 * (x2 - x5_2)), .int (x3 - 1)] (ihR x0 (x1 + x5_2) (2 * (x2 - x5_2)) (x3 - 1) _ h7) zvs_X10_fewestBelow zl_606 zl_605 rfl (by show _ ≤ 1 + (n + 1); omega) (Nat.le_of_ble_eq_true rfl) (Nat.le_of_ble_eq_true rfl) (Nat.le_of_ble_eq_true rfl) dX10_fewestBelow_44 rfl ?_
              refine zr_istore [(6, .int v8), (0, .ref x0), (1, .int x1), (2, .int x2), (3, .int x3), (4, .int x4_1), (5, .int x5_2)] dX10_fewestBelow_47 (Nat.le_of_ble_eq_true rfl) rfl ?_
              refine zr_iload 5 dX10_fewestBelow_49 rfl ?_
              refine zr_iload 0 dX10_fewestBelow_51 rfl ?_
              refine zr_aload_n 1 dX10_fewestBelow_53 rfl ?_
              refine zr_iload_n 2 dX10_fewestBelow_54 rfl ?_
              refine zr_iload 6 dX10_fewestBelow_55 rfl ?_
              refine zr_iadd dX10_fewestBelow_57 ?_
              replace hf := zb1_s hf
              obtain ⟨v10, h9, hf⟩ := hf
              refine zr_callS [.ref x0, .int (x1 + x5_2)] (cX10_weightFrom_ok h9) zvs_X10_weightFrom zl_609 zl_608 rfl (by show _ ≤ 1 + (n + 1); omega) (Nat.le_of_ble_eq_true rfl) (Nat.le_of_ble_eq_true rfl) (Nat.le_of_ble_eq_true rfl) dX10_fewestBelow_58 rfl ?_
              refine zr_iadd dX10_fewestBelow_61 ?_
              refine zr_mmin zl_610 zl_430 zl_11 zl_431 (by show _ ≤ 1 + (n + 1); omega) (Nat.le_of_ble_eq_true rfl) (Nat.le_of_ble_eq_true rfl) (Nat.le_of_ble_eq_true rfl) dX10_fewestBelow_62 ?_
              refine zr_istore [(4, .int (if (v8 + v10) < x4_1 then (v8 + v10) else x4_1 : Int32)), (6, .int v8), (0, .ref x0), (1, .int x1), (2, .int x2), (3, .int x3), (5, .int x5_2)] dX10_fewestBelow_65 (Nat.le_of_ble_eq_true rfl) rfl ?_
              refine zr_iinc (j := 6) (x5_2 + 1) [(5, .int (x5_2 + 1)), (4, .int (if (v8 + v10) < x4_1 then (v8 + v10) else x4_1 : Int32)), (6, .int v8), (0, .ref x0), (1, .int x1), (2, .int x2), (3, .int x3)] dX10_fewestBelow_67 rfl rfl (Nat.le_of_ble_eq_true rfl) rfl ?_
              refine zr_goto 24 dX10_fewestBelow_70 (by decide) ?_
              exact zr_lv [3, 4, 5, 6, 1, 0] rfl (ih4 (if (v8 + v10) < x4_1 then (v8 + v10) else x4_1 : Int32) (x5_2 + 1) hf)
        exact zr_lv [2, 3, 4, 5, 1, 0] rfl (hL11 _ 1000000 0 hf)
      · rw [if_neg hc] at hf
        refine zr_ldc zl_603 dX10_fewestBelow_14 ?_
        cases hf
        exact zr_iret dX10_fewestBelow_16
    · rw [if_neg hc] at hf
      refine zr_iconst 0 dX10_fewestBelow_8 (by decide) ?_
      cases hf
      exact zr_iret dX10_fewestBelow_9
theorem cX10_fewestBelow_ok {μ : zM} {x0 : Nat} {x1 : Int32} {x2 : Int32} {x3 : Int32} {r : Int32} (hf : fX10_fewestBelow μ x0 x1 x2 x3 = some r) : zC yX10_fewestBelow cX10_fewestBelow 7 (some .int) 10 0 0 [.ref x0, .int x1, .int x2, .int x3] μ (some (.int r)) μ := cX10_fewestBelow_n μ 9 x0 x1 x2 x3 r hf
theorem zl_611 : Cond.fieldLink RX10 31 "TwoEchoes$Valley" "weight" "[I" ∈ zt := zt_at 185 (by decide +kernel)
theorem zl_612 : Cond.methodLink RX10 34 ⟨"[I", "clone", "()Ljava/lang/Object;"⟩ ∈ zt := zt_at 1026 (by decide +kernel)
theorem zl_613 : Cond.sameMethod "[I" "java/lang/Object" "clone" "()Ljava/lang/Object;" ∈ zt := zt_at 1027 (by decide +kernel)
theorem zl_614 : Cond.native ⟨"java/lang/Object", "clone", "()Ljava/lang/Object;"⟩ ∈ zt := zt_at 1028 (by decide +kernel)
theorem zl_615 : Cond.instanceMethod ⟨"java/lang/Object", "clone", "()Ljava/lang/Object;"⟩ ∈ zt := zt_at 1029 (by decide +kernel)
theorem zl_616 : Cond.selects "[I" ⟨"[I", "clone", "()Ljava/lang/Object;"⟩ ⟨"java/lang/Object", "clone", "()Ljava/lang/Object;"⟩ ∈ zt := zt_at 1030 (by decide +kernel)
theorem zl_617 : Cond.castable "[I" "java/lang/Cloneable" ∈ zn := zn_at 1031 (by decide +kernel)
theorem zl_618 : Cond.classLink RX10 35 "[I" ∈ zt := zt_at 1032 (by decide +kernel)
theorem dX10_fewestAnswers_0 : decode cX10_fewestAnswers 0 = .ok (.aload_n 0, 1) := by decide +kernel
theorem dX10_fewestAnswers_1 : decode cX10_fewestAnswers 1 = .ok (.getfield 31, 3) := by decide +kernel
theorem dX10_fewestAnswers_4 : decode cX10_fewestAnswers 4 = .ok (.invokevirtual 34, 3) := by decide +kernel
theorem dX10_fewestAnswers_7 : decode cX10_fewestAnswers 7 = .ok (.checkcast 35, 3) := by decide +kernel
theorem dX10_fewestAnswers_10 : decode cX10_fewestAnswers 10 = .ok (.astore_n 2, 1) := by decide +kernel
theorem dX10_fewestAnswers_11 : decode cX10_fewestAnswers 11 = .ok (.iconst 1, 1) := by decide +kernel
theorem dX10_fewestAnswers_12 : decode cX10_fewestAnswers 12 = .ok (.istore_n 3, 1) := by decide +kernel
theorem dX10_fewestAnswers_13 : decode cX10_fewestAnswers 13 = .ok (.iload_n 3, 1) := by decide +kernel
theorem dX10_fewestAnswers_14 : decode cX10_fewestAnswers 14 = .ok (.bipush 8, 2) := by decide +kernel
theorem dX10_fewestAnswers_16 : decode cX10_fewestAnswers 16 = .ok (.if_icmp .ge 60, 3) := by decide +kernel
theorem dX10_fewestAnswers_19 : decode cX10_fewestAnswers 19 = .ok (.iload_n 3, 1) := by decide +kernel
theorem dX10_fewestAnswers_20 : decode cX10_fewestAnswers 20 = .ok (.istore 4, 2) := by decide +kernel
theorem dX10_fewestAnswers_22 : decode cX10_fewestAnswers 22 = .ok (.iload 4, 2) := by decide +kernel
theorem dX10_fewestAnswers_24 : decode cX10_fewestAnswers 24 = .ok (.ifCond .le 46, 3) := by decide +kernel
theorem dX10_fewestAnswers_27 : decode cX10_fewestAnswers 27 = .ok (.aload_n 2, 1) := by decide +kernel
theorem dX10_fewestAnswers_28 : decode cX10_fewestAnswers 28 = .ok (.iload 4, 2) := by decide +kernel
theorem dX10_fewestAnswers_30 : decode cX10_fewestAnswers 30 = .ok (.iaload, 1) := by decide +kernel
theorem dX10_fewestAnswers_31 : decode cX10_fewestAnswers 31 = .ok (.aload_n 2, 1) := by decide +kernel
theorem dX10_fewestAnswers_32 : decode cX10_fewestAnswers 32 = .ok (.iload 4, 2) := by decide +kernel
theorem dX10_fewestAnswers_34 : decode cX10_fewestAnswers 34 = .ok (.iconst 1, 1) := by decide +kernel
theorem dX10_fewestAnswers_35 : decode cX10_fewestAnswers 35 = .ok (.isub, 1) := by decide +kernel
theorem dX10_fewestAnswers_36 : decode cX10_fewestAnswers 36 = .ok (.iaload, 1) := by decide +kernel
theorem dX10_fewestAnswers_37 : decode cX10_fewestAnswers 37 = .ok (.if_icmp .le 33, 3) := by decide +kernel
theorem dX10_fewestAnswers_40 : decode cX10_fewestAnswers 40 = .ok (.aload_n 2, 1) := by decide +kernel
theorem dX10_fewestAnswers_41 : decode cX10_fewestAnswers 41 = .ok (.iload 4, 2) := by decide +kernel
theorem dX10_fewestAnswers_43 : decode cX10_fewestAnswers 43 = .ok (.iconst 1, 1) := by decide +kernel
theorem dX10_fewestAnswers_44 : decode cX10_fewestAnswers 44 = .ok (.isub, 1) := by decide +kernel
theorem dX10_fewestAnswers_45 : decode cX10_fewestAnswers 45 = .ok (.iaload, 1) := by decide +kernel
theorem dX10_fewestAnswers_46 : decode cX10_fewestAnswers 46 = .ok (.istore 5, 2) := by decide +kernel
theorem dX10_fewestAnswers_48 : decode cX10_fewestAnswers 48 = .ok (.aload_n 2, 1) := by decide +kernel
theorem dX10_fewestAnswers_49 : decode cX10_fewestAnswers 49 = .ok (.iload 4, 2) := by decide +kernel
theorem dX10_fewestAnswers_51 : decode cX10_fewestAnswers 51 = .ok (.iconst 1, 1) := by decide +kernel
theorem dX10_fewestAnswers_52 : decode cX10_fewestAnswers 52 = .ok (.isub, 1) := by decide +kernel
theorem dX10_fewestAnswers_53 : decode cX10_fewestAnswers 53 = .ok (.aload_n 2, 1) := by decide +kernel
theorem dX10_fewestAnswers_54 : decode cX10_fewestAnswers 54 = .ok (.iload 4, 2) := by decide +kernel
theorem dX10_fewestAnswers_56 : decode cX10_fewestAnswers 56 = .ok (.iaload, 1) := by decide +kernel
theorem dX10_fewestAnswers_57 : decode cX10_fewestAnswers 57 = .ok (.iastore, 1) := by decide +kernel
theorem dX10_fewestAnswers_58 : decode cX10_fewestAnswers 58 = .ok (.aload_n 2, 1) := by decide +kernel
theorem dX10_fewestAnswers_59 : decode cX10_fewestAnswers 59 = .ok (.iload 4, 2) := by decide +kernel
theorem dX10_fewestAnswers_61 : decode cX10_fewestAnswers 61 = .ok (.iload 5, 2) := by decide +kernel
theorem dX10_fewestAnswers_63 : decode cX10_fewestAnswers 63 = .ok (.iastore, 1) := by decide +kernel
theorem dX10_fewestAnswers_64 : decode cX10_fewestAnswers 64 = .ok (.iinc 4 (-1), 3) := by decide +kernel
theorem dX10_fewestAnswers_67 : decode cX10_fewestAnswers 67 = .ok (.goto (-45), 3) := by decide +kernel
theorem dX10_fewestAnswers_70 : decode cX10_fewestAnswers 70 = .ok (.iinc 3 1, 3) := by decide +kernel
theorem dX10_fewestAnswers_73 : decode cX10_fewestAnswers 73 = .ok (.goto (-60), 3) := by decide +kernel
theorem dX10_fewestAnswers_76 : decode cX10_fewestAnswers 76 = .ok (.aload_n 2, 1) := by decide +kernel
theorem dX10_fewestAnswers_77 : decode cX10_fewestAnswers 77 = .ok (.iconst 0, 1) := by decide +kernel
theorem dX10_fewestAnswers_78 : decode cX10_fewestAnswers 78 = .ok (.iconst 1, 1) := by decide +kernel
theorem dX10_fewestAnswers_79 : decode cX10_fewestAnswers 79 = .ok (.iload_n 1, 1) := by decide +kernel
theorem dX10_fewestAnswers_80 : decode cX10_fewestAnswers 80 = .ok (.invokestatic 39, 3) := by decide +kernel
theorem dX10_fewestAnswers_83 : decode cX10_fewestAnswers 83 = .ok (.ireturn, 1) := by decide +kernel
noncomputable def fX10_fewestAnswers_l22 (μ : zM) (F13 : Int32 → zM → Option (zM)) (x4_11 : Int32) (m12 : zM) : Option (zM) :=
  if x4_11 ≤ 0 then (
  some m12)
  else (
  zb1 (zm_aI m12 0 μ.2.1 x4_11) fun v17 =>
  zb1 (zm_aI m12 0 μ.2.1 (x4_11 - 1)) fun v19 =>
  if v17 ≤ v19 then (
  some m12)
  else (
  zb1 (zm_aI m12 0 μ.2.1 (x4_11 - 1)) fun v21 =>
  zb1 (zm_aI m12 0 μ.2.1 x4_11) fun v23 =>
  zb1 (zm_sI m12 0 μ.2.1 (x4_11 - 1) v23) fun m25 =>
  zb1 (zm_sI m25 0 μ.2.1 x4_11 v21) fun m27 =>
  F13 (x4_11 + (-1)) m27))
noncomputable def fX10_fewestAnswers_l13 (μ : zM) (F7 : Int32 → zM → Option (zM)) (x3_5 : Int32) (m6 : zM) : Option (zM) :=
  if 8 ≤ x3_5 then (
  some m6)
  else (
  zb1 (zf2 (fX10_fewestAnswers_l22 μ) zfu x3_5 m6 : Option (zM)) fun (m15 : zM) =>
  F7 (x3_5 + 1) m15)
noncomputable def fX10_fewestAnswers (μ : zM) (x0 : Nat) (x1 : Int32) : Option (Int32 × zM) :=
  zb1 (zm_gR μ 9 x0 3) fun v1 =>
  zb1 (zm_cl μ v1 8) fun m3 =>
  zb1 (zf2 (fX10_fewestAnswers_l13 μ) zfu 1 m3 : Option (zM)) fun (m9 : zM) =>
  zb1 (fX10_fewestBelow m9 μ.2.1 0 1 x1) fun v32 =>
  some (v32, m9)
set_option maxHeartbeats 4000000 in
set_option maxRecDepth 100000 in
theorem cX10_fewestAnswers_ok {μ : zM} {x0 : Nat} {x1 : Int32} {r : Int32} {mo : zM} (hf : fX10_fewestAnswers μ x0 x1 = some (r, mo)) : zC yX10_fewestAnswers cX10_fewestAnswers 6 (some .int) 11 1 8 [.ref x0, .int x1] μ (some (.int r)) mo := by
  unfold fX10_fewestAnswers at hf
  refine zC.of (by decide) (Nat.le_of_ble_eq_true rfl) (fun K hin => ?_)
  clear hin
  show zz K cX10_fewestAnswers (6, RX10, some .int, 11, 1, 8, some (.int r), mo) 0 0 0 [(0, .ref x0), (1, .int x1)] [] μ
  refine zr_aload_n 0 dX10_fewestAnswers_0 rfl ?_
  replace hf := zb1_s hf
  obtain ⟨v1, h2, hf⟩ := hf
  refine zr_get (zm_gR_g h2) zk9 (by decide) zl_611 dX10_fewestAnswers_1 ?_
  replace hf := zb1_s hf
  obtain ⟨m3, h4, hf⟩ := hf
  refine zr_clone h4 zl_612 zl_613 zl_614 zl_615 zl_616 zl_617 (Nat.le_of_ble_eq_true rfl) (Nat.le_of_ble_eq_true rfl) (Nat.le_of_ble_eq_true rfl) (Nat.le_of_ble_eq_true rfl) dX10_fewestAnswers_4 ?_
  refine zr_castA (zm_cl_at h4) zl_618 dX10_fewestAnswers_7 ?_
  refine zr_astore_n [(2, .ref μ.2.1), (0, .ref x0), (1, .int x1)] dX10_fewestAnswers_10 (Nat.le_of_ble_eq_true rfl) rfl ?_
  refine zr_iconst 1 dX10_fewestAnswers_11 (by decide) ?_
  refine zr_istore_n [(3, .int 1), (2, .ref μ.2.1), (0, .ref x0), (1, .int x1)] dX10_fewestAnswers_12 (Nat.le_of_ble_eq_true rfl) rfl ?_
  replace hf := zb1_s hf
  obtain ⟨m9, hg, hf⟩ := hf
  have hj10 : zz K cX10_fewestAnswers (6, RX10, some .int, 11, 1, 8, some (.int r), mo) 1 8 76 [(1, .int x1), (2, .ref μ.2.1)] [] m9 := by
    refine zr_aload_n 1 dX10_fewestAnswers_76 rfl ?_
    refine zr_iconst 0 dX10_fewestAnswers_77 (by decide) ?_
    refine zr_iconst 1 dX10_fewestAnswers_78 (by decide) ?_
    refine zr_iload_n 0 dX10_fewestAnswers_79 rfl ?_
    replace hf := zb1_s hf
    obtain ⟨v32, h31, hf⟩ := hf
    refine zr_callS [.ref μ.2.1, .int 0, .int 1, .int x1] (cX10_fewestBelow_ok h31) zvs_X10_fewestBelow zl_606 zl_605 rfl (Nat.le_of_ble_eq_true rfl) (Nat.le_of_ble_eq_true rfl) (Nat.le_of_ble_eq_true rfl) (Nat.le_of_ble_eq_true rfl) dX10_fewestAnswers_80 rfl ?_
    cases hf
    exact zr_iret dX10_fewestAnswers_83
  clear hf
  have hf := hg
  clear hg
  have hL30 : ∀ (n : Nat) (x3_5 : Int32) (m6 : zM), zf2 (fX10_fewestAnswers_l13 μ) n x3_5 m6 = some m9 → zz K cX10_fewestAnswers (6, RX10, some .int, 11, 1, 8, some (.int r), mo) 1 8 13 [(1, .int x1), (2, .ref μ.2.1), (3, .int x3_5)] [] m6 := by
    intro n
    induction n with
    | zero => intro x3_5 m6 hf; cases hf
    | succ n ih8 =>
      intro x3_5 m6 hf
      replace hf := zf2_s hf
      generalize zf2 (fX10_fewestAnswers_l13 μ) n = F7 at hf ih8
      unfold fX10_fewestAnswers_l13 at hf
      refine zr_iload_n 2 dX10_fewestAnswers_13 rfl ?_
      refine zr_bipush 8 dX10_fewestAnswers_14 (by decide) ?_
      refine zr_icmp_ge 76 dX10_fewestAnswers_16 (by decide) (fun hc => ?_) (fun hc => ?_)
      · rw [if_pos hc] at hf
        cases hf
        exact zr_lv [0, 1] rfl hj10
      · rw [if_neg hc] at hf
        refine zr_iload_n 2 dX10_fewestAnswers_19 rfl ?_
        refine zr_istore [(4, .int x3_5), (1, .int x1), (2, .ref μ.2.1), (3, .int x3_5)] dX10_fewestAnswers_20 (Nat.le_of_ble_eq_true rfl) rfl ?_
        replace hf := zb1_s hf
        obtain ⟨m15, hg, hf⟩ := hf
        have hj16 : zz K cX10_fewestAnswers (6, RX10, some .int, 11, 1, 8, some (.int r), mo) 1 8 70 [(1, .int x1), (2, .ref μ.2.1), (3, .int x3_5)] [] m15 := by
          refine zr_iinc (j := 2) (x3_5 + 1) [(3, .int (x3_5 + 1)), (1, .int x1), (2, .ref μ.2.1)] dX10_fewestAnswers_70 rfl rfl (Nat.le_of_ble_eq_true rfl) rfl ?_
          refine zr_goto 13 dX10_fewestAnswers_73 (by decide) ?_
          exact zr_lv [1, 2, 0] rfl (ih8 (x3_5 + 1) m15 hf)
        clear hf
        have hf := hg
        clear hg
        have hL29 : ∀ (n : Nat) (x4_11 : Int32) (m12 : zM), zf2 (fX10_fewestAnswers_l22 μ) n x4_11 m12 = some m15 → zz K cX10_fewestAnswers (6, RX10, some .int, 11, 1, 8, some (.int r), mo) 1 8 22 [(1, .int x1), (2, .ref μ.2.1), (3, .int x3_5), (4, .int x4_11)] [] m12 := by
          intro n
          induction n with
          | zero => intro x4_11 m12 hf; cases hf
          | succ n ih14 =>
            intro x4_11 m12 hf
            replace hf := zf2_s hf
            generalize zf2 (fX10_fewestAnswers_l22 μ) n = F13 at hf ih14
            unfold fX10_fewestAnswers_l22 at hf
            refine zr_iload 3 dX10_fewestAnswers_22 rfl ?_
            refine zr_if_le 70 dX10_fewestAnswers_24 (by decide) (fun hc => ?_) (fun hc => ?_)
            · rw [if_pos hc] at hf
              cases hf
              exact zr_lv [0, 1, 2] rfl hj16
            · rw [if_neg hc] at hf
              refine zr_aload_n 1 dX10_fewestAnswers_27 rfl ?_
              refine zr_iload 3 dX10_fewestAnswers_28 rfl ?_
              replace hf := zb1_s hf
              obtain ⟨v17, h18, hf⟩ := hf
              refine zr_iald h18 dX10_fewestAnswers_30 ?_
              refine zr_aload_n 1 dX10_fewestAnswers_31 rfl ?_
              refine zr_iload 3 dX10_fewestAnswers_32 rfl ?_
              refine zr_iconst 1 dX10_fewestAnswers_34 (by decide) ?_
              refine zr_isub dX10_fewestAnswers_35 ?_
              replace hf := zb1_s hf
              obtain ⟨v19, h20, hf⟩ := hf
              refine zr_iald h20 dX10_fewestAnswers_36 ?_
              refine zr_icmp_le 70 dX10_fewestAnswers_37 (by decide) (fun hc => ?_) (fun hc => ?_)
              · rw [if_pos hc] at hf
                cases hf
                exact zr_lv [0, 1, 2] rfl hj16
              · rw [if_neg hc] at hf
                refine zr_aload_n 1 dX10_fewestAnswers_40 rfl ?_
                refine zr_iload 3 dX10_fewestAnswers_41 rfl ?_
                refine zr_iconst 1 dX10_fewestAnswers_43 (by decide) ?_
                refine zr_isub dX10_fewestAnswers_44 ?_
                replace hf := zb1_s hf
                obtain ⟨v21, h22, hf⟩ := hf
                refine zr_iald h22 dX10_fewestAnswers_45 ?_
                refine zr_istore [(5, .int v21), (1, .int x1), (2, .ref μ.2.1), (3, .int x3_5), (4, .int x4_11)] dX10_fewestAnswers_46 (Nat.le_of_ble_eq_true rfl) rfl ?_
                refine zr_aload_n 2 dX10_fewestAnswers_48 rfl ?_
                refine zr_iload 4 dX10_fewestAnswers_49 rfl ?_
                refine zr_iconst 1 dX10_fewestAnswers_51 (by decide) ?_
                refine zr_isub dX10_fewestAnswers_52 ?_
                refine zr_aload_n 2 dX10_fewestAnswers_53 rfl ?_
                refine zr_iload 4 dX10_fewestAnswers_54 rfl ?_
                replace hf := zb1_s hf
                obtain ⟨v23, h24, hf⟩ := hf
                refine zr_iald h24 dX10_fewestAnswers_56 ?_
                replace hf := zb1_s hf
                obtain ⟨m25, h26, hf⟩ := hf
                refine zr_iast h26 dX10_fewestAnswers_57 ?_
                refine zr_aload_n 2 dX10_fewestAnswers_58 rfl ?_
                refine zr_iload 4 dX10_fewestAnswers_59 rfl ?_
                refine zr_iload 0 dX10_fewestAnswers_61 rfl ?_
                replace hf := zb1_s hf
                obtain ⟨m27, h28, hf⟩ := hf
                refine zr_iast h28 dX10_fewestAnswers_63 ?_
                refine zr_iinc (j := 4) (x4_11 + (-1)) [(4, .int (x4_11 + (-1))), (5, .int v21), (1, .int x1), (2, .ref μ.2.1), (3, .int x3_5)] dX10_fewestAnswers_64 rfl rfl (Nat.le_of_ble_eq_true rfl) rfl ?_
                refine zr_goto 22 dX10_fewestAnswers_67 (by decide) ?_
                exact zr_lv [2, 3, 4, 0] rfl (ih14 (x4_11 + (-1)) m27 hf)
        exact zr_lv [1, 2, 3, 0] rfl (hL29 _ x3_5 m6 hf)
  exact zr_lv [3, 1, 0] rfl (hL30 _ 1 m3 hf)
theorem dX10_weightOfAll_0 : decode cX10_weightOfAll 0 = .ok (.lconst 0, 1) := by decide +kernel
theorem dX10_weightOfAll_1 : decode cX10_weightOfAll 1 = .ok (.lstore_n 1, 1) := by decide +kernel
theorem dX10_weightOfAll_2 : decode cX10_weightOfAll 2 = .ok (.iconst 0, 1) := by decide +kernel
theorem dX10_weightOfAll_3 : decode cX10_weightOfAll 3 = .ok (.istore_n 3, 1) := by decide +kernel
theorem dX10_weightOfAll_4 : decode cX10_weightOfAll 4 = .ok (.iload_n 3, 1) := by decide +kernel
theorem dX10_weightOfAll_5 : decode cX10_weightOfAll 5 = .ok (.bipush 8, 2) := by decide +kernel
theorem dX10_weightOfAll_7 : decode cX10_weightOfAll 7 = .ok (.if_icmp .ge 19, 3) := by decide +kernel
theorem dX10_weightOfAll_10 : decode cX10_weightOfAll 10 = .ok (.lload_n 1, 1) := by decide +kernel
theorem dX10_weightOfAll_11 : decode cX10_weightOfAll 11 = .ok (.aload_n 0, 1) := by decide +kernel
theorem dX10_weightOfAll_12 : decode cX10_weightOfAll 12 = .ok (.getfield 31, 3) := by decide +kernel
theorem dX10_weightOfAll_15 : decode cX10_weightOfAll 15 = .ok (.iload_n 3, 1) := by decide +kernel
theorem dX10_weightOfAll_16 : decode cX10_weightOfAll 16 = .ok (.iaload, 1) := by decide +kernel
theorem dX10_weightOfAll_17 : decode cX10_weightOfAll 17 = .ok (.i2l, 1) := by decide +kernel
theorem dX10_weightOfAll_18 : decode cX10_weightOfAll 18 = .ok (.ladd, 1) := by decide +kernel
theorem dX10_weightOfAll_19 : decode cX10_weightOfAll 19 = .ok (.lstore_n 1, 1) := by decide +kernel
theorem dX10_weightOfAll_20 : decode cX10_weightOfAll 20 = .ok (.iinc 3 1, 3) := by decide +kernel
theorem dX10_weightOfAll_23 : decode cX10_weightOfAll 23 = .ok (.goto (-19), 3) := by decide +kernel
theorem dX10_weightOfAll_26 : decode cX10_weightOfAll 26 = .ok (.lload_n 1, 1) := by decide +kernel
theorem dX10_weightOfAll_27 : decode cX10_weightOfAll 27 = .ok (.lreturn, 1) := by decide +kernel
noncomputable def fX10_weightOfAll_l4 (μ : zM) (x0 : Nat) (F3 : Int64 → Int32 → Option (Int64)) (x1_1 : Int64) (x3_2 : Int32) : Option (Int64) :=
  if 8 ≤ x3_2 then (
  some x1_1)
  else (
  zb1 (zm_gR μ 9 x0 3) fun v7 =>
  zb1 (zm_aI μ 0 v7 x3_2) fun v9 =>
  F3 (x1_1 + ((v9 : Int32).toInt64)) (x3_2 + 1))
noncomputable def fX10_weightOfAll (μ : zM) (x0 : Nat) : Option (Int64) :=
  zb1 (zf2 (fX10_weightOfAll_l4 μ x0) zfu 0 0 : Option (Int64)) fun (x1_5 : Int64) =>
  some x1_5
set_option maxHeartbeats 4000000 in
set_option maxRecDepth 100000 in
theorem cX10_weightOfAll_ok {μ : zM} {x0 : Nat} {r : Int64} (hf : fX10_weightOfAll μ x0 = some r) : zC yX10_weightOfAll cX10_weightOfAll 4 (some .long) 0 0 0 [.ref x0] μ (some (.long r)) μ := by
  unfold fX10_weightOfAll at hf
  refine zC.of (by decide) (Nat.le_of_ble_eq_true rfl) (fun K hin => ?_)
  clear hin
  show zz K cX10_weightOfAll (4, RX10, some .long, 0, 0, 0, some (.long r), μ) 0 0 0 [(0, .ref x0)] [] μ
  refine zr_lconst 0 dX10_weightOfAll_0 (by decide) ?_
  refine zr_lstore_n [(1, .long 0), (0, .ref x0)] dX10_weightOfAll_1 (Nat.le_of_ble_eq_true rfl) rfl ?_
  refine zr_iconst 0 dX10_weightOfAll_2 (by decide) ?_
  refine zr_istore_n [(3, .int 0), (1, .long 0), (0, .ref x0)] dX10_weightOfAll_3 (Nat.le_of_ble_eq_true rfl) rfl ?_
  replace hf := zb1_s hf
  obtain ⟨x1_5, hg, hf⟩ := hf
  have hj6 : zz K cX10_weightOfAll (4, RX10, some .long, 0, 0, 0, some (.long r), μ) 0 0 26 [(1, .long x1_5)] [] μ := by
    refine zr_lload_n 0 dX10_weightOfAll_26 rfl ?_
    cases hf
    exact zr_lret dX10_weightOfAll_27
  clear hf
  have hf := hg
  clear hg
  have hL11 : ∀ (n : Nat) (x1_1 : Int64) (x3_2 : Int32), zf2 (fX10_weightOfAll_l4 μ x0) n x1_1 x3_2 = some x1_5 → zz K cX10_weightOfAll (4, RX10, some .long, 0, 0, 0, some (.long r), μ) 0 0 4 [(0, .ref x0), (1, .long x1_1), (3, .int x3_2)] [] μ := by
    intro n
    induction n with
    | zero => intro x1_1 x3_2 hf; cases hf
    | succ n ih4 =>
      intro x1_1 x3_2 hf
      replace hf := zf2_s hf
      generalize zf2 (fX10_weightOfAll_l4 μ x0) n = F3 at hf ih4
      unfold fX10_weightOfAll_l4 at hf
      refine zr_iload_n 2 dX10_weightOfAll_4 rfl ?_
      refine zr_bipush 8 dX10_weightOfAll_5 (by decide) ?_
      refine zr_icmp_ge 26 dX10_weightOfAll_7 (by decide) (fun hc => ?_) (fun hc => ?_)
      · rw [if_pos hc] at hf
        cases hf
        exact zr_lv [1] rfl hj6
      · rw [if_neg hc] at hf
        refine zr_lload_n 1 dX10_weightOfAll_10 rfl ?_
        refine zr_aload_n 0 dX10_weightOfAll_11 rfl ?_
        replace hf := zb1_s hf
        obtain ⟨v7, h8, hf⟩ := hf
        refine zr_get (zm_gR_g h8) zk9 (by decide) zl_611 dX10_weightOfAll_12 ?_
        refine zr_iload_n 2 dX10_weightOfAll_15 rfl ?_
        replace hf := zb1_s hf
        obtain ⟨v9, h10, hf⟩ := hf
        refine zr_iald h10 dX10_weightOfAll_16 ?_
        refine zr_i2l dX10_weightOfAll_17 ?_
        refine zr_ladd dX10_weightOfAll_18 ?_
        refine zr_lstore_n [(1, .long (x1_1 + ((v9 : Int32).toInt64))), (0, .ref x0), (3, .int x3_2)] dX10_weightOfAll_19 (Nat.le_of_ble_eq_true rfl) rfl ?_
        refine zr_iinc (j := 2) (x3_2 + 1) [(3, .int (x3_2 + 1)), (1, .long (x1_1 + ((v9 : Int32).toInt64))), (0, .ref x0)] dX10_weightOfAll_20 rfl rfl (Nat.le_of_ble_eq_true rfl) rfl ?_
        refine zr_goto 4 dX10_weightOfAll_23 (by decide) ?_
        exact zr_lv [2, 1, 0] rfl (ih4 (x1_1 + ((v9 : Int32).toInt64)) (x3_2 + 1) hf)
  exact zr_lv [2, 1, 0] rfl (hL11 _ 0 0 hf)
theorem dX10_weightOfSelfSame_0 : decode cX10_weightOfSelfSame 0 = .ok (.lconst 0, 1) := by decide +kernel
theorem dX10_weightOfSelfSame_1 : decode cX10_weightOfSelfSame 1 = .ok (.lstore_n 1, 1) := by decide +kernel
theorem dX10_weightOfSelfSame_2 : decode cX10_weightOfSelfSame 2 = .ok (.iconst 0, 1) := by decide +kernel
theorem dX10_weightOfSelfSame_3 : decode cX10_weightOfSelfSame 3 = .ok (.istore_n 3, 1) := by decide +kernel
theorem dX10_weightOfSelfSame_4 : decode cX10_weightOfSelfSame 4 = .ok (.iload_n 3, 1) := by decide +kernel
theorem dX10_weightOfSelfSame_5 : decode cX10_weightOfSelfSame 5 = .ok (.bipush 8, 2) := by decide +kernel
theorem dX10_weightOfSelfSame_7 : decode cX10_weightOfSelfSame 7 = .ok (.if_icmp .ge 33, 3) := by decide +kernel
theorem dX10_weightOfSelfSame_10 : decode cX10_weightOfSelfSame 10 = .ok (.lload_n 1, 1) := by decide +kernel
theorem dX10_weightOfSelfSame_11 : decode cX10_weightOfSelfSame 11 = .ok (.aload_n 0, 1) := by decide +kernel
theorem dX10_weightOfSelfSame_12 : decode cX10_weightOfSelfSame 12 = .ok (.getfield 9, 3) := by decide +kernel
theorem dX10_weightOfSelfSame_15 : decode cX10_weightOfSelfSame 15 = .ok (.iload_n 3, 1) := by decide +kernel
theorem dX10_weightOfSelfSame_16 : decode cX10_weightOfSelfSame 16 = .ok (.iaload, 1) := by decide +kernel
theorem dX10_weightOfSelfSame_17 : decode cX10_weightOfSelfSame 17 = .ok (.iload_n 3, 1) := by decide +kernel
theorem dX10_weightOfSelfSame_18 : decode cX10_weightOfSelfSame 18 = .ok (.if_icmp .ne 13, 3) := by decide +kernel
theorem dX10_weightOfSelfSame_21 : decode cX10_weightOfSelfSame 21 = .ok (.aload_n 0, 1) := by decide +kernel
theorem dX10_weightOfSelfSame_22 : decode cX10_weightOfSelfSame 22 = .ok (.getfield 31, 3) := by decide +kernel
theorem dX10_weightOfSelfSame_25 : decode cX10_weightOfSelfSame 25 = .ok (.iload_n 3, 1) := by decide +kernel
theorem dX10_weightOfSelfSame_26 : decode cX10_weightOfSelfSame 26 = .ok (.iaload, 1) := by decide +kernel
theorem dX10_weightOfSelfSame_27 : decode cX10_weightOfSelfSame 27 = .ok (.i2l, 1) := by decide +kernel
theorem dX10_weightOfSelfSame_28 : decode cX10_weightOfSelfSame 28 = .ok (.goto 4, 3) := by decide +kernel
theorem dX10_weightOfSelfSame_31 : decode cX10_weightOfSelfSame 31 = .ok (.lconst 0, 1) := by decide +kernel
theorem dX10_weightOfSelfSame_32 : decode cX10_weightOfSelfSame 32 = .ok (.ladd, 1) := by decide +kernel
theorem dX10_weightOfSelfSame_33 : decode cX10_weightOfSelfSame 33 = .ok (.lstore_n 1, 1) := by decide +kernel
theorem dX10_weightOfSelfSame_34 : decode cX10_weightOfSelfSame 34 = .ok (.iinc 3 1, 3) := by decide +kernel
theorem dX10_weightOfSelfSame_37 : decode cX10_weightOfSelfSame 37 = .ok (.goto (-33), 3) := by decide +kernel
theorem dX10_weightOfSelfSame_40 : decode cX10_weightOfSelfSame 40 = .ok (.lload_n 1, 1) := by decide +kernel
theorem dX10_weightOfSelfSame_41 : decode cX10_weightOfSelfSame 41 = .ok (.lreturn, 1) := by decide +kernel
noncomputable def fX10_weightOfSelfSame_l4 (μ : zM) (x0 : Nat) (F3 : Int64 → Int32 → Option (Int64)) (x1_1 : Int64) (x3_2 : Int32) : Option (Int64) :=
  if 8 ≤ x3_2 then (
  some x1_1)
  else (
  zb1 (zm_gR μ 9 x0 1) fun v7 =>
  zb1 (zm_aI μ 0 v7 x3_2) fun v9 =>
  zb1 (if v9 = x3_2 then (
  zb1 (zm_gR μ 9 x0 3) fun v13 =>
  zb1 (zm_aI μ 0 v13 x3_2) fun v15 =>
  some ((v15 : Int32).toInt64))
  else (
  some 0) : Option (Int64)) fun (s11 : Int64) =>
  F3 (x1_1 + s11) (x3_2 + 1))
noncomputable def fX10_weightOfSelfSame (μ : zM) (x0 : Nat) : Option (Int64) :=
  zb1 (zf2 (fX10_weightOfSelfSame_l4 μ x0) zfu 0 0 : Option (Int64)) fun (x1_5 : Int64) =>
  some x1_5
set_option maxHeartbeats 4000000 in
set_option maxRecDepth 100000 in
theorem cX10_weightOfSelfSame_ok {μ : zM} {x0 : Nat} {r : Int64} (hf : fX10_weightOfSelfSame μ x0 = some r) : zC yX10_weightOfSelfSame cX10_weightOfSelfSame 4 (some .long) 0 0 0 [.ref x0] μ (some (.long r)) μ := by
  unfold fX10_weightOfSelfSame at hf
  refine zC.of (by decide) (Nat.le_of_ble_eq_true rfl) (fun K hin => ?_)
  clear hin
  show zz K cX10_weightOfSelfSame (4, RX10, some .long, 0, 0, 0, some (.long r), μ) 0 0 0 [(0, .ref x0)] [] μ
  refine zr_lconst 0 dX10_weightOfSelfSame_0 (by decide) ?_
  refine zr_lstore_n [(1, .long 0), (0, .ref x0)] dX10_weightOfSelfSame_1 (Nat.le_of_ble_eq_true rfl) rfl ?_
  refine zr_iconst 0 dX10_weightOfSelfSame_2 (by decide) ?_
  refine zr_istore_n [(3, .int 0), (1, .long 0), (0, .ref x0)] dX10_weightOfSelfSame_3 (Nat.le_of_ble_eq_true rfl) rfl ?_
  replace hf := zb1_s hf
  obtain ⟨x1_5, hg, hf⟩ := hf
  have hj6 : zz K cX10_weightOfSelfSame (4, RX10, some .long, 0, 0, 0, some (.long r), μ) 0 0 40 [(1, .long x1_5)] [] μ := by
    refine zr_lload_n 0 dX10_weightOfSelfSame_40 rfl ?_
    cases hf
    exact zr_lret dX10_weightOfSelfSame_41
  clear hf
  have hf := hg
  clear hg
  have hL17 : ∀ (n : Nat) (x1_1 : Int64) (x3_2 : Int32), zf2 (fX10_weightOfSelfSame_l4 μ x0) n x1_1 x3_2 = some x1_5 → zz K cX10_weightOfSelfSame (4, RX10, some .long, 0, 0, 0, some (.long r), μ) 0 0 4 [(0, .ref x0), (1, .long x1_1), (3, .int x3_2)] [] μ := by
    intro n
    induction n with
    | zero => intro x1_1 x3_2 hf; cases hf
    | succ n ih4 =>
      intro x1_1 x3_2 hf
      replace hf := zf2_s hf
      generalize zf2 (fX10_weightOfSelfSame_l4 μ x0) n = F3 at hf ih4
      unfold fX10_weightOfSelfSame_l4 at hf
      refine zr_iload_n 2 dX10_weightOfSelfSame_4 rfl ?_
      refine zr_bipush 8 dX10_weightOfSelfSame_5 (by decide) ?_
      refine zr_icmp_ge 40 dX10_weightOfSelfSame_7 (by decide) (fun hc => ?_) (fun hc => ?_)
      · rw [if_pos hc] at hf
        cases hf
        exact zr_lv [1] rfl hj6
      · rw [if_neg hc] at hf
        refine zr_lload_n 1 dX10_weightOfSelfSame_10 rfl ?_
        refine zr_aload_n 0 dX10_weightOfSelfSame_11 rfl ?_
        replace hf := zb1_s hf
        obtain ⟨v7, h8, hf⟩ := hf
        refine zr_get (zm_gR_g h8) zk9 (by decide) zl_594 dX10_weightOfSelfSame_12 ?_
        refine zr_iload_n 2 dX10_weightOfSelfSame_15 rfl ?_
        replace hf := zb1_s hf
        obtain ⟨v9, h10, hf⟩ := hf
        refine zr_iald h10 dX10_weightOfSelfSame_16 ?_
        refine zr_iload_n 2 dX10_weightOfSelfSame_17 rfl ?_
        replace hf := zb1_s hf
        obtain ⟨s11, hg, hf⟩ := hf
        have hj12 : zz K cX10_weightOfSelfSame (4, RX10, some .long, 0, 0, 0, some (.long r), μ) 0 0 32 [(0, .ref x0), (3, .int x3_2)] [.long s11, .long x1_1] μ := by
          refine zr_ladd dX10_weightOfSelfSame_32 ?_
          refine zr_lstore_n [(1, .long (x1_1 + s11)), (0, .ref x0), (3, .int x3_2)] dX10_weightOfSelfSame_33 (Nat.le_of_ble_eq_true rfl) rfl ?_
          refine zr_iinc (j := 2) (x3_2 + 1) [(3, .int (x3_2 + 1)), (1, .long (x1_1 + s11)), (0, .ref x0)] dX10_weightOfSelfSame_34 rfl rfl (Nat.le_of_ble_eq_true rfl) rfl ?_
          refine zr_goto 4 dX10_weightOfSelfSame_37 (by decide) ?_
          exact zr_lv [2, 1, 0] rfl (ih4 (x1_1 + s11) (x3_2 + 1) hf)
        clear hf
        have hf := hg
        clear hg
        refine zr_icmp_ne 31 dX10_weightOfSelfSame_18 (by decide) (fun hc => ?_) (fun hc => ?_)
        · rw [if_neg hc] at hf
          refine zr_lconst 0 dX10_weightOfSelfSame_31 (by decide) ?_
          cases hf
          exact zr_lv [0, 2] rfl hj12
        · rw [if_pos hc] at hf
          refine zr_aload_n 0 dX10_weightOfSelfSame_21 rfl ?_
          replace hf := zb1_s hf
          obtain ⟨v13, h14, hf⟩ := hf
          refine zr_get (zm_gR_g h14) zk9 (by decide) zl_611 dX10_weightOfSelfSame_22 ?_
          refine zr_iload_n 2 dX10_weightOfSelfSame_25 rfl ?_
          replace hf := zb1_s hf
          obtain ⟨v15, h16, hf⟩ := hf
          refine zr_iald h16 dX10_weightOfSelfSame_26 ?_
          refine zr_i2l dX10_weightOfSelfSame_27 ?_
          refine zr_goto 32 dX10_weightOfSelfSame_28 (by decide) ?_
          cases hf
          exact zr_lv [0, 2] rfl hj12
  exact zr_lv [2, 1, 0] rfl (hL17 _ 0 0 hf)
theorem dX10_commonDivisor_0 : decode cX10_commonDivisor 0 = .ok (.lload_n 0, 1) := by decide +kernel
theorem dX10_commonDivisor_1 : decode cX10_commonDivisor 1 = .ok (.lstore 4, 2) := by decide +kernel
theorem dX10_commonDivisor_3 : decode cX10_commonDivisor 3 = .ok (.lload_n 2, 1) := by decide +kernel
theorem dX10_commonDivisor_4 : decode cX10_commonDivisor 4 = .ok (.lstore 6, 2) := by decide +kernel
theorem dX10_commonDivisor_6 : decode cX10_commonDivisor 6 = .ok (.iconst 0, 1) := by decide +kernel
theorem dX10_commonDivisor_7 : decode cX10_commonDivisor 7 = .ok (.istore 8, 2) := by decide +kernel
theorem dX10_commonDivisor_9 : decode cX10_commonDivisor 9 = .ok (.iload 8, 2) := by decide +kernel
theorem dX10_commonDivisor_11 : decode cX10_commonDivisor 11 = .ok (.bipush 100, 2) := by decide +kernel
theorem dX10_commonDivisor_13 : decode cX10_commonDivisor 13 = .ok (.if_icmp .ge 31, 3) := by decide +kernel
theorem dX10_commonDivisor_16 : decode cX10_commonDivisor 16 = .ok (.lload 6, 2) := by decide +kernel
theorem dX10_commonDivisor_18 : decode cX10_commonDivisor 18 = .ok (.lconst 0, 1) := by decide +kernel
theorem dX10_commonDivisor_19 : decode cX10_commonDivisor 19 = .ok (.lcmp, 1) := by decide +kernel
theorem dX10_commonDivisor_20 : decode cX10_commonDivisor 20 = .ok (.ifCond .eq 24, 3) := by decide +kernel
theorem dX10_commonDivisor_23 : decode cX10_commonDivisor 23 = .ok (.lload 4, 2) := by decide +kernel
theorem dX10_commonDivisor_25 : decode cX10_commonDivisor 25 = .ok (.lload 6, 2) := by decide +kernel
theorem dX10_commonDivisor_27 : decode cX10_commonDivisor 27 = .ok (.lrem, 1) := by decide +kernel
theorem dX10_commonDivisor_28 : decode cX10_commonDivisor 28 = .ok (.lstore 9, 2) := by decide +kernel
theorem dX10_commonDivisor_30 : decode cX10_commonDivisor 30 = .ok (.lload 6, 2) := by decide +kernel
theorem dX10_commonDivisor_32 : decode cX10_commonDivisor 32 = .ok (.lstore 4, 2) := by decide +kernel
theorem dX10_commonDivisor_34 : decode cX10_commonDivisor 34 = .ok (.lload 9, 2) := by decide +kernel
theorem dX10_commonDivisor_36 : decode cX10_commonDivisor 36 = .ok (.lstore 6, 2) := by decide +kernel
theorem dX10_commonDivisor_38 : decode cX10_commonDivisor 38 = .ok (.iinc 8 1, 3) := by decide +kernel
theorem dX10_commonDivisor_41 : decode cX10_commonDivisor 41 = .ok (.goto (-32), 3) := by decide +kernel
theorem dX10_commonDivisor_44 : decode cX10_commonDivisor 44 = .ok (.lload 4, 2) := by decide +kernel
theorem dX10_commonDivisor_46 : decode cX10_commonDivisor 46 = .ok (.lreturn, 1) := by decide +kernel
noncomputable def fX10_commonDivisor_l9  (F4 : Int64 → Int64 → Int32 → Option (Int64)) (x4_1 : Int64) (x6_2 : Int64) (x8_3 : Int32) : Option (Int64) :=
  if 100 ≤ x8_3 then (
  some x4_1)
  else (
  if (lg_cmp x6_2 0) = 0 then (
  some x4_1)
  else (
  zni (x6_2 = 0) <|
  F4 x6_2 (x4_1 - x4_1 / x6_2 * x6_2) (x8_3 + 1)))
noncomputable def fX10_commonDivisor (μ : zM) (x0 : Int64) (x2 : Int64) : Option (Int64) :=
  zb1 (zf3 fX10_commonDivisor_l9 zfu x0 x2 0 : Option (Int64)) fun (x4_6 : Int64) =>
  some x4_6
set_option maxHeartbeats 4000000 in
set_option maxRecDepth 100000 in
theorem cX10_commonDivisor_ok {μ : zM} {x0 : Int64} {x2 : Int64} {r : Int64} (hf : fX10_commonDivisor μ x0 x2 = some r) : zC yX10_commonDivisor cX10_commonDivisor 11 (some .long) 0 0 0 [.long x0, .long x2] μ (some (.long r)) μ := by
  unfold fX10_commonDivisor at hf
  refine zC.of (by decide) (Nat.le_of_ble_eq_true rfl) (fun K hin => ?_)
  clear hin
  show zz K cX10_commonDivisor (11, RX10, some .long, 0, 0, 0, some (.long r), μ) 0 0 0 [(0, .long x0), (2, .long x2)] [] μ
  refine zr_lload_n 0 dX10_commonDivisor_0 rfl ?_
  refine zr_lstore [(4, .long x0), (0, .long x0), (2, .long x2)] dX10_commonDivisor_1 (Nat.le_of_ble_eq_true rfl) rfl ?_
  refine zr_lload_n 2 dX10_commonDivisor_3 rfl ?_
  refine zr_lstore [(6, .long x2), (4, .long x0), (0, .long x0), (2, .long x2)] dX10_commonDivisor_4 (Nat.le_of_ble_eq_true rfl) rfl ?_
  refine zr_iconst 0 dX10_commonDivisor_6 (by decide) ?_
  refine zr_istore [(8, .int 0), (6, .long x2), (4, .long x0), (0, .long x0), (2, .long x2)] dX10_commonDivisor_7 (Nat.le_of_ble_eq_true rfl) rfl ?_
  replace hf := zb1_s hf
  obtain ⟨x4_6, hg, hf⟩ := hf
  have hj7 : zz K cX10_commonDivisor (11, RX10, some .long, 0, 0, 0, some (.long r), μ) 0 0 44 [(4, .long x4_6)] [] μ := by
    refine zr_lload 0 dX10_commonDivisor_44 rfl ?_
    cases hf
    exact zr_lret dX10_commonDivisor_46
  clear hf
  have hf := hg
  clear hg
  have hL9 : ∀ (n : Nat) (x4_1 : Int64) (x6_2 : Int64) (x8_3 : Int32), zf3 fX10_commonDivisor_l9 n x4_1 x6_2 x8_3 = some x4_6 → zz K cX10_commonDivisor (11, RX10, some .long, 0, 0, 0, some (.long r), μ) 0 0 9 [(4, .long x4_1), (6, .long x6_2), (8, .int x8_3)] [] μ := by
    intro n
    induction n with
    | zero => intro x4_1 x6_2 x8_3 hf; cases hf
    | succ n ih5 =>
      intro x4_1 x6_2 x8_3 hf
      replace hf := zf3_s hf
      generalize zf3 fX10_commonDivisor_l9 n = F4 at hf ih5
      unfold fX10_commonDivisor_l9 at hf
      refine zr_iload 2 dX10_commonDivisor_9 rfl ?_
      refine zr_bipush 100 dX10_commonDivisor_11 (by decide) ?_
      refine zr_icmp_ge 44 dX10_commonDivisor_13 (by decide) (fun hc => ?_) (fun hc => ?_)
      · rw [if_pos hc] at hf
        cases hf
        exact zr_lv [0] rfl hj7
      · rw [if_neg hc] at hf
        refine zr_lload 1 dX10_commonDivisor_16 rfl ?_
        refine zr_lconst 0 dX10_commonDivisor_18 (by decide) ?_
        refine zr_lcmp dX10_commonDivisor_19 ?_
        refine zr_if_eq 44 dX10_commonDivisor_20 (by decide) (fun hc => ?_) (fun hc => ?_)
        · rw [if_pos hc] at hf
          cases hf
          exact zr_lv [0] rfl hj7
        · rw [if_neg hc] at hf
          refine zr_lload 0 dX10_commonDivisor_23 rfl ?_
          refine zr_lload 1 dX10_commonDivisor_25 rfl ?_
          replace hf := zni_s hf
          obtain ⟨hn8, hf⟩ := hf
          refine zr_lrem dX10_commonDivisor_27 hn8 ?_
          refine zr_lstore [(9, .long (x4_1 - x4_1 / x6_2 * x6_2)), (4, .long x4_1), (6, .long x6_2), (8, .int x8_3)] dX10_commonDivisor_28 (Nat.le_of_ble_eq_true rfl) rfl ?_
          refine zr_lload 2 dX10_commonDivisor_30 rfl ?_
          refine zr_lstore [(4, .long x6_2), (9, .long (x4_1 - x4_1 / x6_2 * x6_2)), (6, .long x6_2), (8, .int x8_3)] dX10_commonDivisor_32 (Nat.le_of_ble_eq_true rfl) rfl ?_
          refine zr_lload 1 dX10_commonDivisor_34 rfl ?_
          refine zr_lstore [(6, .long (x4_1 - x4_1 / x6_2 * x6_2)), (4, .long x6_2), (9, .long (x4_1 - x4_1 / x6_2 * x6_2)), (8, .int x8_3)] dX10_commonDivisor_36 (Nat.le_of_ble_eq_true rfl) rfl ?_
          refine zr_iinc (j := 3) (x8_3 + 1) [(8, .int (x8_3 + 1)), (6, .long (x4_1 - x4_1 / x6_2 * x6_2)), (4, .long x6_2), (9, .long (x4_1 - x4_1 / x6_2 * x6_2))] dX10_commonDivisor_38 rfl rfl (Nat.le_of_ble_eq_true rfl) rfl ?_
          refine zr_goto 9 dX10_commonDivisor_41 (by decide) ?_
          exact zr_lv [2, 1, 0] rfl (ih5 x6_2 (x4_1 - x4_1 / x6_2 * x6_2) (x8_3 + 1) hf)
  exact zr_lv [2, 1, 0] rfl (hL9 _ x0 x2 0 hf)
theorem dX10_power_0 : decode cX10_power 0 = .ok (.lconst 1, 1) := by decide +kernel
theorem dX10_power_1 : decode cX10_power 1 = .ok (.lstore_n 3, 1) := by decide +kernel
theorem dX10_power_2 : decode cX10_power 2 = .ok (.iconst 0, 1) := by decide +kernel
theorem dX10_power_3 : decode cX10_power 3 = .ok (.istore 5, 2) := by decide +kernel
theorem dX10_power_5 : decode cX10_power 5 = .ok (.iload 5, 2) := by decide +kernel
theorem dX10_power_7 : decode cX10_power 7 = .ok (.iload_n 2, 1) := by decide +kernel
theorem dX10_power_8 : decode cX10_power 8 = .ok (.if_icmp .ge 13, 3) := by decide +kernel
theorem dX10_power_11 : decode cX10_power 11 = .ok (.lload_n 3, 1) := by decide +kernel
theorem dX10_power_12 : decode cX10_power 12 = .ok (.lload_n 0, 1) := by decide +kernel
theorem dX10_power_13 : decode cX10_power 13 = .ok (.lmul, 1) := by decide +kernel
theorem dX10_power_14 : decode cX10_power 14 = .ok (.lstore_n 3, 1) := by decide +kernel
theorem dX10_power_15 : decode cX10_power 15 = .ok (.iinc 5 1, 3) := by decide +kernel
theorem dX10_power_18 : decode cX10_power 18 = .ok (.goto (-13), 3) := by decide +kernel
theorem dX10_power_21 : decode cX10_power 21 = .ok (.lload_n 3, 1) := by decide +kernel
theorem dX10_power_22 : decode cX10_power 22 = .ok (.lreturn, 1) := by decide +kernel
noncomputable def fX10_power_l5 (x2 : Int32) (x0 : Int64) (F3 : Int64 → Int32 → Option (Int64)) (x3_1 : Int64) (x5_2 : Int32) : Option (Int64) :=
  if x2 ≤ x5_2 then (
  some x3_1)
  else (
  F3 (x3_1 * x0) (x5_2 + 1))
noncomputable def fX10_power (μ : zM) (x0 : Int64) (x2 : Int32) : Option (Int64) :=
  zb1 (zf2 (fX10_power_l5 x2 x0) zfu 1 0 : Option (Int64)) fun (x3_5 : Int64) =>
  some x3_5
set_option maxHeartbeats 4000000 in
set_option maxRecDepth 100000 in
theorem cX10_power_ok {μ : zM} {x0 : Int64} {x2 : Int32} {r : Int64} (hf : fX10_power μ x0 x2 = some r) : zC yX10_power cX10_power 6 (some .long) 0 0 0 [.long x0, .int x2] μ (some (.long r)) μ := by
  unfold fX10_power at hf
  refine zC.of (by decide) (Nat.le_of_ble_eq_true rfl) (fun K hin => ?_)
  clear hin
  show zz K cX10_power (6, RX10, some .long, 0, 0, 0, some (.long r), μ) 0 0 0 [(0, .long x0), (2, .int x2)] [] μ
  refine zr_lconst 1 dX10_power_0 (by decide) ?_
  refine zr_lstore_n [(3, .long 1), (0, .long x0), (2, .int x2)] dX10_power_1 (Nat.le_of_ble_eq_true rfl) rfl ?_
  refine zr_iconst 0 dX10_power_2 (by decide) ?_
  refine zr_istore [(5, .int 0), (3, .long 1), (0, .long x0), (2, .int x2)] dX10_power_3 (Nat.le_of_ble_eq_true rfl) rfl ?_
  replace hf := zb1_s hf
  obtain ⟨x3_5, hg, hf⟩ := hf
  have hj6 : zz K cX10_power (6, RX10, some .long, 0, 0, 0, some (.long r), μ) 0 0 21 [(3, .long x3_5)] [] μ := by
    refine zr_lload_n 0 dX10_power_21 rfl ?_
    cases hf
    exact zr_lret dX10_power_22
  clear hf
  have hf := hg
  clear hg
  have hL7 : ∀ (n : Nat) (x3_1 : Int64) (x5_2 : Int32), zf2 (fX10_power_l5 x2 x0) n x3_1 x5_2 = some x3_5 → zz K cX10_power (6, RX10, some .long, 0, 0, 0, some (.long r), μ) 0 0 5 [(0, .long x0), (2, .int x2), (3, .long x3_1), (5, .int x5_2)] [] μ := by
    intro n
    induction n with
    | zero => intro x3_1 x5_2 hf; cases hf
    | succ n ih4 =>
      intro x3_1 x5_2 hf
      replace hf := zf2_s hf
      generalize zf2 (fX10_power_l5 x2 x0) n = F3 at hf ih4
      unfold fX10_power_l5 at hf
      refine zr_iload 3 dX10_power_5 rfl ?_
      refine zr_iload_n 1 dX10_power_7 rfl ?_
      refine zr_icmp_ge 21 dX10_power_8 (by decide) (fun hc => ?_) (fun hc => ?_)
      · rw [if_pos hc] at hf
        cases hf
        exact zr_lv [2] rfl hj6
      · rw [if_neg hc] at hf
        refine zr_lload_n 2 dX10_power_11 rfl ?_
        refine zr_lload_n 0 dX10_power_12 rfl ?_
        refine zr_lmul dX10_power_13 ?_
        refine zr_lstore_n [(3, .long (x3_1 * x0)), (0, .long x0), (2, .int x2), (5, .int x5_2)] dX10_power_14 (Nat.le_of_ble_eq_true rfl) rfl ?_
        refine zr_iinc (j := 3) (x5_2 + 1) [(5, .int (x5_2 + 1)), (3, .long (x3_1 * x0)), (0, .long x0), (2, .int x2)] dX10_power_15 rfl rfl (Nat.le_of_ble_eq_true rfl) rfl ?_
        refine zr_goto 5 dX10_power_18 (by decide) ?_
        exact zr_lv [2, 3, 1, 0] rfl (ih4 (x3_1 * x0) (x5_2 + 1) hf)
  exact zr_lv [2, 3, 1, 0] rfl (hL7 _ 1 0 hf)
theorem zl_619 : Cond.methodLink RX11 1 Lib.objectInit ∈ zt := zt_at 155 (by decide +kernel)
theorem zl_620 : Cond.classLink RX11 7 RX7 ∈ zt := zt_at 158 (by decide +kernel)
theorem zl_621 : Cond.instantiable RX7 9 ∈ zt := zt_at 159 (by decide +kernel)
theorem zl_622 : Cond.initialized RX7 ∈ zt := zt_at 130 (by decide +kernel)
theorem zl_623 : Cond.code yX7_init cX7_init 1 (none) ∈ zt := zt_at 162 (by decide +kernel)
theorem zvs_X7_init : zvS yX7_init cX7_init 1 (none) 0 := ⟨zl_623, zl_622, ⟨by decide +kernel, by decide +kernel, by decide +kernel⟩, by decide⟩
theorem zl_624 : Cond.methodLinkNest RX11 9 yX7_init "TwoEchoes" ∈ zn := zn_at 160 (by decide +kernel)
theorem zl_625 : Cond.instanceMethod yX7_init ∈ zt := zt_at 161 (by decide +kernel)
theorem zl_626 : Cond.fieldLink RX11 10 "TwoEchoes" "told" "LTwoEchoes$Told;" ∈ zt := zt_at 485 (by decide +kernel)
theorem zl_627 : Cond.fieldLink RX11 16 "TwoEchoes" "images" "[LTwoEchoes$Told;" ∈ zt := zt_at 486 (by decide +kernel)
theorem zl_628 : Cond.classLink RX11 20 RX4 ∈ zt := zt_at 353 (by decide +kernel)
theorem zl_629 : Cond.instantiable RX4 13 ∈ zt := zt_at 354 (by decide +kernel)
theorem zl_630 : Cond.fieldLink RX11 22 "TwoEchoes$Told" "tape" "[B" ∈ zt := zt_at 316 (by decide +kernel)
theorem zl_631 : Cond.code yX4_init cX4_init 2 (none) ∈ zt := zt_at 357 (by decide +kernel)
theorem zvs_X4_init : zvS yX4_init cX4_init 2 (none) 1 := ⟨zl_631, zl_296, ⟨by decide +kernel, by decide +kernel, by decide +kernel⟩, by decide⟩
theorem zl_632 : Cond.methodLink RX11 26 yX4_init ∈ zt := zt_at 355 (by decide +kernel)
theorem zl_633 : Cond.instanceMethod yX4_init ∈ zt := zt_at 356 (by decide +kernel)
theorem zl_634 : Cond.fieldLink RX11 29 "TwoEchoes" "reader" "LTwoEchoes$Reader;" ∈ zt := zt_at 487 (by decide +kernel)
theorem zl_635 : Cond.classLink RX11 33 RX1 ∈ zt := zt_at 413 (by decide +kernel)
theorem zl_636 : Cond.instantiable RX1 6 ∈ zt := zt_at 414 (by decide +kernel)
theorem zl_637 : Cond.code yX1_init cX1_init 1 (none) ∈ zt := zt_at 417 (by decide +kernel)
theorem zvs_X1_init : zvS yX1_init cX1_init 1 (none) 0 := ⟨zl_637, zl_110, ⟨by decide +kernel, by decide +kernel, by decide +kernel⟩, by decide⟩
theorem zl_638 : Cond.methodLinkNest RX11 35 yX1_init "TwoEchoes" ∈ zn := zn_at 415 (by decide +kernel)
theorem zl_639 : Cond.instanceMethod yX1_init ∈ zt := zt_at 416 (by decide +kernel)
theorem zl_640 : Cond.fieldLink RX11 36 "TwoEchoes" "course" "LTwoEchoes$Course;" ∈ zt := zt_at 488 (by decide +kernel)
theorem zl_641 : Cond.classLink RX11 40 RX5 ∈ zt := zt_at 438 (by decide +kernel)
theorem zl_642 : Cond.instantiable RX5 3 ∈ zt := zt_at 439 (by decide +kernel)
theorem zl_643 : Cond.code yX5_init cX5_init 1 (none) ∈ zt := zt_at 442 (by decide +kernel)
theorem zvs_X5_init : zvS yX5_init cX5_init 1 (none) 0 := ⟨zl_643, zl_457, ⟨by decide +kernel, by decide +kernel, by decide +kernel⟩, by decide⟩
theorem zl_644 : Cond.methodLinkNest RX11 42 yX5_init "TwoEchoes" ∈ zn := zn_at 440 (by decide +kernel)
theorem zl_645 : Cond.instanceMethod yX5_init ∈ zt := zt_at 441 (by decide +kernel)
theorem zl_646 : Cond.fieldLink RX11 43 "TwoEchoes" "search" "LTwoEchoes$Search;" ∈ zt := zt_at 489 (by decide +kernel)
theorem zl_647 : Cond.classLink RX11 47 RX8 ∈ zt := zt_at 454 (by decide +kernel)
theorem zl_648 : Cond.instantiable RX8 2 ∈ zt := zt_at 455 (by decide +kernel)
theorem zl_649 : Cond.code yX8_init cX8_init 1 (none) ∈ zt := zt_at 458 (by decide +kernel)
theorem zvs_X8_init : zvS yX8_init cX8_init 1 (none) 0 := ⟨zl_649, zl_550, ⟨by decide +kernel, by decide +kernel, by decide +kernel⟩, by decide⟩
theorem zl_650 : Cond.methodLinkNest RX11 49 yX8_init "TwoEchoes" ∈ zn := zn_at 456 (by decide +kernel)
theorem zl_651 : Cond.instanceMethod yX8_init ∈ zt := zt_at 457 (by decide +kernel)
theorem zl_652 : Cond.fieldLink RX11 50 "TwoEchoes" "trade" "LTwoEchoes$Trade;" ∈ zt := zt_at 490 (by decide +kernel)
theorem zl_653 : Cond.classLink RX11 54 RX0 ∈ zt := zt_at 467 (by decide +kernel)
theorem zl_654 : Cond.instantiable RX0 3 ∈ zt := zt_at 468 (by decide +kernel)
theorem zl_655 : Cond.code yX0_init cX0_init 1 (none) ∈ zt := zt_at 471 (by decide +kernel)
theorem zvs_X0_init : zvS yX0_init cX0_init 1 (none) 0 := ⟨zl_655, zl_31, ⟨by decide +kernel, by decide +kernel, by decide +kernel⟩, by decide⟩
theorem zl_656 : Cond.methodLinkNest RX11 56 yX0_init "TwoEchoes" ∈ zn := zn_at 469 (by decide +kernel)
theorem zl_657 : Cond.instanceMethod yX0_init ∈ zt := zt_at 470 (by decide +kernel)
theorem zl_658 : Cond.fieldLink RX11 57 "TwoEchoes" "company" "LTwoEchoes$Company;" ∈ zt := zt_at 491 (by decide +kernel)
theorem dX11_init_0 : decode cX11_init 0 = .ok (.aload_n 0, 1) := by decide +kernel
theorem dX11_init_1 : decode cX11_init 1 = .ok (.invokespecial 1, 3) := by decide +kernel
theorem dX11_init_4 : decode cX11_init 4 = .ok (.aload_n 0, 1) := by decide +kernel
theorem dX11_init_5 : decode cX11_init 5 = .ok (.new 7, 3) := by decide +kernel
theorem dX11_init_8 : decode cX11_init 8 = .ok (.dup, 1) := by decide +kernel
theorem dX11_init_9 : decode cX11_init 9 = .ok (.invokespecial 9, 3) := by decide +kernel
theorem dX11_init_12 : decode cX11_init 12 = .ok (.putfield 10, 3) := by decide +kernel
theorem dX11_init_15 : decode cX11_init 15 = .ok (.aload_n 0, 1) := by decide +kernel
theorem dX11_init_16 : decode cX11_init 16 = .ok (.iconst 3, 1) := by decide +kernel
theorem dX11_init_17 : decode cX11_init 17 = .ok (.anewarray 7, 3) := by decide +kernel
theorem dX11_init_20 : decode cX11_init 20 = .ok (.putfield 16, 3) := by decide +kernel
theorem dX11_init_23 : decode cX11_init 23 = .ok (.aload_n 0, 1) := by decide +kernel
theorem dX11_init_24 : decode cX11_init 24 = .ok (.new 20, 3) := by decide +kernel
theorem dX11_init_27 : decode cX11_init 27 = .ok (.dup, 1) := by decide +kernel
theorem dX11_init_28 : decode cX11_init 28 = .ok (.aload_n 0, 1) := by decide +kernel
theorem dX11_init_29 : decode cX11_init 29 = .ok (.getfield 10, 3) := by decide +kernel
theorem dX11_init_32 : decode cX11_init 32 = .ok (.getfield 22, 3) := by decide +kernel
theorem dX11_init_35 : decode cX11_init 35 = .ok (.invokespecial 26, 3) := by decide +kernel
theorem dX11_init_38 : decode cX11_init 38 = .ok (.putfield 29, 3) := by decide +kernel
theorem dX11_init_41 : decode cX11_init 41 = .ok (.aload_n 0, 1) := by decide +kernel
theorem dX11_init_42 : decode cX11_init 42 = .ok (.new 33, 3) := by decide +kernel
theorem dX11_init_45 : decode cX11_init 45 = .ok (.dup, 1) := by decide +kernel
theorem dX11_init_46 : decode cX11_init 46 = .ok (.invokespecial 35, 3) := by decide +kernel
theorem dX11_init_49 : decode cX11_init 49 = .ok (.putfield 36, 3) := by decide +kernel
theorem dX11_init_52 : decode cX11_init 52 = .ok (.aload_n 0, 1) := by decide +kernel
theorem dX11_init_53 : decode cX11_init 53 = .ok (.new 40, 3) := by decide +kernel
theorem dX11_init_56 : decode cX11_init 56 = .ok (.dup, 1) := by decide +kernel
theorem dX11_init_57 : decode cX11_init 57 = .ok (.invokespecial 42, 3) := by decide +kernel
theorem dX11_init_60 : decode cX11_init 60 = .ok (.putfield 43, 3) := by decide +kernel
theorem dX11_init_63 : decode cX11_init 63 = .ok (.aload_n 0, 1) := by decide +kernel
theorem dX11_init_64 : decode cX11_init 64 = .ok (.new 47, 3) := by decide +kernel
theorem dX11_init_67 : decode cX11_init 67 = .ok (.dup, 1) := by decide +kernel
theorem dX11_init_68 : decode cX11_init 68 = .ok (.invokespecial 49, 3) := by decide +kernel
theorem dX11_init_71 : decode cX11_init 71 = .ok (.putfield 50, 3) := by decide +kernel
theorem dX11_init_74 : decode cX11_init 74 = .ok (.aload_n 0, 1) := by decide +kernel
theorem dX11_init_75 : decode cX11_init 75 = .ok (.new 54, 3) := by decide +kernel
theorem dX11_init_78 : decode cX11_init 78 = .ok (.dup, 1) := by decide +kernel
theorem dX11_init_79 : decode cX11_init 79 = .ok (.invokespecial 56, 3) := by decide +kernel
theorem dX11_init_82 : decode cX11_init 82 = .ok (.putfield 57, 3) := by decide +kernel
theorem dX11_init_85 : decode cX11_init 85 = .ok (.return_, 1) := by decide +kernel
noncomputable def fX11_init (μ : zM) (x0 : Nat) : Option (zM) :=
  zb1 (some (zm_nw μ (.inr (7, [.null, .int 0, .int 0, .int 0, .null, .null, .null, .null, .null])))) fun m1 =>
  zb1 (fX7_init m1 μ.2.1) fun m4 =>
  zb1 (zm_p m4 11 x0 0 (.ref μ.2.1)) fun m5 =>
  zb1 (some (zm_nw m5 (.inl (3, 3, .inr (.inr (.inr (.inr (fun _ => none)))))))) fun m7 =>
  zb1 (zm_p m7 11 x0 1 (.ref m5.2.1)) fun m9 =>
  zb1 (some (zm_nw m9 (.inr (4, [.null, .null, .null, .null, .int 0, .int 0, .null, .int 0, .int 0, .int 0, .int 0, .null, .null])))) fun m11 =>
  zb1 (zm_gR m11 11 x0 0) fun v13 =>
  zb1 (zm_gR m11 7 v13 0) fun v15 =>
  zb1 (fX4_init m11 m9.2.1 v15) fun m18 =>
  zb1 (zm_p m18 11 x0 2 (.ref m9.2.1)) fun m19 =>
  zb1 (some (zm_nw m19 (.inr (1, [.int 0, .int 0, .int 0, .null, .null, .null])))) fun m21 =>
  zb1 (fX1_init m21 m19.2.1) fun m24 =>
  zb1 (zm_p m24 11 x0 3 (.ref m19.2.1)) fun m25 =>
  zb1 (some (zm_nw m25 (.inr (5, [.null, .null, .int 0])))) fun m27 =>
  zb1 (fX5_init m27 m25.2.1) fun m30 =>
  zb1 (zm_p m30 11 x0 4 (.ref m25.2.1)) fun m31 =>
  zb1 (some (zm_nw m31 (.inr (8, [.null, .null])))) fun m33 =>
  zb1 (fX8_init m33 m31.2.1) fun m36 =>
  zb1 (zm_p m36 11 x0 5 (.ref m31.2.1)) fun m37 =>
  zb1 (some (zm_nw m37 (.inr (0, [.null, .null, .null])))) fun m39 =>
  zb1 (fX0_init m39 m37.2.1) fun m42 =>
  zb1 (zm_p m42 11 x0 6 (.ref m37.2.1)) fun m43 =>
  some m43
set_option maxHeartbeats 4000000 in
set_option maxRecDepth 100000 in
theorem cX11_init_ok {μ : zM} {x0 : Nat} {mo : zM} (hf : fX11_init μ x0 = some mo) : zC yX11_init cX11_init 1 (none) 3 94 6247 [.ref x0] μ (none) mo := by
  unfold fX11_init at hf
  refine zC.of (by decide) (Nat.le_of_ble_eq_true rfl) (fun K hin => ?_)
  replace hin := hin rfl
  show zz K cX11_init (1, RX11, none, 3, 94, 6247, none, mo) 0 0 0 [(0, .ref x0)] [] μ
  refine zr_aload_n 0 dX11_init_0 rfl ?_
  refine zr_objInit zl_619 zl_1 zl_2 (Nat.le_of_ble_eq_true rfl) (Nat.le_of_ble_eq_true rfl) dX11_init_1 ?_
  refine zr_aload_n 0 dX11_init_4 rfl ?_
  refine zr_new [.null, .int 0, .int 0, .int 0, .null, .null, .null, .null, .null] zk7 zl_620 zl_621 zl_622 (by decide +kernel) (Nat.le_of_ble_eq_true rfl) (Nat.le_of_ble_eq_true rfl) dX11_init_5 ?_
  replace hf := zb1_s hf
  obtain ⟨m1, h2, hf⟩ := hf
  obtain rfl := Option.some.inj h2
  refine zr_dup dX11_init_8 rfl ?_
  replace hf := zb1_s hf
  obtain ⟨m4, h3, hf⟩ := hf
  refine zr_callIN [] (cX7_init_ok h3) zvs_X7_init zl_625 rfl zl_624 rfl (Nat.le_of_ble_eq_true rfl) (Nat.le_of_ble_eq_true rfl) (Nat.le_of_ble_eq_true rfl) (Nat.le_of_ble_eq_true rfl) dX11_init_9 rfl ?_
  replace hf := zb1_s hf
  obtain ⟨m5, h6, hf⟩ := hf
  refine zr_putF h6 hin rfl zk11 (by decide) zl_626 rfl rfl rfl dX11_init_12 ?_
  refine zr_aload_n 0 dX11_init_15 rfl ?_
  refine zr_iconst 3 dX11_init_16 (by decide) ?_
  refine zr_newq (t := 3) (N := 3) (by decide) rfl zl_620 (by decide) (by decide) (by decide) (Nat.le_of_ble_eq_true rfl) (Nat.le_of_ble_eq_true rfl) dX11_init_17 ?_
  replace hf := zb1_s hf
  obtain ⟨m7, h8, hf⟩ := hf
  obtain rfl := Option.some.inj h8
  replace hf := zb1_s hf
  obtain ⟨m9, h10, hf⟩ := hf
  refine zr_putF h10 hin rfl zk11 (by decide) zl_627 rfl rfl rfl dX11_init_20 ?_
  refine zr_aload_n 0 dX11_init_23 rfl ?_
  refine zr_new [.null, .null, .null, .null, .int 0, .int 0, .null, .int 0, .int 0, .int 0, .int 0, .null, .null] zk4 zl_628 zl_629 zl_296 (by decide +kernel) (Nat.le_of_ble_eq_true rfl) (Nat.le_of_ble_eq_true rfl) dX11_init_24 ?_
  replace hf := zb1_s hf
  obtain ⟨m11, h12, hf⟩ := hf
  obtain rfl := Option.some.inj h12
  refine zr_dup dX11_init_27 rfl ?_
  refine zr_aload_n 0 dX11_init_28 rfl ?_
  replace hf := zb1_s hf
  obtain ⟨v13, h14, hf⟩ := hf
  refine zr_get (zm_gR_g h14) zk11 (by decide) zl_626 dX11_init_29 ?_
  replace hf := zb1_s hf
  obtain ⟨v15, h16, hf⟩ := hf
  refine zr_get (zm_gR_g h16) zk7 (by decide) zl_630 dX11_init_32 ?_
  replace hf := zb1_s hf
  obtain ⟨m18, h17, hf⟩ := hf
  refine zr_callI [.ref v15] (cX4_init_ok h17) zvs_X4_init zl_633 rfl zl_632 rfl (Nat.le_of_ble_eq_true rfl) (Nat.le_of_ble_eq_true rfl) (Nat.le_of_ble_eq_true rfl) (Nat.le_of_ble_eq_true rfl) dX11_init_35 rfl ?_
  replace hf := zb1_s hf
  obtain ⟨m19, h20, hf⟩ := hf
  refine zr_putF h20 hin rfl zk11 (by decide) zl_634 rfl rfl rfl dX11_init_38 ?_
  refine zr_aload_n 0 dX11_init_41 rfl ?_
  refine zr_new [.int 0, .int 0, .int 0, .null, .null, .null] zk1 zl_635 zl_636 zl_110 (by decide +kernel) (Nat.le_of_ble_eq_true rfl) (Nat.le_of_ble_eq_true rfl) dX11_init_42 ?_
  replace hf := zb1_s hf
  obtain ⟨m21, h22, hf⟩ := hf
  obtain rfl := Option.some.inj h22
  refine zr_dup dX11_init_45 rfl ?_
  replace hf := zb1_s hf
  obtain ⟨m24, h23, hf⟩ := hf
  refine zr_callIN [] (cX1_init_ok h23) zvs_X1_init zl_639 rfl zl_638 rfl (Nat.le_of_ble_eq_true rfl) (Nat.le_of_ble_eq_true rfl) (Nat.le_of_ble_eq_true rfl) (Nat.le_of_ble_eq_true rfl) dX11_init_46 rfl ?_
  replace hf := zb1_s hf
  obtain ⟨m25, h26, hf⟩ := hf
  refine zr_putF h26 hin rfl zk11 (by decide) zl_640 rfl rfl rfl dX11_init_49 ?_
  refine zr_aload_n 0 dX11_init_52 rfl ?_
  refine zr_new [.null, .null, .int 0] zk5 zl_641 zl_642 zl_457 (by decide +kernel) (Nat.le_of_ble_eq_true rfl) (Nat.le_of_ble_eq_true rfl) dX11_init_53 ?_
  replace hf := zb1_s hf
  obtain ⟨m27, h28, hf⟩ := hf
  obtain rfl := Option.some.inj h28
  refine zr_dup dX11_init_56 rfl ?_
  replace hf := zb1_s hf
  obtain ⟨m30, h29, hf⟩ := hf
  refine zr_callIN [] (cX5_init_ok h29) zvs_X5_init zl_645 rfl zl_644 rfl (Nat.le_of_ble_eq_true rfl) (Nat.le_of_ble_eq_true rfl) (Nat.le_of_ble_eq_true rfl) (Nat.le_of_ble_eq_true rfl) dX11_init_57 rfl ?_
  replace hf := zb1_s hf
  obtain ⟨m31, h32, hf⟩ := hf
  refine zr_putF h32 hin rfl zk11 (by decide) zl_646 rfl rfl rfl dX11_init_60 ?_
  refine zr_aload_n 0 dX11_init_63 rfl ?_
  refine zr_new [.null, .null] zk8 zl_647 zl_648 zl_550 (by decide +kernel) (Nat.le_of_ble_eq_true rfl) (Nat.le_of_ble_eq_true rfl) dX11_init_64 ?_
  replace hf := zb1_s hf
  obtain ⟨m33, h34, hf⟩ := hf
  obtain rfl := Option.some.inj h34
  refine zr_dup dX11_init_67 rfl ?_
  replace hf := zb1_s hf
  obtain ⟨m36, h35, hf⟩ := hf
  refine zr_callIN [] (cX8_init_ok h35) zvs_X8_init zl_651 rfl zl_650 rfl (Nat.le_of_ble_eq_true rfl) (Nat.le_of_ble_eq_true rfl) (Nat.le_of_ble_eq_true rfl) (Nat.le_of_ble_eq_true rfl) dX11_init_68 rfl ?_
  replace hf := zb1_s hf
  obtain ⟨m37, h38, hf⟩ := hf
  refine zr_putF h38 hin rfl zk11 (by decide) zl_652 rfl rfl rfl dX11_init_71 ?_
  refine zr_aload_n 0 dX11_init_74 rfl ?_
  refine zr_new [.null, .null, .null] zk0 zl_653 zl_654 zl_31 (by decide +kernel) (Nat.le_of_ble_eq_true rfl) (Nat.le_of_ble_eq_true rfl) dX11_init_75 ?_
  replace hf := zb1_s hf
  obtain ⟨m39, h40, hf⟩ := hf
  obtain rfl := Option.some.inj h40
  refine zr_dup dX11_init_78 rfl ?_
  replace hf := zb1_s hf
  obtain ⟨m42, h41, hf⟩ := hf
  refine zr_callIN [] (cX0_init_ok h41) zvs_X0_init zl_657 rfl zl_656 rfl (Nat.le_of_ble_eq_true rfl) (Nat.le_of_ble_eq_true rfl) (Nat.le_of_ble_eq_true rfl) (Nat.le_of_ble_eq_true rfl) dX11_init_79 rfl ?_
  replace hf := zb1_s hf
  obtain ⟨m43, h44, hf⟩ := hf
  refine zr_putF h44 hin rfl zk11 (by decide) zl_658 rfl rfl rfl dX11_init_82 ?_
  cases hf
  exact zr_vret dX11_init_85
theorem zl_659 : Cond.fieldLink RX11 61 "TwoEchoes$Told" "length" "I" ∈ zt := zt_at 318 (by decide +kernel)
theorem zl_660 : Cond.code yX7_put cX7_put 3 (none) ∈ zt := zt_at 514 (by decide +kernel)
theorem zvs_X7_put : zvS yX7_put cX7_put 3 (none) 1 := ⟨zl_660, zl_622, ⟨by decide +kernel, by decide +kernel, by decide +kernel⟩, by decide⟩
theorem zl_661 : Cond.methodLink RX11 65 yX7_put ∈ zt := zt_at 511 (by decide +kernel)
theorem zl_662 : Cond.instanceMethod yX7_put ∈ zt := zt_at 512 (by decide +kernel)
theorem zl_663 : Cond.selects RX7 yX7_put yX7_put ∈ zt := zt_at 513 (by decide +kernel)
theorem dX11_feed_0 : decode cX11_feed 0 = .ok (.aload_n 0, 1) := by decide +kernel
theorem dX11_feed_1 : decode cX11_feed 1 = .ok (.getfield 10, 3) := by decide +kernel
theorem dX11_feed_4 : decode cX11_feed 4 = .ok (.getfield 61, 3) := by decide +kernel
theorem dX11_feed_7 : decode cX11_feed 7 = .ok (.bipush 20, 2) := by decide +kernel
theorem dX11_feed_9 : decode cX11_feed 9 = .ok (.iadd, 1) := by decide +kernel
theorem dX11_feed_10 : decode cX11_feed 10 = .ok (.sipush 600, 3) := by decide +kernel
theorem dX11_feed_13 : decode cX11_feed 13 = .ok (.if_icmp .le 5, 3) := by decide +kernel
theorem dX11_feed_16 : decode cX11_feed 16 = .ok (.iconst (-1), 1) := by decide +kernel
theorem dX11_feed_17 : decode cX11_feed 17 = .ok (.ireturn, 1) := by decide +kernel
theorem dX11_feed_18 : decode cX11_feed 18 = .ok (.aload_n 0, 1) := by decide +kernel
theorem dX11_feed_19 : decode cX11_feed 19 = .ok (.getfield 10, 3) := by decide +kernel
theorem dX11_feed_22 : decode cX11_feed 22 = .ok (.iload_n 1, 1) := by decide +kernel
theorem dX11_feed_23 : decode cX11_feed 23 = .ok (.invokevirtual 65, 3) := by decide +kernel
theorem dX11_feed_26 : decode cX11_feed 26 = .ok (.aload_n 0, 1) := by decide +kernel
theorem dX11_feed_27 : decode cX11_feed 27 = .ok (.getfield 10, 3) := by decide +kernel
theorem dX11_feed_30 : decode cX11_feed 30 = .ok (.iload_n 2, 1) := by decide +kernel
theorem dX11_feed_31 : decode cX11_feed 31 = .ok (.invokevirtual 65, 3) := by decide +kernel
theorem dX11_feed_34 : decode cX11_feed 34 = .ok (.aload_n 0, 1) := by decide +kernel
theorem dX11_feed_35 : decode cX11_feed 35 = .ok (.getfield 10, 3) := by decide +kernel
theorem dX11_feed_38 : decode cX11_feed 38 = .ok (.iload_n 3, 1) := by decide +kernel
theorem dX11_feed_39 : decode cX11_feed 39 = .ok (.invokevirtual 65, 3) := by decide +kernel
theorem dX11_feed_42 : decode cX11_feed 42 = .ok (.aload_n 0, 1) := by decide +kernel
theorem dX11_feed_43 : decode cX11_feed 43 = .ok (.getfield 10, 3) := by decide +kernel
theorem dX11_feed_46 : decode cX11_feed 46 = .ok (.iload 4, 2) := by decide +kernel
theorem dX11_feed_48 : decode cX11_feed 48 = .ok (.invokevirtual 65, 3) := by decide +kernel
theorem dX11_feed_51 : decode cX11_feed 51 = .ok (.aload_n 0, 1) := by decide +kernel
theorem dX11_feed_52 : decode cX11_feed 52 = .ok (.getfield 10, 3) := by decide +kernel
theorem dX11_feed_55 : decode cX11_feed 55 = .ok (.iload 5, 2) := by decide +kernel
theorem dX11_feed_57 : decode cX11_feed 57 = .ok (.invokevirtual 65, 3) := by decide +kernel
theorem dX11_feed_60 : decode cX11_feed 60 = .ok (.aload_n 0, 1) := by decide +kernel
theorem dX11_feed_61 : decode cX11_feed 61 = .ok (.getfield 10, 3) := by decide +kernel
theorem dX11_feed_64 : decode cX11_feed 64 = .ok (.getfield 61, 3) := by decide +kernel
theorem dX11_feed_67 : decode cX11_feed 67 = .ok (.ireturn, 1) := by decide +kernel
noncomputable def fX11_feed (μ : zM) (x0 : Nat) (x1 : Int32) (x2 : Int32) (x3 : Int32) (x4 : Int32) (x5 : Int32) : Option (Int32 × zM) := zgd (zm_ck μ 11 x0) <|
  zb1 (zm_gR μ 11 x0 0) fun v1 =>
  zb1 (zm_gI μ 7 v1 1) fun v3 =>
  if (v3 + 20) ≤ 600 then (
  zb1 (zm_gR μ 11 x0 0) fun v5 =>
  zb1 (fX7_put μ v5 x1) fun m8 =>
  zb1 (zm_gR m8 11 x0 0) fun v9 =>
  zb1 (fX7_put m8 v9 x2) fun m12 =>
  zb1 (zm_gR m12 11 x0 0) fun v13 =>
  zb1 (fX7_put m12 v13 x3) fun m16 =>
  zb1 (zm_gR m16 11 x0 0) fun v17 =>
  zb1 (fX7_put m16 v17 x4) fun m20 =>
  zb1 (zm_gR m20 11 x0 0) fun v21 =>
  zb1 (fX7_put m20 v21 x5) fun m24 =>
  zb1 (zm_gR m24 11 x0 0) fun v25 =>
  zb1 (zm_gI m24 7 v25 1) fun v27 =>
  some (v27, m24))
  else (
  some ((-1), μ))
theorem fX11_feed_ck {μ : zM} {x0 : Nat} {x1 : Int32} {x2 : Int32} {x3 : Int32} {x4 : Int32} {x5 : Int32} {z : Int32 × zM} (h : fX11_feed μ x0 x1 x2 x3 x4 x5 = some z) : zm_ck μ 11 x0 = true := (zgd_s h).1
set_option maxHeartbeats 4000000 in
set_option maxRecDepth 100000 in
theorem cX11_feed_ok {μ : zM} {x0 : Nat} {x1 : Int32} {x2 : Int32} {x3 : Int32} {x4 : Int32} {x5 : Int32} {r : Int32} {mo : zM} (hf : fX11_feed μ x0 x1 x2 x3 x4 x5 = some (r, mo)) : zC yX11_feed cX11_feed 6 (some .int) 1 0 0 [.ref x0, .int x1, .int x2, .int x3, .int x4, .int x5] μ (some (.int r)) mo := by
  replace hf := (zgd_s hf).2
  refine zC.of (by decide) (Nat.le_of_ble_eq_true rfl) (fun K hin => ?_)
  clear hin
  show zz K cX11_feed (6, RX11, some .int, 1, 0, 0, some (.int r), mo) 0 0 0 [(0, .ref x0), (1, .int x1), (2, .int x2), (3, .int x3), (4, .int x4), (5, .int x5)] [] μ
  refine zr_aload_n 0 dX11_feed_0 rfl ?_
  replace hf := zb1_s hf
  obtain ⟨v1, h2, hf⟩ := hf
  refine zr_get (zm_gR_g h2) zk11 (by decide) zl_626 dX11_feed_1 ?_
  replace hf := zb1_s hf
  obtain ⟨v3, h4, hf⟩ := hf
  refine zr_get (zm_gI_g h4) zk7 (by decide) zl_659 dX11_feed_4 ?_
  refine zr_bipush 20 dX11_feed_7 (by decide) ?_
  refine zr_iadd dX11_feed_9 ?_
  refine zr_sipush 600 dX11_feed_10 (by decide) ?_
  refine zr_icmp_le 18 dX11_feed_13 (by decide) (fun hc => ?_) (fun hc => ?_)
  · rw [if_pos hc] at hf
    refine zr_aload_n 0 dX11_feed_18 rfl ?_
    replace hf := zb1_s hf
    obtain ⟨v5, h6, hf⟩ := hf
    refine zr_get (zm_gR_g h6) zk11 (by decide) zl_626 dX11_feed_19 ?_
    refine zr_iload_n 1 dX11_feed_22 rfl ?_
    replace hf := zb1_s hf
    obtain ⟨m8, h7, hf⟩ := hf
    refine zr_callV (ci := 7) [.int x1] (cX7_put_ok h7) zvs_X7_put zl_662 zl_663 (fX7_put_ck h7) rfl rfl zl_661 rfl (Nat.le_of_ble_eq_true rfl) (Nat.le_of_ble_eq_true rfl) (Nat.le_of_ble_eq_true rfl) (Nat.le_of_ble_eq_true rfl) dX11_feed_23 rfl ?_
    refine zr_aload_n 0 dX11_feed_26 rfl ?_
    replace hf := zb1_s hf
    obtain ⟨v9, h10, hf⟩ := hf
    refine zr_get (zm_gR_g h10) zk11 (by decide) zl_626 dX11_feed_27 ?_
    refine zr_iload_n 2 dX11_feed_30 rfl ?_
    replace hf := zb1_s hf
    obtain ⟨m12, h11, hf⟩ := hf
    refine zr_callV (ci := 7) [.int x2] (cX7_put_ok h11) zvs_X7_put zl_662 zl_663 (fX7_put_ck h11) rfl rfl zl_661 rfl (Nat.le_of_ble_eq_true rfl) (Nat.le_of_ble_eq_true rfl) (Nat.le_of_ble_eq_true rfl) (Nat.le_of_ble_eq_true rfl) dX11_feed_31 rfl ?_
    refine zr_aload_n 0 dX11_feed_34 rfl ?_
    replace hf := zb1_s hf
    obtain ⟨v13, h14, hf⟩ := hf
    refine zr_get (zm_gR_g h14) zk11 (by decide) zl_626 dX11_feed_35 ?_
    refine zr_iload_n 3 dX11_feed_38 rfl ?_
    replace hf := zb1_s hf
    obtain ⟨m16, h15, hf⟩ := hf
    refine zr_callV (ci := 7) [.int x3] (cX7_put_ok h15) zvs_X7_put zl_662 zl_663 (fX7_put_ck h15) rfl rfl zl_661 rfl (Nat.le_of_ble_eq_true rfl) (Nat.le_of_ble_eq_true rfl) (Nat.le_of_ble_eq_true rfl) (Nat.le_of_ble_eq_true rfl) dX11_feed_39 rfl ?_
    refine zr_aload_n 0 dX11_feed_42 rfl ?_
    replace hf := zb1_s hf
    obtain ⟨v17, h18, hf⟩ := hf
    refine zr_get (zm_gR_g h18) zk11 (by decide) zl_626 dX11_feed_43 ?_
    refine zr_iload 4 dX11_feed_46 rfl ?_
    replace hf := zb1_s hf
    obtain ⟨m20, h19, hf⟩ := hf
    refine zr_callV (ci := 7) [.int x4] (cX7_put_ok h19) zvs_X7_put zl_662 zl_663 (fX7_put_ck h19) rfl rfl zl_661 rfl (Nat.le_of_ble_eq_true rfl) (Nat.le_of_ble_eq_true rfl) (Nat.le_of_ble_eq_true rfl) (Nat.le_of_ble_eq_true rfl) dX11_feed_48 rfl ?_
    refine zr_aload_n 0 dX11_feed_51 rfl ?_
    replace hf := zb1_s hf
    obtain ⟨v21, h22, hf⟩ := hf
    refine zr_get (zm_gR_g h22) zk11 (by decide) zl_626 dX11_feed_52 ?_
    refine zr_iload 5 dX11_feed_55 rfl ?_
    replace hf := zb1_s hf
    obtain ⟨m24, h23, hf⟩ := hf
    refine zr_callV (ci := 7) [.int x5] (cX7_put_ok h23) zvs_X7_put zl_662 zl_663 (fX7_put_ck h23) rfl rfl zl_661 rfl (Nat.le_of_ble_eq_true rfl) (Nat.le_of_ble_eq_true rfl) (Nat.le_of_ble_eq_true rfl) (Nat.le_of_ble_eq_true rfl) dX11_feed_57 rfl ?_
    refine zr_aload_n 0 dX11_feed_60 rfl ?_
    replace hf := zb1_s hf
    obtain ⟨v25, h26, hf⟩ := hf
    refine zr_get (zm_gR_g h26) zk11 (by decide) zl_626 dX11_feed_61 ?_
    replace hf := zb1_s hf
    obtain ⟨v27, h28, hf⟩ := hf
    refine zr_get (zm_gI_g h28) zk7 (by decide) zl_659 dX11_feed_64 ?_
    cases hf
    exact zr_iret dX11_feed_67
  · rw [if_neg hc] at hf
    refine zr_iconst (-1) dX11_feed_16 (by decide) ?_
    cases hf
    exact zr_iret dX11_feed_17
theorem dX11_end_0 : decode cX11_end 0 = .ok (.iload_n 1, 1) := by decide +kernel
theorem dX11_end_1 : decode cX11_end 1 = .ok (.ifCond .lt 14, 3) := by decide +kernel
theorem dX11_end_4 : decode cX11_end 4 = .ok (.iload_n 1, 1) := by decide +kernel
theorem dX11_end_5 : decode cX11_end 5 = .ok (.aload_n 0, 1) := by decide +kernel
theorem dX11_end_6 : decode cX11_end 6 = .ok (.getfield 10, 3) := by decide +kernel
theorem dX11_end_9 : decode cX11_end 9 = .ok (.getfield 61, 3) := by decide +kernel
theorem dX11_end_12 : decode cX11_end 12 = .ok (.if_icmp .le 5, 3) := by decide +kernel
theorem dX11_end_15 : decode cX11_end 15 = .ok (.iconst (-1), 1) := by decide +kernel
theorem dX11_end_16 : decode cX11_end 16 = .ok (.ireturn, 1) := by decide +kernel
theorem dX11_end_17 : decode cX11_end 17 = .ok (.aload_n 0, 1) := by decide +kernel
theorem dX11_end_18 : decode cX11_end 18 = .ok (.getfield 10, 3) := by decide +kernel
theorem dX11_end_21 : decode cX11_end 21 = .ok (.iload_n 1, 1) := by decide +kernel
theorem dX11_end_22 : decode cX11_end 22 = .ok (.putfield 61, 3) := by decide +kernel
theorem dX11_end_25 : decode cX11_end 25 = .ok (.iload_n 1, 1) := by decide +kernel
theorem dX11_end_26 : decode cX11_end 26 = .ok (.ireturn, 1) := by decide +kernel
noncomputable def fX11_end (μ : zM) (x0 : Nat) (x1 : Int32) : Option (Int32 × zM) := zgd (zm_ck μ 11 x0) <|
  if x1 < 0 then (
  some ((-1), μ))
  else (
  zb1 (zm_gR μ 11 x0 0) fun v1 =>
  zb1 (zm_gI μ 7 v1 1) fun v3 =>
  if x1 ≤ v3 then (
  zb1 (zm_gR μ 11 x0 0) fun v5 =>
  zb1 (zm_p μ 7 v5 1 (.int x1)) fun m7 =>
  some (x1, m7))
  else (
  some ((-1), μ)))
theorem fX11_end_ck {μ : zM} {x0 : Nat} {x1 : Int32} {z : Int32 × zM} (h : fX11_end μ x0 x1 = some z) : zm_ck μ 11 x0 = true := (zgd_s h).1
set_option maxHeartbeats 4000000 in
set_option maxRecDepth 100000 in
theorem cX11_end_ok {μ : zM} {x0 : Nat} {x1 : Int32} {r : Int32} {mo : zM} (hf : fX11_end μ x0 x1 = some (r, mo)) : zC yX11_end cX11_end 2 (some .int) 0 0 0 [.ref x0, .int x1] μ (some (.int r)) mo := by
  replace hf := (zgd_s hf).2
  refine zC.of (by decide) (Nat.le_of_ble_eq_true rfl) (fun K hin => ?_)
  clear hin
  show zz K cX11_end (2, RX11, some .int, 0, 0, 0, some (.int r), mo) 0 0 0 [(0, .ref x0), (1, .int x1)] [] μ
  refine zr_iload_n 1 dX11_end_0 rfl ?_
  refine zr_if_lt 15 dX11_end_1 (by decide) (fun hc => ?_) (fun hc => ?_)
  · rw [if_pos hc] at hf
    refine zr_iconst (-1) dX11_end_15 (by decide) ?_
    cases hf
    exact zr_iret dX11_end_16
  · rw [if_neg hc] at hf
    refine zr_iload_n 1 dX11_end_4 rfl ?_
    refine zr_aload_n 0 dX11_end_5 rfl ?_
    replace hf := zb1_s hf
    obtain ⟨v1, h2, hf⟩ := hf
    refine zr_get (zm_gR_g h2) zk11 (by decide) zl_626 dX11_end_6 ?_
    replace hf := zb1_s hf
    obtain ⟨v3, h4, hf⟩ := hf
    refine zr_get (zm_gI_g h4) zk7 (by decide) zl_659 dX11_end_9 ?_
    refine zr_icmp_le 17 dX11_end_12 (by decide) (fun hc => ?_) (fun hc => ?_)
    · rw [if_pos hc] at hf
      refine zr_aload_n 0 dX11_end_17 rfl ?_
      replace hf := zb1_s hf
      obtain ⟨v5, h6, hf⟩ := hf
      refine zr_get (zm_gR_g h6) zk11 (by decide) zl_626 dX11_end_18 ?_
      refine zr_iload_n 1 dX11_end_21 rfl ?_
      replace hf := zb1_s hf
      obtain ⟨m7, h8, hf⟩ := hf
      refine zr_put h8 zk7 (by decide) zl_659 rfl rfl rfl dX11_end_22 ?_
      refine zr_iload_n 1 dX11_end_25 rfl ?_
      cases hf
      exact zr_iret dX11_end_26
    · rw [if_neg hc] at hf
      refine zr_iconst (-1) dX11_end_15 (by decide) ?_
      cases hf
      exact zr_iret dX11_end_16
theorem zl_664 : Cond.fieldLink RX11 69 "TwoEchoes$Told" "fault" "I" ∈ zt := zt_at 320 (by decide +kernel)
theorem zl_665 : Cond.fieldLink RX11 72 "TwoEchoes$Told" "faultPlace" "I" ∈ zt := zt_at 322 (by decide +kernel)
theorem zl_666 : Cond.code yX7_slotFor cX7_slotFor 3 (some .int) ∈ zt := zt_at 526 (by decide +kernel)
theorem zvs_X7_slotFor : zvS yX7_slotFor cX7_slotFor 3 (some .int) 2 := ⟨zl_666, zl_622, ⟨by decide +kernel, by decide +kernel, by decide +kernel⟩, by decide⟩
theorem zl_667 : Cond.methodLink RX11 75 yX7_slotFor ∈ zt := zt_at 523 (by decide +kernel)
theorem zl_668 : Cond.instanceMethod yX7_slotFor ∈ zt := zt_at 524 (by decide +kernel)
theorem zl_669 : Cond.selects RX7 yX7_slotFor yX7_slotFor ∈ zt := zt_at 525 (by decide +kernel)
theorem zl_670 : Cond.code yX4_read cX4_read 4 (none) ∈ zt := zt_at 530 (by decide +kernel)
theorem zvs_X4_read : zvS yX4_read cX4_read 4 (none) 2 := ⟨zl_670, zl_296, ⟨by decide +kernel, by decide +kernel, by decide +kernel⟩, by decide⟩
theorem zl_671 : Cond.methodLink RX11 79 yX4_read ∈ zt := zt_at 527 (by decide +kernel)
theorem zl_672 : Cond.instanceMethod yX4_read ∈ zt := zt_at 528 (by decide +kernel)
theorem zl_673 : Cond.selects RX4 yX4_read yX4_read ∈ zt := zt_at 529 (by decide +kernel)
theorem zl_674 : Cond.fieldLink RX11 83 "TwoEchoes$Reader" "fault" "I" ∈ zt := zt_at 376 (by decide +kernel)
theorem zl_675 : Cond.fieldLink RX11 84 "TwoEchoes$Reader" "faultPlace" "I" ∈ zt := zt_at 378 (by decide +kernel)
theorem zl_676 : Cond.code yX7_keep cX7_keep 4 (none) ∈ zt := zt_at 731 (by decide +kernel)
theorem zvs_X7_keep : zvS yX7_keep cX7_keep 4 (none) 3 := ⟨zl_676, zl_622, ⟨by decide +kernel, by decide +kernel, by decide +kernel⟩, by decide⟩
theorem zl_677 : Cond.methodLink RX11 85 yX7_keep ∈ zt := zt_at 728 (by decide +kernel)
theorem zl_678 : Cond.instanceMethod yX7_keep ∈ zt := zt_at 729 (by decide +kernel)
theorem zl_679 : Cond.selects RX7 yX7_keep yX7_keep ∈ zt := zt_at 730 (by decide +kernel)
theorem dX11_text_0 : decode cX11_text 0 = .ok (.aload_n 0, 1) := by decide +kernel
theorem dX11_text_1 : decode cX11_text 1 = .ok (.getfield 10, 3) := by decide +kernel
theorem dX11_text_4 : decode cX11_text 4 = .ok (.getfield 61, 3) := by decide +kernel
theorem dX11_text_7 : decode cX11_text 7 = .ok (.istore_n 3, 1) := by decide +kernel
theorem dX11_text_8 : decode cX11_text 8 = .ok (.aload_n 0, 1) := by decide +kernel
theorem dX11_text_9 : decode cX11_text 9 = .ok (.getfield 10, 3) := by decide +kernel
theorem dX11_text_12 : decode cX11_text 12 = .ok (.iconst 0, 1) := by decide +kernel
theorem dX11_text_13 : decode cX11_text 13 = .ok (.putfield 61, 3) := by decide +kernel
theorem dX11_text_16 : decode cX11_text 16 = .ok (.aload_n 0, 1) := by decide +kernel
theorem dX11_text_17 : decode cX11_text 17 = .ok (.getfield 10, 3) := by decide +kernel
theorem dX11_text_20 : decode cX11_text 20 = .ok (.iconst 0, 1) := by decide +kernel
theorem dX11_text_21 : decode cX11_text 21 = .ok (.putfield 69, 3) := by decide +kernel
theorem dX11_text_24 : decode cX11_text 24 = .ok (.aload_n 0, 1) := by decide +kernel
theorem dX11_text_25 : decode cX11_text 25 = .ok (.getfield 10, 3) := by decide +kernel
theorem dX11_text_28 : decode cX11_text 28 = .ok (.iconst (-1), 1) := by decide +kernel
theorem dX11_text_29 : decode cX11_text 29 = .ok (.putfield 72, 3) := by decide +kernel
theorem dX11_text_32 : decode cX11_text 32 = .ok (.aload_n 0, 1) := by decide +kernel
theorem dX11_text_33 : decode cX11_text 33 = .ok (.getfield 10, 3) := by decide +kernel
theorem dX11_text_36 : decode cX11_text 36 = .ok (.iload_n 1, 1) := by decide +kernel
theorem dX11_text_37 : decode cX11_text 37 = .ok (.iload_n 2, 1) := by decide +kernel
theorem dX11_text_38 : decode cX11_text 38 = .ok (.invokevirtual 75, 3) := by decide +kernel
theorem dX11_text_41 : decode cX11_text 41 = .ok (.istore 4, 2) := by decide +kernel
theorem dX11_text_43 : decode cX11_text 43 = .ok (.iload 4, 2) := by decide +kernel
theorem dX11_text_45 : decode cX11_text 45 = .ok (.iconst (-1), 1) := by decide +kernel
theorem dX11_text_46 : decode cX11_text 46 = .ok (.if_icmp .ne 6, 3) := by decide +kernel
theorem dX11_text_49 : decode cX11_text 49 = .ok (.bipush (-2), 2) := by decide +kernel
theorem dX11_text_51 : decode cX11_text 51 = .ok (.ireturn, 1) := by decide +kernel
theorem dX11_text_52 : decode cX11_text 52 = .ok (.aload_n 0, 1) := by decide +kernel
theorem dX11_text_53 : decode cX11_text 53 = .ok (.getfield 29, 3) := by decide +kernel
theorem dX11_text_56 : decode cX11_text 56 = .ok (.iload_n 3, 1) := by decide +kernel
theorem dX11_text_57 : decode cX11_text 57 = .ok (.iload_n 1, 1) := by decide +kernel
theorem dX11_text_58 : decode cX11_text 58 = .ok (.invokevirtual 79, 3) := by decide +kernel
theorem dX11_text_61 : decode cX11_text 61 = .ok (.aload_n 0, 1) := by decide +kernel
theorem dX11_text_62 : decode cX11_text 62 = .ok (.getfield 10, 3) := by decide +kernel
theorem dX11_text_65 : decode cX11_text 65 = .ok (.aload_n 0, 1) := by decide +kernel
theorem dX11_text_66 : decode cX11_text 66 = .ok (.getfield 29, 3) := by decide +kernel
theorem dX11_text_69 : decode cX11_text 69 = .ok (.getfield 83, 3) := by decide +kernel
theorem dX11_text_72 : decode cX11_text 72 = .ok (.putfield 69, 3) := by decide +kernel
theorem dX11_text_75 : decode cX11_text 75 = .ok (.aload_n 0, 1) := by decide +kernel
theorem dX11_text_76 : decode cX11_text 76 = .ok (.getfield 10, 3) := by decide +kernel
theorem dX11_text_79 : decode cX11_text 79 = .ok (.aload_n 0, 1) := by decide +kernel
theorem dX11_text_80 : decode cX11_text 80 = .ok (.getfield 29, 3) := by decide +kernel
theorem dX11_text_83 : decode cX11_text 83 = .ok (.getfield 84, 3) := by decide +kernel
theorem dX11_text_86 : decode cX11_text 86 = .ok (.putfield 72, 3) := by decide +kernel
theorem dX11_text_89 : decode cX11_text 89 = .ok (.aload_n 0, 1) := by decide +kernel
theorem dX11_text_90 : decode cX11_text 90 = .ok (.getfield 10, 3) := by decide +kernel
theorem dX11_text_93 : decode cX11_text 93 = .ok (.getfield 69, 3) := by decide +kernel
theorem dX11_text_96 : decode cX11_text 96 = .ok (.ifCond .eq 5, 3) := by decide +kernel
theorem dX11_text_99 : decode cX11_text 99 = .ok (.iconst (-1), 1) := by decide +kernel
theorem dX11_text_100 : decode cX11_text 100 = .ok (.ireturn, 1) := by decide +kernel
theorem dX11_text_101 : decode cX11_text 101 = .ok (.aload_n 0, 1) := by decide +kernel
theorem dX11_text_102 : decode cX11_text 102 = .ok (.getfield 10, 3) := by decide +kernel
theorem dX11_text_105 : decode cX11_text 105 = .ok (.iload_n 1, 1) := by decide +kernel
theorem dX11_text_106 : decode cX11_text 106 = .ok (.iload 4, 2) := by decide +kernel
theorem dX11_text_108 : decode cX11_text 108 = .ok (.aload_n 0, 1) := by decide +kernel
theorem dX11_text_109 : decode cX11_text 109 = .ok (.getfield 29, 3) := by decide +kernel
theorem dX11_text_112 : decode cX11_text 112 = .ok (.invokevirtual 85, 3) := by decide +kernel
theorem dX11_text_115 : decode cX11_text 115 = .ok (.iload 4, 2) := by decide +kernel
theorem dX11_text_117 : decode cX11_text 117 = .ok (.ireturn, 1) := by decide +kernel
noncomputable def fX11_text (μ : zM) (x0 : Nat) (x1 : Int32) (x2 : Int32) : Option (Int32 × zM) := zgd (zm_ck μ 11 x0) <|
  zb1 (zm_gR μ 11 x0 0) fun v1 =>
  zb1 (zm_gI μ 7 v1 1) fun v3 =>
  zb1 (zm_gR μ 11 x0 0) fun v5 =>
  zb1 (zm_p μ 7 v5 1 (.int 0)) fun m7 =>
  zb1 (zm_gR m7 11 x0 0) fun v9 =>
  zb1 (zm_p m7 7 v9 2 (.int 0)) fun m11 =>
  zb1 (zm_gR m11 11 x0 0) fun v13 =>
  zb1 (zm_p m11 7 v13 3 (.int (-1))) fun m15 =>
  zb1 (zm_gR m15 11 x0 0) fun v17 =>
  zb1 (fX7_slotFor m15 v17 x1 x2) fun v20 =>
  if v20 = (-1) then (
  some ((-2), m15))
  else (
  zb1 (zm_gR m15 11 x0 2) fun v21 =>
  zb1 (fX4_read m15 v21 v3 x1) fun m24 =>
  zb1 (zm_gR m24 11 x0 0) fun v25 =>
  zb1 (zm_gR m24 11 x0 2) fun v27 =>
  zb1 (zm_gI m24 4 v27 4) fun v29 =>
  zb1 (zm_p m24 7 v25 2 (.int v29)) fun m31 =>
  zb1 (zm_gR m31 11 x0 0) fun v33 =>
  zb1 (zm_gR m31 11 x0 2) fun v35 =>
  zb1 (zm_gI m31 4 v35 5) fun v37 =>
  zb1 (zm_p m31 7 v33 3 (.int v37)) fun m39 =>
  zb1 (zm_gR m39 11 x0 0) fun v41 =>
  zb1 (zm_gI m39 7 v41 2) fun v43 =>
  if v43 = 0 then (
  zb1 (zm_gR m39 11 x0 0) fun v45 =>
  zb1 (zm_gR m39 11 x0 2) fun v47 =>
  zb1 (fX7_keep m39 v45 x1 v20 v47) fun m50 =>
  some (v20, m50))
  else (
  some ((-1), m39)))
theorem fX11_text_ck {μ : zM} {x0 : Nat} {x1 : Int32} {x2 : Int32} {z : Int32 × zM} (h : fX11_text μ x0 x1 x2 = some z) : zm_ck μ 11 x0 = true := (zgd_s h).1
set_option maxHeartbeats 4000000 in
set_option maxRecDepth 100000 in
theorem cX11_text_ok {μ : zM} {x0 : Nat} {x1 : Int32} {x2 : Int32} {r : Int32} {mo : zM} (hf : fX11_text μ x0 x1 x2 = some (r, mo)) : zC yX11_text cX11_text 5 (some .int) 8 0 0 [.ref x0, .int x1, .int x2] μ (some (.int r)) mo := by
  replace hf := (zgd_s hf).2
  refine zC.of (by decide) (Nat.le_of_ble_eq_true rfl) (fun K hin => ?_)
  clear hin
  show zz K cX11_text (5, RX11, some .int, 8, 0, 0, some (.int r), mo) 0 0 0 [(0, .ref x0), (1, .int x1), (2, .int x2)] [] μ
  refine zr_aload_n 0 dX11_text_0 rfl ?_
  replace hf := zb1_s hf
  obtain ⟨v1, h2, hf⟩ := hf
  refine zr_get (zm_gR_g h2) zk11 (by decide) zl_626 dX11_text_1 ?_
  replace hf := zb1_s hf
  obtain ⟨v3, h4, hf⟩ := hf
  refine zr_get (zm_gI_g h4) zk7 (by decide) zl_659 dX11_text_4 ?_
  refine zr_istore_n [(3, .int v3), (0, .ref x0), (1, .int x1), (2, .int x2)] dX11_text_7 (Nat.le_of_ble_eq_true rfl) rfl ?_
  refine zr_aload_n 1 dX11_text_8 rfl ?_
  replace hf := zb1_s hf
  obtain ⟨v5, h6, hf⟩ := hf
  refine zr_get (zm_gR_g h6) zk11 (by decide) zl_626 dX11_text_9 ?_
  refine zr_iconst 0 dX11_text_12 (by decide) ?_
  replace hf := zb1_s hf
  obtain ⟨m7, h8, hf⟩ := hf
  refine zr_put h8 zk7 (by decide) zl_659 rfl rfl rfl dX11_text_13 ?_
  refine zr_aload_n 1 dX11_text_16 rfl ?_
  replace hf := zb1_s hf
  obtain ⟨v9, h10, hf⟩ := hf
  refine zr_get (zm_gR_g h10) zk11 (by decide) zl_626 dX11_text_17 ?_
  refine zr_iconst 0 dX11_text_20 (by decide) ?_
  replace hf := zb1_s hf
  obtain ⟨m11, h12, hf⟩ := hf
  refine zr_put h12 zk7 (by decide) zl_664 rfl rfl rfl dX11_text_21 ?_
  refine zr_aload_n 1 dX11_text_24 rfl ?_
  replace hf := zb1_s hf
  obtain ⟨v13, h14, hf⟩ := hf
  refine zr_get (zm_gR_g h14) zk11 (by decide) zl_626 dX11_text_25 ?_
  refine zr_iconst (-1) dX11_text_28 (by decide) ?_
  replace hf := zb1_s hf
  obtain ⟨m15, h16, hf⟩ := hf
  refine zr_put h16 zk7 (by decide) zl_665 rfl rfl rfl dX11_text_29 ?_
  refine zr_aload_n 1 dX11_text_32 rfl ?_
  replace hf := zb1_s hf
  obtain ⟨v17, h18, hf⟩ := hf
  refine zr_get (zm_gR_g h18) zk11 (by decide) zl_626 dX11_text_33 ?_
  refine zr_iload_n 2 dX11_text_36 rfl ?_
  refine zr_iload_n 3 dX11_text_37 rfl ?_
  replace hf := zb1_s hf
  obtain ⟨v20, h19, hf⟩ := hf
  refine zr_callV (ci := 7) [.int x1, .int x2] (cX7_slotFor_ok h19) zvs_X7_slotFor zl_668 zl_669 (fX7_slotFor_ck h19) rfl rfl zl_667 rfl (Nat.le_of_ble_eq_true rfl) (Nat.le_of_ble_eq_true rfl) (Nat.le_of_ble_eq_true rfl) (Nat.le_of_ble_eq_true rfl) dX11_text_38 rfl ?_
  refine zr_istore [(4, .int v20), (3, .int v3), (0, .ref x0), (1, .int x1), (2, .int x2)] dX11_text_41 (Nat.le_of_ble_eq_true rfl) rfl ?_
  refine zr_iload 0 dX11_text_43 rfl ?_
  refine zr_iconst (-1) dX11_text_45 (by decide) ?_
  refine zr_icmp_ne 52 dX11_text_46 (by decide) (fun hc => ?_) (fun hc => ?_)
  · rw [if_neg hc] at hf
    refine zr_aload_n 2 dX11_text_52 rfl ?_
    replace hf := zb1_s hf
    obtain ⟨v21, h22, hf⟩ := hf
    refine zr_get (zm_gR_g h22) zk11 (by decide) zl_634 dX11_text_53 ?_
    refine zr_iload_n 1 dX11_text_56 rfl ?_
    refine zr_iload_n 3 dX11_text_57 rfl ?_
    replace hf := zb1_s hf
    obtain ⟨m24, h23, hf⟩ := hf
    refine zr_callV (ci := 4) [.int v3, .int x1] (cX4_read_ok h23) zvs_X4_read zl_672 zl_673 (fX4_read_ck h23) rfl rfl zl_671 rfl (Nat.le_of_ble_eq_true rfl) (Nat.le_of_ble_eq_true rfl) (Nat.le_of_ble_eq_true rfl) (Nat.le_of_ble_eq_true rfl) dX11_text_58 rfl ?_
    refine zr_aload_n 2 dX11_text_61 rfl ?_
    replace hf := zb1_s hf
    obtain ⟨v25, h26, hf⟩ := hf
    refine zr_get (zm_gR_g h26) zk11 (by decide) zl_626 dX11_text_62 ?_
    refine zr_aload_n 2 dX11_text_65 rfl ?_
    replace hf := zb1_s hf
    obtain ⟨v27, h28, hf⟩ := hf
    refine zr_get (zm_gR_g h28) zk11 (by decide) zl_634 dX11_text_66 ?_
    replace hf := zb1_s hf
    obtain ⟨v29, h30, hf⟩ := hf
    refine zr_get (zm_gI_g h30) zk4 (by decide) zl_674 dX11_text_69 ?_
    replace hf := zb1_s hf
    obtain ⟨m31, h32, hf⟩ := hf
    refine zr_put h32 zk7 (by decide) zl_664 rfl rfl rfl dX11_text_72 ?_
    refine zr_aload_n 2 dX11_text_75 rfl ?_
    replace hf := zb1_s hf
    obtain ⟨v33, h34, hf⟩ := hf
    refine zr_get (zm_gR_g h34) zk11 (by decide) zl_626 dX11_text_76 ?_
    refine zr_aload_n 2 dX11_text_79 rfl ?_
    replace hf := zb1_s hf
    obtain ⟨v35, h36, hf⟩ := hf
    refine zr_get (zm_gR_g h36) zk11 (by decide) zl_634 dX11_text_80 ?_
    replace hf := zb1_s hf
    obtain ⟨v37, h38, hf⟩ := hf
    refine zr_get (zm_gI_g h38) zk4 (by decide) zl_675 dX11_text_83 ?_
    replace hf := zb1_s hf
    obtain ⟨m39, h40, hf⟩ := hf
    refine zr_put h40 zk7 (by decide) zl_665 rfl rfl rfl dX11_text_86 ?_
    refine zr_aload_n 2 dX11_text_89 rfl ?_
    replace hf := zb1_s hf
    obtain ⟨v41, h42, hf⟩ := hf
    refine zr_get (zm_gR_g h42) zk11 (by decide) zl_626 dX11_text_90 ?_
    replace hf := zb1_s hf
    obtain ⟨v43, h44, hf⟩ := hf
    refine zr_get (zm_gI_g h44) zk7 (by decide) zl_664 dX11_text_93 ?_
    refine zr_if_eq 101 dX11_text_96 (by decide) (fun hc => ?_) (fun hc => ?_)
    · rw [if_pos hc] at hf
      refine zr_aload_n 2 dX11_text_101 rfl ?_
      replace hf := zb1_s hf
      obtain ⟨v45, h46, hf⟩ := hf
      refine zr_get (zm_gR_g h46) zk11 (by decide) zl_626 dX11_text_102 ?_
      refine zr_iload_n 3 dX11_text_105 rfl ?_
      refine zr_iload 0 dX11_text_106 rfl ?_
      refine zr_aload_n 2 dX11_text_108 rfl ?_
      replace hf := zb1_s hf
      obtain ⟨v47, h48, hf⟩ := hf
      refine zr_get (zm_gR_g h48) zk11 (by decide) zl_634 dX11_text_109 ?_
      replace hf := zb1_s hf
      obtain ⟨m50, h49, hf⟩ := hf
      refine zr_callV (ci := 7) [.int x1, .int v20, .ref v47] (cX7_keep_ok h49) zvs_X7_keep zl_678 zl_679 (fX7_keep_ck h49) rfl rfl zl_677 rfl (Nat.le_of_ble_eq_true rfl) (Nat.le_of_ble_eq_true rfl) (Nat.le_of_ble_eq_true rfl) (Nat.le_of_ble_eq_true rfl) dX11_text_112 rfl ?_
      refine zr_iload 0 dX11_text_115 rfl ?_
      cases hf
      exact zr_iret dX11_text_117
    · rw [if_neg hc] at hf
      refine zr_iconst (-1) dX11_text_99 (by decide) ?_
      cases hf
      exact zr_iret dX11_text_100
  · rw [if_pos hc] at hf
    refine zr_bipush (-2) dX11_text_49 (by decide) ?_
    cases hf
    exact zr_iret dX11_text_51
theorem dX11_fault_0 : decode cX11_fault 0 = .ok (.iload_n 1, 1) := by decide +kernel
theorem dX11_fault_1 : decode cX11_fault 1 = .ok (.ifCond .ne 11, 3) := by decide +kernel
theorem dX11_fault_4 : decode cX11_fault 4 = .ok (.aload_n 0, 1) := by decide +kernel
theorem dX11_fault_5 : decode cX11_fault 5 = .ok (.getfield 10, 3) := by decide +kernel
theorem dX11_fault_8 : decode cX11_fault 8 = .ok (.getfield 69, 3) := by decide +kernel
theorem dX11_fault_11 : decode cX11_fault 11 = .ok (.ireturn, 1) := by decide +kernel
theorem dX11_fault_12 : decode cX11_fault 12 = .ok (.iload_n 1, 1) := by decide +kernel
theorem dX11_fault_13 : decode cX11_fault 13 = .ok (.iconst 1, 1) := by decide +kernel
theorem dX11_fault_14 : decode cX11_fault 14 = .ok (.if_icmp .ne 13, 3) := by decide +kernel
theorem dX11_fault_17 : decode cX11_fault 17 = .ok (.aload_n 0, 1) := by decide +kernel
theorem dX11_fault_18 : decode cX11_fault 18 = .ok (.getfield 10, 3) := by decide +kernel
theorem dX11_fault_21 : decode cX11_fault 21 = .ok (.getfield 72, 3) := by decide +kernel
theorem dX11_fault_24 : decode cX11_fault 24 = .ok (.goto 4, 3) := by decide +kernel
theorem dX11_fault_27 : decode cX11_fault 27 = .ok (.iconst (-1), 1) := by decide +kernel
theorem dX11_fault_28 : decode cX11_fault 28 = .ok (.ireturn, 1) := by decide +kernel
noncomputable def fX11_fault (μ : zM) (x0 : Nat) (x1 : Int32) : Option (Int32) := zgd (zm_ck μ 11 x0) <|
  if x1 = 0 then (
  zb1 (zm_gR μ 11 x0 0) fun v7 =>
  zb1 (zm_gI μ 7 v7 2) fun v9 =>
  some v9)
  else (
  zb1 (if x1 = 1 then (
  zb1 (zm_gR μ 11 x0 0) fun v3 =>
  zb1 (zm_gI μ 7 v3 3) fun v5 =>
  some v5)
  else (
  some (-1)) : Option (Int32)) fun (s1 : Int32) =>
  some s1)
theorem fX11_fault_ck {μ : zM} {x0 : Nat} {x1 : Int32} {z : Int32} (h : fX11_fault μ x0 x1 = some z) : zm_ck μ 11 x0 = true := (zgd_s h).1
set_option maxHeartbeats 4000000 in
set_option maxRecDepth 100000 in
theorem cX11_fault_ok {μ : zM} {x0 : Nat} {x1 : Int32} {r : Int32} (hf : fX11_fault μ x0 x1 = some r) : zC yX11_fault cX11_fault 2 (some .int) 0 0 0 [.ref x0, .int x1] μ (some (.int r)) μ := by
  replace hf := (zgd_s hf).2
  refine zC.of (by decide) (Nat.le_of_ble_eq_true rfl) (fun K hin => ?_)
  clear hin
  show zz K cX11_fault (2, RX11, some .int, 0, 0, 0, some (.int r), μ) 0 0 0 [(0, .ref x0), (1, .int x1)] [] μ
  refine zr_iload_n 1 dX11_fault_0 rfl ?_
  refine zr_if_ne 12 dX11_fault_1 (by decide) (fun hc => ?_) (fun hc => ?_)
  · rw [if_neg hc] at hf
    refine zr_iload_n 1 dX11_fault_12 rfl ?_
    refine zr_iconst 1 dX11_fault_13 (by decide) ?_
    replace hf := zb1_s hf
    obtain ⟨s1, hg, hf⟩ := hf
    have hj2 : zz K cX11_fault (2, RX11, some .int, 0, 0, 0, some (.int r), μ) 0 0 28 [] [.int s1] μ := by
      cases hf
      exact zr_iret dX11_fault_28
    clear hf
    have hf := hg
    clear hg
    refine zr_icmp_ne 27 dX11_fault_14 (by decide) (fun hc => ?_) (fun hc => ?_)
    · rw [if_neg hc] at hf
      refine zr_iconst (-1) dX11_fault_27 (by decide) ?_
      cases hf
      exact zr_lv [] rfl hj2
    · rw [if_pos hc] at hf
      refine zr_aload_n 0 dX11_fault_17 rfl ?_
      replace hf := zb1_s hf
      obtain ⟨v3, h4, hf⟩ := hf
      refine zr_get (zm_gR_g h4) zk11 (by decide) zl_626 dX11_fault_18 ?_
      replace hf := zb1_s hf
      obtain ⟨v5, h6, hf⟩ := hf
      refine zr_get (zm_gI_g h6) zk7 (by decide) zl_665 dX11_fault_21 ?_
      refine zr_goto 28 dX11_fault_24 (by decide) ?_
      cases hf
      exact zr_lv [] rfl hj2
  · rw [if_pos hc] at hf
    refine zr_aload_n 0 dX11_fault_4 rfl ?_
    replace hf := zb1_s hf
    obtain ⟨v7, h8, hf⟩ := hf
    refine zr_get (zm_gR_g h8) zk11 (by decide) zl_626 dX11_fault_5 ?_
    replace hf := zb1_s hf
    obtain ⟨v9, h10, hf⟩ := hf
    refine zr_get (zm_gI_g h10) zk7 (by decide) zl_664 dX11_fault_8 ?_
    cases hf
    exact zr_iret dX11_fault_11
theorem zl_680 : Cond.fieldLink RX11 318 "TwoEchoes$Told" "counts" "[I" ∈ zt := zt_at 324 (by decide +kernel)
theorem zl_681 : Cond.fieldLink RX11 325 "TwoEchoes$Told" "valleys" "[LTwoEchoes$Valley;" ∈ zt := zt_at 326 (by decide +kernel)
theorem dX11_valleyAt_0 : decode cX11_valleyAt 0 = .ok (.iload_n 1, 1) := by decide +kernel
theorem dX11_valleyAt_1 : decode cX11_valleyAt 1 = .ok (.ifCond .lt 16, 3) := by decide +kernel
theorem dX11_valleyAt_4 : decode cX11_valleyAt 4 = .ok (.iload_n 1, 1) := by decide +kernel
theorem dX11_valleyAt_5 : decode cX11_valleyAt 5 = .ok (.aload_n 0, 1) := by decide +kernel
theorem dX11_valleyAt_6 : decode cX11_valleyAt 6 = .ok (.getfield 10, 3) := by decide +kernel
theorem dX11_valleyAt_9 : decode cX11_valleyAt 9 = .ok (.getfield 318, 3) := by decide +kernel
theorem dX11_valleyAt_12 : decode cX11_valleyAt 12 = .ok (.iconst 0, 1) := by decide +kernel
theorem dX11_valleyAt_13 : decode cX11_valleyAt 13 = .ok (.iaload, 1) := by decide +kernel
theorem dX11_valleyAt_14 : decode cX11_valleyAt 14 = .ok (.if_icmp .lt 7, 3) := by decide +kernel
theorem dX11_valleyAt_17 : decode cX11_valleyAt 17 = .ok (.aconst_null, 1) := by decide +kernel
theorem dX11_valleyAt_18 : decode cX11_valleyAt 18 = .ok (.goto 12, 3) := by decide +kernel
theorem dX11_valleyAt_21 : decode cX11_valleyAt 21 = .ok (.aload_n 0, 1) := by decide +kernel
theorem dX11_valleyAt_22 : decode cX11_valleyAt 22 = .ok (.getfield 10, 3) := by decide +kernel
theorem dX11_valleyAt_25 : decode cX11_valleyAt 25 = .ok (.getfield 325, 3) := by decide +kernel
theorem dX11_valleyAt_28 : decode cX11_valleyAt 28 = .ok (.iload_n 1, 1) := by decide +kernel
theorem dX11_valleyAt_29 : decode cX11_valleyAt 29 = .ok (.aaload, 1) := by decide +kernel
theorem dX11_valleyAt_30 : decode cX11_valleyAt 30 = .ok (.areturn, 1) := by decide +kernel
noncomputable def fX11_valleyAt (μ : zM) (x0 : Nat) (x1 : Int32) : Option (Option Nat) := zgd (zm_ck μ 11 x0) <|
  zb1 (if x1 < 0 then (
  some none)
  else (
  zb1 (zm_gR μ 11 x0 0) fun v3 =>
  zb1 (zm_gR μ 7 v3 4) fun v5 =>
  zb1 (zm_aI μ 0 v5 0) fun v7 =>
  if x1 < v7 then (
  zb1 (zm_gR μ 11 x0 0) fun v9 =>
  zb1 (zm_gR μ 7 v9 5) fun v11 =>
  zb1 (zm_aQ μ 4 v11 x1) fun v13 =>
  some v13)
  else (
  some none)) : Option ((Option Nat))) fun (s1 : Option Nat) =>
  some s1
theorem fX11_valleyAt_ck {μ : zM} {x0 : Nat} {x1 : Int32} {z : Option Nat} (h : fX11_valleyAt μ x0 x1 = some z) : zm_ck μ 11 x0 = true := (zgd_s h).1
set_option maxHeartbeats 4000000 in
set_option maxRecDepth 100000 in
theorem cX11_valleyAt_ok {μ : zM} {x0 : Nat} {x1 : Int32} {r : Option Nat} (hf : fX11_valleyAt μ x0 x1 = some r) : zC yX11_valleyAt cX11_valleyAt 2 (some (.object "TwoEchoes$Valley")) 0 0 0 [.ref x0, .int x1] μ (some (va_rf r)) μ := by
  replace hf := (zgd_s hf).2
  refine zC.of (by decide) (Nat.le_of_ble_eq_true rfl) (fun K hin => ?_)
  clear hin
  show zz K cX11_valleyAt (2, RX11, some (.object "TwoEchoes$Valley"), 0, 0, 0, some (va_rf r), μ) 0 0 0 [(0, .ref x0), (1, .int x1)] [] μ
  refine zr_iload_n 1 dX11_valleyAt_0 rfl ?_
  replace hf := zb1_s hf
  obtain ⟨s1, hg, hf⟩ := hf
  have hj2 : zz K cX11_valleyAt (2, RX11, some (.object "TwoEchoes$Valley"), 0, 0, 0, some (va_rf r), μ) 0 0 30 [] [va_rf s1] μ := by
    cases hf
    exact zr_aret dX11_valleyAt_30
  clear hf
  have hf := hg
  clear hg
  refine zr_if_lt 17 dX11_valleyAt_1 (by decide) (fun hc => ?_) (fun hc => ?_)
  · rw [if_pos hc] at hf
    refine zr_null dX11_valleyAt_17 ?_
    refine zr_goto 30 dX11_valleyAt_18 (by decide) ?_
    cases hf
    exact zr_lv [] rfl hj2
  · rw [if_neg hc] at hf
    refine zr_iload_n 1 dX11_valleyAt_4 rfl ?_
    refine zr_aload_n 0 dX11_valleyAt_5 rfl ?_
    replace hf := zb1_s hf
    obtain ⟨v3, h4, hf⟩ := hf
    refine zr_get (zm_gR_g h4) zk11 (by decide) zl_626 dX11_valleyAt_6 ?_
    replace hf := zb1_s hf
    obtain ⟨v5, h6, hf⟩ := hf
    refine zr_get (zm_gR_g h6) zk7 (by decide) zl_680 dX11_valleyAt_9 ?_
    refine zr_iconst 0 dX11_valleyAt_12 (by decide) ?_
    replace hf := zb1_s hf
    obtain ⟨v7, h8, hf⟩ := hf
    refine zr_iald h8 dX11_valleyAt_13 ?_
    refine zr_icmp_lt 21 dX11_valleyAt_14 (by decide) (fun hc => ?_) (fun hc => ?_)
    · rw [if_pos hc] at hf
      refine zr_aload_n 0 dX11_valleyAt_21 rfl ?_
      replace hf := zb1_s hf
      obtain ⟨v9, h10, hf⟩ := hf
      refine zr_get (zm_gR_g h10) zk11 (by decide) zl_626 dX11_valleyAt_22 ?_
      replace hf := zb1_s hf
      obtain ⟨v11, h12, hf⟩ := hf
      refine zr_get (zm_gR_g h12) zk7 (by decide) zl_681 dX11_valleyAt_25 ?_
      refine zr_iload_n 1 dX11_valleyAt_28 rfl ?_
      replace hf := zb1_s hf
      obtain ⟨v13, h14, hf⟩ := hf
      refine zr_aald h14 (by decide) rfl dX11_valleyAt_29 ?_
      cases hf
      exact zr_lv [] rfl hj2
    · rw [if_neg hc] at hf
      refine zr_null dX11_valleyAt_17 ?_
      refine zr_goto 30 dX11_valleyAt_18 (by decide) ?_
      cases hf
      exact zr_lv [] rfl hj2
theorem zl_682 : Cond.code yX11_valleyAt cX11_valleyAt 2 (some (.object "TwoEchoes$Valley")) ∈ zt := zt_at 768 (by decide +kernel)
theorem zvs_X11_valleyAt : zvS yX11_valleyAt cX11_valleyAt 2 (some (.object "TwoEchoes$Valley")) 1 := ⟨zl_682, zl_118, ⟨by decide +kernel, by decide +kernel, by decide +kernel⟩, by decide⟩
theorem zl_683 : Cond.methodLink RX11 89 yX11_valleyAt ∈ zt := zt_at 765 (by decide +kernel)
theorem zl_684 : Cond.instanceMethod yX11_valleyAt ∈ zt := zt_at 767 (by decide +kernel)
theorem zl_685 : Cond.selects RX11 yX11_valleyAt yX11_valleyAt ∈ zt := zt_at 15 (by decide +kernel)
theorem zl_686 : Cond.code yX9_tell cX9_tell 3 (some .int) ∈ zt := zt_at 772 (by decide +kernel)
theorem zvs_X9_tell : zvS yX9_tell cX9_tell 3 (some .int) 1 := ⟨zl_686, zl_14, ⟨by decide +kernel, by decide +kernel, by decide +kernel⟩, by decide⟩
theorem zl_687 : Cond.methodLink RX11 93 yX9_tell ∈ zt := zt_at 769 (by decide +kernel)
theorem zl_688 : Cond.instanceMethod yX9_tell ∈ zt := zt_at 770 (by decide +kernel)
theorem zl_689 : Cond.selects RX9 yX9_tell yX9_tell ∈ zt := zt_at 771 (by decide +kernel)
theorem dX11_valley_0 : decode cX11_valley 0 = .ok (.aload_n 0, 1) := by decide +kernel
theorem dX11_valley_1 : decode cX11_valley 1 = .ok (.iload_n 1, 1) := by decide +kernel
theorem dX11_valley_2 : decode cX11_valley 2 = .ok (.invokevirtual 89, 3) := by decide +kernel
theorem dX11_valley_5 : decode cX11_valley 5 = .ok (.astore_n 3, 1) := by decide +kernel
theorem dX11_valley_6 : decode cX11_valley 6 = .ok (.aload_n 3, 1) := by decide +kernel
theorem dX11_valley_7 : decode cX11_valley 7 = .ok (.ifnonnull 7, 3) := by decide +kernel
theorem dX11_valley_10 : decode cX11_valley 10 = .ok (.iconst (-1), 1) := by decide +kernel
theorem dX11_valley_11 : decode cX11_valley 11 = .ok (.goto 8, 3) := by decide +kernel
theorem dX11_valley_14 : decode cX11_valley 14 = .ok (.aload_n 3, 1) := by decide +kernel
theorem dX11_valley_15 : decode cX11_valley 15 = .ok (.iload_n 2, 1) := by decide +kernel
theorem dX11_valley_16 : decode cX11_valley 16 = .ok (.invokevirtual 93, 3) := by decide +kernel
theorem dX11_valley_19 : decode cX11_valley 19 = .ok (.ireturn, 1) := by decide +kernel
noncomputable def fX11_valley (μ : zM) (x0 : Nat) (x1 : Int32) (x2 : Int32) : Option (Int32) := zgd (zm_ck μ 11 x0) <|
  zb1 (fX11_valleyAt μ x0 x1) fun v2 =>
  zb1 (zmo v2 (
  some (-1)) fun a5 =>
  zb1 (fX9_tell μ a5 x2) fun v7 =>
  some v7 : Option (Int32)) fun (s3 : Int32) =>
  some s3
theorem fX11_valley_ck {μ : zM} {x0 : Nat} {x1 : Int32} {x2 : Int32} {z : Int32} (h : fX11_valley μ x0 x1 x2 = some z) : zm_ck μ 11 x0 = true := (zgd_s h).1
set_option maxHeartbeats 4000000 in
set_option maxRecDepth 100000 in
theorem cX11_valley_ok {μ : zM} {x0 : Nat} {x1 : Int32} {x2 : Int32} {r : Int32} (hf : fX11_valley μ x0 x1 x2 = some r) : zC yX11_valley cX11_valley 4 (some .int) 2 0 0 [.ref x0, .int x1, .int x2] μ (some (.int r)) μ := by
  replace hf := (zgd_s hf).2
  refine zC.of (by decide) (Nat.le_of_ble_eq_true rfl) (fun K hin => ?_)
  clear hin
  show zz K cX11_valley (4, RX11, some .int, 2, 0, 0, some (.int r), μ) 0 0 0 [(0, .ref x0), (1, .int x1), (2, .int x2)] [] μ
  refine zr_aload_n 0 dX11_valley_0 rfl ?_
  refine zr_iload_n 1 dX11_valley_1 rfl ?_
  replace hf := zb1_s hf
  obtain ⟨v2, h1, hf⟩ := hf
  refine zr_callV (ci := 11) [.int x1] (cX11_valleyAt_ok h1) zvs_X11_valleyAt zl_684 zl_685 (fX11_valleyAt_ck h1) rfl rfl zl_683 rfl (Nat.le_of_ble_eq_true rfl) (Nat.le_of_ble_eq_true rfl) (Nat.le_of_ble_eq_true rfl) (Nat.le_of_ble_eq_true rfl) dX11_valley_2 rfl ?_
  refine zr_ostore_n [(3, va_rf v2), (0, .ref x0), (1, .int x1), (2, .int x2)] dX11_valley_5 (Nat.le_of_ble_eq_true rfl) rfl ?_
  refine zr_oload_n 0 dX11_valley_6 rfl ?_
  replace hf := zb1_s hf
  obtain ⟨s3, hg, hf⟩ := hf
  have hj4 : zz K cX11_valley (4, RX11, some .int, 2, 0, 0, some (.int r), μ) 0 0 19 [] [.int s3] μ := by
    cases hf
    exact zr_iret dX11_valley_19
  clear hf
  have hf := hg
  clear hg
  cases v2 with
  | none =>
    replace hf := zmo_n hf
    refine zr_ifnonnull_n dX11_valley_7 ?_
    refine zr_iconst (-1) dX11_valley_10 (by decide) ?_
    refine zr_goto 19 dX11_valley_11 (by decide) ?_
    cases hf
    exact zr_lv [] rfl hj4
  | some a5 =>
    replace hf := zmo_s hf
    refine zr_ifnonnull_r 14 dX11_valley_7 (by decide) ?_
    refine zr_aload_n 0 dX11_valley_14 rfl ?_
    refine zr_iload_n 3 dX11_valley_15 rfl ?_
    replace hf := zb1_s hf
    obtain ⟨v7, h6, hf⟩ := hf
    refine zr_callV (ci := 9) [.int x2] (cX9_tell_ok h6) zvs_X9_tell zl_688 zl_689 (fX9_tell_ck h6) rfl rfl zl_687 rfl (Nat.le_of_ble_eq_true rfl) (Nat.le_of_ble_eq_true rfl) (Nat.le_of_ble_eq_true rfl) (Nat.le_of_ble_eq_true rfl) dX11_valley_16 rfl ?_
    cases hf
    exact zr_lv [] rfl hj4
theorem dX11_isLoud_0 : decode cX11_isLoud 0 = .ok (.iload_n 0, 1) := by decide +kernel
theorem dX11_isLoud_1 : decode cX11_isLoud 1 = .ok (.ifCond .lt 12, 3) := by decide +kernel
theorem dX11_isLoud_4 : decode cX11_isLoud 4 = .ok (.iload_n 0, 1) := by decide +kernel
theorem dX11_isLoud_5 : decode cX11_isLoud 5 = .ok (.iconst 2, 1) := by decide +kernel
theorem dX11_isLoud_6 : decode cX11_isLoud 6 = .ok (.if_icmp .gt 7, 3) := by decide +kernel
theorem dX11_isLoud_9 : decode cX11_isLoud 9 = .ok (.iconst 1, 1) := by decide +kernel
theorem dX11_isLoud_10 : decode cX11_isLoud 10 = .ok (.goto 4, 3) := by decide +kernel
theorem dX11_isLoud_13 : decode cX11_isLoud 13 = .ok (.iconst 0, 1) := by decide +kernel
theorem dX11_isLoud_14 : decode cX11_isLoud 14 = .ok (.ireturn, 1) := by decide +kernel
noncomputable def fX11_isLoud (μ : zM) (x0 : Int32) : Option (Int32) :=
  zb1 (if x0 < 0 then (
  some 0)
  else (
  if 2 < x0 then (
  some 0)
  else (
  some 1)) : Option (Int32)) fun (s1 : Int32) =>
  zb1 (zbz s1) fun v3 =>
  some v3
set_option maxHeartbeats 4000000 in
set_option maxRecDepth 100000 in
theorem cX11_isLoud_ok {μ : zM} {x0 : Int32} {r : Int32} (hf : fX11_isLoud μ x0 = some r) : zC yX11_isLoud cX11_isLoud 1 (some .boolean) 0 0 0 [.int x0] μ (some (.int r)) μ := by
  unfold fX11_isLoud at hf
  refine zC.of (by decide) (Nat.le_of_ble_eq_true rfl) (fun K hin => ?_)
  clear hin
  show zz K cX11_isLoud (1, RX11, some .boolean, 0, 0, 0, some (.int r), μ) 0 0 0 [(0, .int x0)] [] μ
  refine zr_iload_n 0 dX11_isLoud_0 rfl ?_
  replace hf := zb1_s hf
  obtain ⟨s1, hg, hf⟩ := hf
  have hj2 : zz K cX11_isLoud (1, RX11, some .boolean, 0, 0, 0, some (.int r), μ) 0 0 14 [] [.int s1] μ := by
    replace hf := zb1_s hf
    obtain ⟨v3, hn4, hf⟩ := hf
    replace hn4 := zbz_s hn4
    obtain ⟨hn4, rfl⟩ := hn4
    cases hf
    exact zr_zret hn4 dX11_isLoud_14
  clear hf
  have hf := hg
  clear hg
  refine zr_if_lt 13 dX11_isLoud_1 (by decide) (fun hc => ?_) (fun hc => ?_)
  · rw [if_pos hc] at hf
    refine zr_iconst 0 dX11_isLoud_13 (by decide) ?_
    cases hf
    exact zr_lv [] rfl hj2
  · rw [if_neg hc] at hf
    refine zr_iload_n 0 dX11_isLoud_4 rfl ?_
    refine zr_iconst 2 dX11_isLoud_5 (by decide) ?_
    refine zr_icmp_gt 13 dX11_isLoud_6 (by decide) (fun hc => ?_) (fun hc => ?_)
    · rw [if_pos hc] at hf
      refine zr_iconst 0 dX11_isLoud_13 (by decide) ?_
      cases hf
      exact zr_lv [] rfl hj2
    · rw [if_neg hc] at hf
      refine zr_iconst 1 dX11_isLoud_9 (by decide) ?_
      refine zr_goto 14 dX11_isLoud_10 (by decide) ?_
      cases hf
      exact zr_lv [] rfl hj2
theorem zl_690 : Cond.methodLink RX11 99 yX9_hasPlace ∈ zt := zt_at 794 (by decide +kernel)
theorem zl_691 : Cond.methodLink RX11 103 yX11_isWord ∈ zt := zt_at 795 (by decide +kernel)
theorem zl_692 : Cond.code yX11_isLoud cX11_isLoud 1 (some .boolean) ∈ zt := zt_at 798 (by decide +kernel)
theorem zvs_X11_isLoud : zvS yX11_isLoud cX11_isLoud 1 (some .boolean) 1 := ⟨zl_692, zl_118, ⟨by decide +kernel, by decide +kernel, by decide +kernel⟩, by decide⟩
theorem zl_693 : Cond.methodLink RX11 106 yX11_isLoud ∈ zt := zt_at 796 (by decide +kernel)
theorem zl_694 : Cond.static yX11_isLoud ∈ zt := zt_at 797 (by decide +kernel)
theorem zl_695 : Cond.methodLink RX11 109 yX11_isMinute ∈ zt := zt_at 799 (by decide +kernel)
theorem zl_696 : Cond.methodLink RX11 112 yX9_arrival ∈ zt := zt_at 802 (by decide +kernel)
theorem dX11_heard_0 : decode cX11_heard 0 = .ok (.aload_n 0, 1) := by decide +kernel
theorem dX11_heard_1 : decode cX11_heard 1 = .ok (.iload_n 1, 1) := by decide +kernel
theorem dX11_heard_2 : decode cX11_heard 2 = .ok (.invokevirtual 89, 3) := by decide +kernel
theorem dX11_heard_5 : decode cX11_heard 5 = .ok (.astore 8, 2) := by decide +kernel
theorem dX11_heard_7 : decode cX11_heard 7 = .ok (.aload 8, 2) := by decide +kernel
theorem dX11_heard_9 : decode cX11_heard 9 = .ok (.ifnull 27, 3) := by decide +kernel
theorem dX11_heard_12 : decode cX11_heard 12 = .ok (.aload 8, 2) := by decide +kernel
theorem dX11_heard_14 : decode cX11_heard 14 = .ok (.iload_n 2, 1) := by decide +kernel
theorem dX11_heard_15 : decode cX11_heard 15 = .ok (.invokevirtual 99, 3) := by decide +kernel
theorem dX11_heard_18 : decode cX11_heard 18 = .ok (.ifCond .eq 18, 3) := by decide +kernel
theorem dX11_heard_21 : decode cX11_heard 21 = .ok (.iload_n 3, 1) := by decide +kernel
theorem dX11_heard_22 : decode cX11_heard 22 = .ok (.invokestatic 103, 3) := by decide +kernel
theorem dX11_heard_25 : decode cX11_heard 25 = .ok (.ifCond .eq 11, 3) := by decide +kernel
theorem dX11_heard_28 : decode cX11_heard 28 = .ok (.iload 4, 2) := by decide +kernel
theorem dX11_heard_30 : decode cX11_heard 30 = .ok (.invokestatic 106, 3) := by decide +kernel
theorem dX11_heard_33 : decode cX11_heard 33 = .ok (.ifCond .ne 5, 3) := by decide +kernel
theorem dX11_heard_36 : decode cX11_heard 36 = .ok (.iconst (-1), 1) := by decide +kernel
theorem dX11_heard_37 : decode cX11_heard 37 = .ok (.ireturn, 1) := by decide +kernel
theorem dX11_heard_38 : decode cX11_heard 38 = .ok (.iload 5, 2) := by decide +kernel
theorem dX11_heard_40 : decode cX11_heard 40 = .ok (.invokestatic 109, 3) := by decide +kernel
theorem dX11_heard_43 : decode cX11_heard 43 = .ok (.ifCond .eq 24, 3) := by decide +kernel
theorem dX11_heard_46 : decode cX11_heard 46 = .ok (.aload 8, 2) := by decide +kernel
theorem dX11_heard_48 : decode cX11_heard 48 = .ok (.iload 6, 2) := by decide +kernel
theorem dX11_heard_50 : decode cX11_heard 50 = .ok (.invokevirtual 99, 3) := by decide +kernel
theorem dX11_heard_53 : decode cX11_heard 53 = .ok (.ifCond .eq 14, 3) := by decide +kernel
theorem dX11_heard_56 : decode cX11_heard 56 = .ok (.iload 7, 2) := by decide +kernel
theorem dX11_heard_58 : decode cX11_heard 58 = .ok (.ifCond .lt 9, 3) := by decide +kernel
theorem dX11_heard_61 : decode cX11_heard 61 = .ok (.iload 7, 2) := by decide +kernel
theorem dX11_heard_63 : decode cX11_heard 63 = .ok (.iconst 2, 1) := by decide +kernel
theorem dX11_heard_64 : decode cX11_heard 64 = .ok (.if_icmp .le 5, 3) := by decide +kernel
theorem dX11_heard_67 : decode cX11_heard 67 = .ok (.iconst (-1), 1) := by decide +kernel
theorem dX11_heard_68 : decode cX11_heard 68 = .ok (.ireturn, 1) := by decide +kernel
theorem dX11_heard_69 : decode cX11_heard 69 = .ok (.aload 8, 2) := by decide +kernel
theorem dX11_heard_71 : decode cX11_heard 71 = .ok (.iload_n 2, 1) := by decide +kernel
theorem dX11_heard_72 : decode cX11_heard 72 = .ok (.iload_n 3, 1) := by decide +kernel
theorem dX11_heard_73 : decode cX11_heard 73 = .ok (.iload 4, 2) := by decide +kernel
theorem dX11_heard_75 : decode cX11_heard 75 = .ok (.iload 5, 2) := by decide +kernel
theorem dX11_heard_77 : decode cX11_heard 77 = .ok (.iload 6, 2) := by decide +kernel
theorem dX11_heard_79 : decode cX11_heard 79 = .ok (.iload 7, 2) := by decide +kernel
theorem dX11_heard_81 : decode cX11_heard 81 = .ok (.invokevirtual 112, 3) := by decide +kernel
theorem dX11_heard_84 : decode cX11_heard 84 = .ok (.ireturn, 1) := by decide +kernel
noncomputable def fX11_heard (μ : zM) (x0 : Nat) (x1 : Int32) (x2 : Int32) (x3 : Int32) (x4 : Int32) (x5 : Int32) (x6 : Int32) (x7 : Int32) : Option (Int32) := zgd (zm_ck μ 11 x0) <|
  zb1 (fX11_valleyAt μ x0 x1) fun v2 =>
  zmo v2 (
  some (-1)) fun a3 =>
  zb1 (fX9_hasPlace μ a3 x2) fun v5 =>
  if v5 = 0 then (
  some (-1))
  else (
  zb1 (fX11_isWord μ x3) fun v7 =>
  if v7 = 0 then (
  some (-1))
  else (
  zb1 (fX11_isLoud μ x4) fun v9 =>
  if v9 = 0 then (
  some (-1))
  else (
  zb1 (fX11_isMinute μ x5) fun v11 =>
  if v11 = 0 then (
  some (-1))
  else (
  zb1 (fX9_hasPlace μ a3 x6) fun v13 =>
  if v13 = 0 then (
  some (-1))
  else (
  if x7 < 0 then (
  some (-1))
  else (
  if x7 ≤ 2 then (
  zb1 (fX9_arrival μ a3 x2 x3 x4 x5 x6 x7) fun v15 =>
  some v15)
  else (
  some (-1))))))))
theorem fX11_heard_ck {μ : zM} {x0 : Nat} {x1 : Int32} {x2 : Int32} {x3 : Int32} {x4 : Int32} {x5 : Int32} {x6 : Int32} {x7 : Int32} {z : Int32} (h : fX11_heard μ x0 x1 x2 x3 x4 x5 x6 x7 = some z) : zm_ck μ 11 x0 = true := (zgd_s h).1
set_option maxHeartbeats 4000000 in
set_option maxRecDepth 100000 in
theorem cX11_heard_ok {μ : zM} {x0 : Nat} {x1 : Int32} {x2 : Int32} {x3 : Int32} {x4 : Int32} {x5 : Int32} {x6 : Int32} {x7 : Int32} {r : Int32} (hf : fX11_heard μ x0 x1 x2 x3 x4 x5 x6 x7 = some r) : zC yX11_heard cX11_heard 9 (some .int) 3 0 0 [.ref x0, .int x1, .int x2, .int x3, .int x4, .int x5, .int x6, .int x7] μ (some (.int r)) μ := by
  replace hf := (zgd_s hf).2
  refine zC.of (by decide) (Nat.le_of_ble_eq_true rfl) (fun K hin => ?_)
  clear hin
  show zz K cX11_heard (9, RX11, some .int, 3, 0, 0, some (.int r), μ) 0 0 0 [(0, .ref x0), (1, .int x1), (2, .int x2), (3, .int x3), (4, .int x4), (5, .int x5), (6, .int x6), (7, .int x7)] [] μ
  refine zr_aload_n 0 dX11_heard_0 rfl ?_
  refine zr_iload_n 1 dX11_heard_1 rfl ?_
  replace hf := zb1_s hf
  obtain ⟨v2, h1, hf⟩ := hf
  refine zr_callV (ci := 11) [.int x1] (cX11_valleyAt_ok h1) zvs_X11_valleyAt zl_684 zl_685 (fX11_valleyAt_ck h1) rfl rfl zl_683 rfl (Nat.le_of_ble_eq_true rfl) (Nat.le_of_ble_eq_true rfl) (Nat.le_of_ble_eq_true rfl) (Nat.le_of_ble_eq_true rfl) dX11_heard_2 rfl ?_
  refine zr_ostore [(8, va_rf v2), (0, .ref x0), (1, .int x1), (2, .int x2), (3, .int x3), (4, .int x4), (5, .int x5), (6, .int x6), (7, .int x7)] dX11_heard_5 (Nat.le_of_ble_eq_true rfl) rfl ?_
  refine zr_oload 0 dX11_heard_7 rfl ?_
  cases v2 with
  | none =>
    replace hf := zmo_n hf
    refine zr_ifnull_n 36 dX11_heard_9 (by decide) ?_
    refine zr_iconst (-1) dX11_heard_36 (by decide) ?_
    cases hf
    exact zr_iret dX11_heard_37
  | some a3 =>
    replace hf := zmo_s hf
    refine zr_ifnull_r dX11_heard_9 ?_
    refine zr_aload 0 dX11_heard_12 rfl ?_
    refine zr_iload_n 3 dX11_heard_14 rfl ?_
    replace hf := zb1_s hf
    obtain ⟨v5, h4, hf⟩ := hf
    refine zr_callV (ci := 9) [.int x2] (cX9_hasPlace_ok h4) zvs_X9_hasPlace zl_106 zl_107 (fX9_hasPlace_ck h4) rfl rfl zl_690 rfl (Nat.le_of_ble_eq_true rfl) (Nat.le_of_ble_eq_true rfl) (Nat.le_of_ble_eq_true rfl) (Nat.le_of_ble_eq_true rfl) dX11_heard_15 rfl ?_
    refine zr_if_eq 36 dX11_heard_18 (by decide) (fun hc => ?_) (fun hc => ?_)
    · rw [if_pos hc] at hf
      refine zr_iconst (-1) dX11_heard_36 (by decide) ?_
      cases hf
      exact zr_iret dX11_heard_37
    · rw [if_neg hc] at hf
      refine zr_iload_n 4 dX11_heard_21 rfl ?_
      replace hf := zb1_s hf
      obtain ⟨v7, h6, hf⟩ := hf
      refine zr_callS [.int x3] (cX11_isWord_ok h6) zvs_X11_isWord zl_374 zl_691 rfl (Nat.le_of_ble_eq_true rfl) (Nat.le_of_ble_eq_true rfl) (Nat.le_of_ble_eq_true rfl) (Nat.le_of_ble_eq_true rfl) dX11_heard_22 rfl ?_
      refine zr_if_eq 36 dX11_heard_25 (by decide) (fun hc => ?_) (fun hc => ?_)
      · rw [if_pos hc] at hf
        refine zr_iconst (-1) dX11_heard_36 (by decide) ?_
        cases hf
        exact zr_iret dX11_heard_37
      · rw [if_neg hc] at hf
        refine zr_iload 5 dX11_heard_28 rfl ?_
        replace hf := zb1_s hf
        obtain ⟨v9, h8, hf⟩ := hf
        refine zr_callS [.int x4] (cX11_isLoud_ok h8) zvs_X11_isLoud zl_694 zl_693 rfl (Nat.le_of_ble_eq_true rfl) (Nat.le_of_ble_eq_true rfl) (Nat.le_of_ble_eq_true rfl) (Nat.le_of_ble_eq_true rfl) dX11_heard_30 rfl ?_
        refine zr_if_ne 38 dX11_heard_33 (by decide) (fun hc => ?_) (fun hc => ?_)
        · rw [if_neg hc] at hf
          refine zr_iload 6 dX11_heard_38 rfl ?_
          replace hf := zb1_s hf
          obtain ⟨v11, h10, hf⟩ := hf
          refine zr_callS [.int x5] (cX11_isMinute_ok h10) zvs_X11_isMinute zl_120 zl_695 rfl (Nat.le_of_ble_eq_true rfl) (Nat.le_of_ble_eq_true rfl) (Nat.le_of_ble_eq_true rfl) (Nat.le_of_ble_eq_true rfl) dX11_heard_40 rfl ?_
          refine zr_if_eq 67 dX11_heard_43 (by decide) (fun hc => ?_) (fun hc => ?_)
          · rw [if_pos hc] at hf
            refine zr_iconst (-1) dX11_heard_67 (by decide) ?_
            cases hf
            exact zr_iret dX11_heard_68
          · rw [if_neg hc] at hf
            refine zr_aload 0 dX11_heard_46 rfl ?_
            refine zr_iload 7 dX11_heard_48 rfl ?_
            replace hf := zb1_s hf
            obtain ⟨v13, h12, hf⟩ := hf
            refine zr_callV (ci := 9) [.int x6] (cX9_hasPlace_ok h12) zvs_X9_hasPlace zl_106 zl_107 (fX9_hasPlace_ck h12) rfl rfl zl_690 rfl (Nat.le_of_ble_eq_true rfl) (Nat.le_of_ble_eq_true rfl) (Nat.le_of_ble_eq_true rfl) (Nat.le_of_ble_eq_true rfl) dX11_heard_50 rfl ?_
            refine zr_if_eq 67 dX11_heard_53 (by decide) (fun hc => ?_) (fun hc => ?_)
            · rw [if_pos hc] at hf
              refine zr_iconst (-1) dX11_heard_67 (by decide) ?_
              cases hf
              exact zr_iret dX11_heard_68
            · rw [if_neg hc] at hf
              refine zr_iload 8 dX11_heard_56 rfl ?_
              refine zr_if_lt 67 dX11_heard_58 (by decide) (fun hc => ?_) (fun hc => ?_)
              · rw [if_pos hc] at hf
                refine zr_iconst (-1) dX11_heard_67 (by decide) ?_
                cases hf
                exact zr_iret dX11_heard_68
              · rw [if_neg hc] at hf
                refine zr_iload 8 dX11_heard_61 rfl ?_
                refine zr_iconst 2 dX11_heard_63 (by decide) ?_
                refine zr_icmp_le 69 dX11_heard_64 (by decide) (fun hc => ?_) (fun hc => ?_)
                · rw [if_pos hc] at hf
                  refine zr_aload 0 dX11_heard_69 rfl ?_
                  refine zr_iload_n 3 dX11_heard_71 rfl ?_
                  refine zr_iload_n 4 dX11_heard_72 rfl ?_
                  refine zr_iload 5 dX11_heard_73 rfl ?_
                  refine zr_iload 6 dX11_heard_75 rfl ?_
                  refine zr_iload 7 dX11_heard_77 rfl ?_
                  refine zr_iload 8 dX11_heard_79 rfl ?_
                  replace hf := zb1_s hf
                  obtain ⟨v15, h14, hf⟩ := hf
                  refine zr_callV (ci := 9) [.int x2, .int x3, .int x4, .int x5, .int x6, .int x7] (cX9_arrival_ok h14) zvs_X9_arrival zl_124 zl_125 (fX9_arrival_ck h14) rfl rfl zl_696 rfl (Nat.le_of_ble_eq_true rfl) (Nat.le_of_ble_eq_true rfl) (Nat.le_of_ble_eq_true rfl) (Nat.le_of_ble_eq_true rfl) dX11_heard_81 rfl ?_
                  cases hf
                  exact zr_iret dX11_heard_84
                · rw [if_neg hc] at hf
                  refine zr_iconst (-1) dX11_heard_67 (by decide) ?_
                  cases hf
                  exact zr_iret dX11_heard_68
        · rw [if_pos hc] at hf
          refine zr_iconst (-1) dX11_heard_36 (by decide) ?_
          cases hf
          exact zr_iret dX11_heard_37
theorem zl_697 : Cond.methodLink RX11 116 yX9_wordBy ∈ zt := zt_at 827 (by decide +kernel)
theorem dX11_gives_0 : decode cX11_gives 0 = .ok (.aload_n 0, 1) := by decide +kernel
theorem dX11_gives_1 : decode cX11_gives 1 = .ok (.iload_n 1, 1) := by decide +kernel
theorem dX11_gives_2 : decode cX11_gives 2 = .ok (.invokevirtual 89, 3) := by decide +kernel
theorem dX11_gives_5 : decode cX11_gives 5 = .ok (.astore 5, 2) := by decide +kernel
theorem dX11_gives_7 : decode cX11_gives 7 = .ok (.aload 5, 2) := by decide +kernel
theorem dX11_gives_9 : decode cX11_gives 9 = .ok (.ifnull 17, 3) := by decide +kernel
theorem dX11_gives_12 : decode cX11_gives 12 = .ok (.iload_n 2, 1) := by decide +kernel
theorem dX11_gives_13 : decode cX11_gives 13 = .ok (.invokestatic 103, 3) := by decide +kernel
theorem dX11_gives_16 : decode cX11_gives 16 = .ok (.ifCond .eq 10, 3) := by decide +kernel
theorem dX11_gives_19 : decode cX11_gives 19 = .ok (.iload_n 3, 1) := by decide +kernel
theorem dX11_gives_20 : decode cX11_gives 20 = .ok (.invokestatic 109, 3) := by decide +kernel
theorem dX11_gives_23 : decode cX11_gives 23 = .ok (.ifCond .ne 5, 3) := by decide +kernel
theorem dX11_gives_26 : decode cX11_gives 26 = .ok (.iconst (-1), 1) := by decide +kernel
theorem dX11_gives_27 : decode cX11_gives 27 = .ok (.ireturn, 1) := by decide +kernel
theorem dX11_gives_28 : decode cX11_gives 28 = .ok (.iload 4, 2) := by decide +kernel
theorem dX11_gives_30 : decode cX11_gives 30 = .ok (.iconst 1, 1) := by decide +kernel
theorem dX11_gives_31 : decode cX11_gives 31 = .ok (.if_icmp .eq 9, 3) := by decide +kernel
theorem dX11_gives_34 : decode cX11_gives 34 = .ok (.iload 4, 2) := by decide +kernel
theorem dX11_gives_36 : decode cX11_gives 36 = .ok (.iconst 2, 1) := by decide +kernel
theorem dX11_gives_37 : decode cX11_gives 37 = .ok (.if_icmp .ne 15, 3) := by decide +kernel
theorem dX11_gives_40 : decode cX11_gives 40 = .ok (.aload 5, 2) := by decide +kernel
theorem dX11_gives_42 : decode cX11_gives 42 = .ok (.iload_n 2, 1) := by decide +kernel
theorem dX11_gives_43 : decode cX11_gives 43 = .ok (.iload_n 3, 1) := by decide +kernel
theorem dX11_gives_44 : decode cX11_gives 44 = .ok (.iload 4, 2) := by decide +kernel
theorem dX11_gives_46 : decode cX11_gives 46 = .ok (.invokevirtual 116, 3) := by decide +kernel
theorem dX11_gives_49 : decode cX11_gives 49 = .ok (.goto 4, 3) := by decide +kernel
theorem dX11_gives_52 : decode cX11_gives 52 = .ok (.iconst (-1), 1) := by decide +kernel
theorem dX11_gives_53 : decode cX11_gives 53 = .ok (.ireturn, 1) := by decide +kernel
noncomputable def fX11_gives_b40 (μ : zM) (a3 : Nat) (x2 : Int32) (x3 : Int32) (x4 : Int32) : Option (Int32) :=
  zb1 (fX9_wordBy μ a3 x2 x3 x4) fun v11 =>
  some v11
noncomputable def fX11_gives (μ : zM) (x0 : Nat) (x1 : Int32) (x2 : Int32) (x3 : Int32) (x4 : Int32) : Option (Int32) := zgd (zm_ck μ 11 x0) <|
  zb1 (fX11_valleyAt μ x0 x1) fun v2 =>
  zmo v2 (
  some (-1)) fun a3 =>
  zb1 (fX11_isWord μ x2) fun v5 =>
  if v5 = 0 then (
  some (-1))
  else (
  zb1 (fX11_isMinute μ x3) fun v7 =>
  if v7 = 0 then (
  some (-1))
  else (
  zb1 (if x4 = 1 then (
  fX11_gives_b40 μ a3 x2 x3 x4)
  else (
  if x4 = 2 then (
  fX11_gives_b40 μ a3 x2 x3 x4)
  else (
  some (-1))) : Option (Int32)) fun (s8 : Int32) =>
  some s8))
theorem fX11_gives_ck {μ : zM} {x0 : Nat} {x1 : Int32} {x2 : Int32} {x3 : Int32} {x4 : Int32} {z : Int32} (h : fX11_gives μ x0 x1 x2 x3 x4 = some z) : zm_ck μ 11 x0 = true := (zgd_s h).1
set_option maxHeartbeats 4000000 in
set_option maxRecDepth 100000 in
theorem cX11_gives_ok {μ : zM} {x0 : Nat} {x1 : Int32} {x2 : Int32} {x3 : Int32} {x4 : Int32} {r : Int32} (hf : fX11_gives μ x0 x1 x2 x3 x4 = some r) : zC yX11_gives cX11_gives 6 (some .int) 2 0 0 [.ref x0, .int x1, .int x2, .int x3, .int x4] μ (some (.int r)) μ := by
  replace hf := (zgd_s hf).2
  refine zC.of (by decide) (Nat.le_of_ble_eq_true rfl) (fun K hin => ?_)
  clear hin
  show zz K cX11_gives (6, RX11, some .int, 2, 0, 0, some (.int r), μ) 0 0 0 [(0, .ref x0), (1, .int x1), (2, .int x2), (3, .int x3), (4, .int x4)] [] μ
  refine zr_aload_n 0 dX11_gives_0 rfl ?_
  refine zr_iload_n 1 dX11_gives_1 rfl ?_
  replace hf := zb1_s hf
  obtain ⟨v2, h1, hf⟩ := hf
  refine zr_callV (ci := 11) [.int x1] (cX11_valleyAt_ok h1) zvs_X11_valleyAt zl_684 zl_685 (fX11_valleyAt_ck h1) rfl rfl zl_683 rfl (Nat.le_of_ble_eq_true rfl) (Nat.le_of_ble_eq_true rfl) (Nat.le_of_ble_eq_true rfl) (Nat.le_of_ble_eq_true rfl) dX11_gives_2 rfl ?_
  refine zr_ostore [(5, va_rf v2), (0, .ref x0), (1, .int x1), (2, .int x2), (3, .int x3), (4, .int x4)] dX11_gives_5 (Nat.le_of_ble_eq_true rfl) rfl ?_
  refine zr_oload 0 dX11_gives_7 rfl ?_
  cases v2 with
  | none =>
    replace hf := zmo_n hf
    refine zr_ifnull_n 26 dX11_gives_9 (by decide) ?_
    refine zr_iconst (-1) dX11_gives_26 (by decide) ?_
    cases hf
    exact zr_iret dX11_gives_27
  | some a3 =>
    replace hf := zmo_s hf
    refine zr_ifnull_r dX11_gives_9 ?_
    refine zr_iload_n 3 dX11_gives_12 rfl ?_
    replace hf := zb1_s hf
    obtain ⟨v5, h4, hf⟩ := hf
    refine zr_callS [.int x2] (cX11_isWord_ok h4) zvs_X11_isWord zl_374 zl_691 rfl (Nat.le_of_ble_eq_true rfl) (Nat.le_of_ble_eq_true rfl) (Nat.le_of_ble_eq_true rfl) (Nat.le_of_ble_eq_true rfl) dX11_gives_13 rfl ?_
    refine zr_if_eq 26 dX11_gives_16 (by decide) (fun hc => ?_) (fun hc => ?_)
    · rw [if_pos hc] at hf
      refine zr_iconst (-1) dX11_gives_26 (by decide) ?_
      cases hf
      exact zr_iret dX11_gives_27
    · rw [if_neg hc] at hf
      refine zr_iload_n 4 dX11_gives_19 rfl ?_
      replace hf := zb1_s hf
      obtain ⟨v7, h6, hf⟩ := hf
      refine zr_callS [.int x3] (cX11_isMinute_ok h6) zvs_X11_isMinute zl_120 zl_695 rfl (Nat.le_of_ble_eq_true rfl) (Nat.le_of_ble_eq_true rfl) (Nat.le_of_ble_eq_true rfl) (Nat.le_of_ble_eq_true rfl) dX11_gives_20 rfl ?_
      refine zr_if_ne 28 dX11_gives_23 (by decide) (fun hc => ?_) (fun hc => ?_)
      · rw [if_neg hc] at hf
        refine zr_iload 5 dX11_gives_28 rfl ?_
        refine zr_iconst 1 dX11_gives_30 (by decide) ?_
        replace hf := zb1_s hf
        obtain ⟨s8, hg, hf⟩ := hf
        have hj9 : zz K cX11_gives (6, RX11, some .int, 2, 0, 0, some (.int r), μ) 0 0 53 [] [.int s8] μ := by
          cases hf
          exact zr_iret dX11_gives_53
        clear hf
        have hf := hg
        clear hg
        have hb12 : ∀ (_ : Unit), fX11_gives_b40 μ a3 x2 x3 x4 = some s8 → zz K cX11_gives (6, RX11, some .int, 2, 0, 0, some (.int r), μ) 0 0 40 [(2, .int x2), (3, .int x3), (4, .int x4), (5, .ref a3)] [] μ := by
          intro _ hf
          unfold fX11_gives_b40 at hf
          refine zr_aload 3 dX11_gives_40 rfl ?_
          refine zr_iload_n 0 dX11_gives_42 rfl ?_
          refine zr_iload_n 1 dX11_gives_43 rfl ?_
          refine zr_iload 2 dX11_gives_44 rfl ?_
          replace hf := zb1_s hf
          obtain ⟨v11, h10, hf⟩ := hf
          refine zr_callV (ci := 9) [.int x2, .int x3, .int x4] (cX9_wordBy_ok h10) zvs_X9_wordBy zl_128 zl_129 (fX9_wordBy_ck h10) rfl rfl zl_697 rfl (Nat.le_of_ble_eq_true rfl) (Nat.le_of_ble_eq_true rfl) (Nat.le_of_ble_eq_true rfl) (Nat.le_of_ble_eq_true rfl) dX11_gives_46 rfl ?_
          refine zr_goto 53 dX11_gives_49 (by decide) ?_
          cases hf
          exact zr_lv [] rfl hj9
        refine zr_icmp_eq 40 dX11_gives_31 (by decide) (fun hc => ?_) (fun hc => ?_)
        · rw [if_pos hc] at hf
          exact zr_lv [3, 4, 5, 0] rfl (hb12 () hf)
        · rw [if_neg hc] at hf
          refine zr_iload 5 dX11_gives_34 rfl ?_
          refine zr_iconst 2 dX11_gives_36 (by decide) ?_
          refine zr_icmp_ne 52 dX11_gives_37 (by decide) (fun hc => ?_) (fun hc => ?_)
          · rw [if_neg hc] at hf
            refine zr_iconst (-1) dX11_gives_52 (by decide) ?_
            cases hf
            exact zr_lv [] rfl hj9
          · rw [if_pos hc] at hf
            exact zr_lv [3, 4, 5, 0] rfl (hb12 () hf)
      · rw [if_pos hc] at hf
        refine zr_iconst (-1) dX11_gives_26 (by decide) ?_
        cases hf
        exact zr_iret dX11_gives_27
theorem zl_698 : Cond.fieldLink RX11 329 "TwoEchoes$Told" "days" "[LTwoEchoes$Day;" ∈ zt := zt_at 328 (by decide +kernel)
theorem dX11_dayAt_0 : decode cX11_dayAt 0 = .ok (.iload_n 1, 1) := by decide +kernel
theorem dX11_dayAt_1 : decode cX11_dayAt 1 = .ok (.ifCond .lt 16, 3) := by decide +kernel
theorem dX11_dayAt_4 : decode cX11_dayAt 4 = .ok (.iload_n 1, 1) := by decide +kernel
theorem dX11_dayAt_5 : decode cX11_dayAt 5 = .ok (.aload_n 0, 1) := by decide +kernel
theorem dX11_dayAt_6 : decode cX11_dayAt 6 = .ok (.getfield 10, 3) := by decide +kernel
theorem dX11_dayAt_9 : decode cX11_dayAt 9 = .ok (.getfield 318, 3) := by decide +kernel
theorem dX11_dayAt_12 : decode cX11_dayAt 12 = .ok (.iconst 1, 1) := by decide +kernel
theorem dX11_dayAt_13 : decode cX11_dayAt 13 = .ok (.iaload, 1) := by decide +kernel
theorem dX11_dayAt_14 : decode cX11_dayAt 14 = .ok (.if_icmp .lt 7, 3) := by decide +kernel
theorem dX11_dayAt_17 : decode cX11_dayAt 17 = .ok (.aconst_null, 1) := by decide +kernel
theorem dX11_dayAt_18 : decode cX11_dayAt 18 = .ok (.goto 12, 3) := by decide +kernel
theorem dX11_dayAt_21 : decode cX11_dayAt 21 = .ok (.aload_n 0, 1) := by decide +kernel
theorem dX11_dayAt_22 : decode cX11_dayAt 22 = .ok (.getfield 10, 3) := by decide +kernel
theorem dX11_dayAt_25 : decode cX11_dayAt 25 = .ok (.getfield 329, 3) := by decide +kernel
theorem dX11_dayAt_28 : decode cX11_dayAt 28 = .ok (.iload_n 1, 1) := by decide +kernel
theorem dX11_dayAt_29 : decode cX11_dayAt 29 = .ok (.aaload, 1) := by decide +kernel
theorem dX11_dayAt_30 : decode cX11_dayAt 30 = .ok (.areturn, 1) := by decide +kernel
noncomputable def fX11_dayAt (μ : zM) (x0 : Nat) (x1 : Int32) : Option (Option Nat) := zgd (zm_ck μ 11 x0) <|
  zb1 (if x1 < 0 then (
  some none)
  else (
  zb1 (zm_gR μ 11 x0 0) fun v3 =>
  zb1 (zm_gR μ 7 v3 4) fun v5 =>
  zb1 (zm_aI μ 0 v5 1) fun v7 =>
  if x1 < v7 then (
  zb1 (zm_gR μ 11 x0 0) fun v9 =>
  zb1 (zm_gR μ 7 v9 6) fun v11 =>
  zb1 (zm_aQ μ 5 v11 x1) fun v13 =>
  some v13)
  else (
  some none)) : Option ((Option Nat))) fun (s1 : Option Nat) =>
  some s1
theorem fX11_dayAt_ck {μ : zM} {x0 : Nat} {x1 : Int32} {z : Option Nat} (h : fX11_dayAt μ x0 x1 = some z) : zm_ck μ 11 x0 = true := (zgd_s h).1
set_option maxHeartbeats 4000000 in
set_option maxRecDepth 100000 in
theorem cX11_dayAt_ok {μ : zM} {x0 : Nat} {x1 : Int32} {r : Option Nat} (hf : fX11_dayAt μ x0 x1 = some r) : zC yX11_dayAt cX11_dayAt 2 (some (.object "TwoEchoes$Day")) 0 0 0 [.ref x0, .int x1] μ (some (va_rf r)) μ := by
  replace hf := (zgd_s hf).2
  refine zC.of (by decide) (Nat.le_of_ble_eq_true rfl) (fun K hin => ?_)
  clear hin
  show zz K cX11_dayAt (2, RX11, some (.object "TwoEchoes$Day"), 0, 0, 0, some (va_rf r), μ) 0 0 0 [(0, .ref x0), (1, .int x1)] [] μ
  refine zr_iload_n 1 dX11_dayAt_0 rfl ?_
  replace hf := zb1_s hf
  obtain ⟨s1, hg, hf⟩ := hf
  have hj2 : zz K cX11_dayAt (2, RX11, some (.object "TwoEchoes$Day"), 0, 0, 0, some (va_rf r), μ) 0 0 30 [] [va_rf s1] μ := by
    cases hf
    exact zr_aret dX11_dayAt_30
  clear hf
  have hf := hg
  clear hg
  refine zr_if_lt 17 dX11_dayAt_1 (by decide) (fun hc => ?_) (fun hc => ?_)
  · rw [if_pos hc] at hf
    refine zr_null dX11_dayAt_17 ?_
    refine zr_goto 30 dX11_dayAt_18 (by decide) ?_
    cases hf
    exact zr_lv [] rfl hj2
  · rw [if_neg hc] at hf
    refine zr_iload_n 1 dX11_dayAt_4 rfl ?_
    refine zr_aload_n 0 dX11_dayAt_5 rfl ?_
    replace hf := zb1_s hf
    obtain ⟨v3, h4, hf⟩ := hf
    refine zr_get (zm_gR_g h4) zk11 (by decide) zl_626 dX11_dayAt_6 ?_
    replace hf := zb1_s hf
    obtain ⟨v5, h6, hf⟩ := hf
    refine zr_get (zm_gR_g h6) zk7 (by decide) zl_680 dX11_dayAt_9 ?_
    refine zr_iconst 1 dX11_dayAt_12 (by decide) ?_
    replace hf := zb1_s hf
    obtain ⟨v7, h8, hf⟩ := hf
    refine zr_iald h8 dX11_dayAt_13 ?_
    refine zr_icmp_lt 21 dX11_dayAt_14 (by decide) (fun hc => ?_) (fun hc => ?_)
    · rw [if_pos hc] at hf
      refine zr_aload_n 0 dX11_dayAt_21 rfl ?_
      replace hf := zb1_s hf
      obtain ⟨v9, h10, hf⟩ := hf
      refine zr_get (zm_gR_g h10) zk11 (by decide) zl_626 dX11_dayAt_22 ?_
      replace hf := zb1_s hf
      obtain ⟨v11, h12, hf⟩ := hf
      refine zr_get (zm_gR_g h12) zk7 (by decide) zl_698 dX11_dayAt_25 ?_
      refine zr_iload_n 1 dX11_dayAt_28 rfl ?_
      replace hf := zb1_s hf
      obtain ⟨v13, h14, hf⟩ := hf
      refine zr_aald h14 (by decide) rfl dX11_dayAt_29 ?_
      cases hf
      exact zr_lv [] rfl hj2
    · rw [if_neg hc] at hf
      refine zr_null dX11_dayAt_17 ?_
      refine zr_goto 30 dX11_dayAt_18 (by decide) ?_
      cases hf
      exact zr_lv [] rfl hj2
theorem zl_699 : Cond.code yX11_dayAt cX11_dayAt 2 (some (.object "TwoEchoes$Day")) ∈ zt := zt_at 838 (by decide +kernel)
theorem zvs_X11_dayAt : zvS yX11_dayAt cX11_dayAt 2 (some (.object "TwoEchoes$Day")) 1 := ⟨zl_699, zl_118, ⟨by decide +kernel, by decide +kernel, by decide +kernel⟩, by decide⟩
theorem zl_700 : Cond.methodLink RX11 120 yX11_dayAt ∈ zt := zt_at 835 (by decide +kernel)
theorem zl_701 : Cond.instanceMethod yX11_dayAt ∈ zt := zt_at 837 (by decide +kernel)
theorem zl_702 : Cond.selects RX11 yX11_dayAt yX11_dayAt ∈ zt := zt_at 19 (by decide +kernel)
theorem zl_703 : Cond.code yX2_tell cX2_tell 3 (some .int) ∈ zt := zt_at 842 (by decide +kernel)
theorem zvs_X2_tell : zvS yX2_tell cX2_tell 3 (some .int) 2 := ⟨zl_703, zl_249, ⟨by decide +kernel, by decide +kernel, by decide +kernel⟩, by decide⟩
theorem zl_704 : Cond.methodLink RX11 124 yX2_tell ∈ zt := zt_at 839 (by decide +kernel)
theorem zl_705 : Cond.instanceMethod yX2_tell ∈ zt := zt_at 840 (by decide +kernel)
theorem zl_706 : Cond.selects RX2 yX2_tell yX2_tell ∈ zt := zt_at 841 (by decide +kernel)
theorem dX11_deed_0 : decode cX11_deed 0 = .ok (.aload_n 0, 1) := by decide +kernel
theorem dX11_deed_1 : decode cX11_deed 1 = .ok (.iload_n 1, 1) := by decide +kernel
theorem dX11_deed_2 : decode cX11_deed 2 = .ok (.invokevirtual 120, 3) := by decide +kernel
theorem dX11_deed_5 : decode cX11_deed 5 = .ok (.astore 4, 2) := by decide +kernel
theorem dX11_deed_7 : decode cX11_deed 7 = .ok (.aload 4, 2) := by decide +kernel
theorem dX11_deed_9 : decode cX11_deed 9 = .ok (.ifnonnull 8, 3) := by decide +kernel
theorem dX11_deed_12 : decode cX11_deed 12 = .ok (.bipush (-2), 2) := by decide +kernel
theorem dX11_deed_14 : decode cX11_deed 14 = .ok (.goto 10, 3) := by decide +kernel
theorem dX11_deed_17 : decode cX11_deed 17 = .ok (.aload 4, 2) := by decide +kernel
theorem dX11_deed_19 : decode cX11_deed 19 = .ok (.iload_n 2, 1) := by decide +kernel
theorem dX11_deed_20 : decode cX11_deed 20 = .ok (.iload_n 3, 1) := by decide +kernel
theorem dX11_deed_21 : decode cX11_deed 21 = .ok (.invokevirtual 124, 3) := by decide +kernel
theorem dX11_deed_24 : decode cX11_deed 24 = .ok (.ireturn, 1) := by decide +kernel
noncomputable def fX11_deed (μ : zM) (x0 : Nat) (x1 : Int32) (x2 : Int32) (x3 : Int32) : Option (Int32) := zgd (zm_ck μ 11 x0) <|
  zb1 (fX11_dayAt μ x0 x1) fun v2 =>
  zb1 (zmo v2 (
  some (-2)) fun a5 =>
  zb1 (fX2_tell μ a5 x2 x3) fun v7 =>
  some v7 : Option (Int32)) fun (s3 : Int32) =>
  some s3
theorem fX11_deed_ck {μ : zM} {x0 : Nat} {x1 : Int32} {x2 : Int32} {x3 : Int32} {z : Int32} (h : fX11_deed μ x0 x1 x2 x3 = some z) : zm_ck μ 11 x0 = true := (zgd_s h).1
set_option maxHeartbeats 4000000 in
set_option maxRecDepth 100000 in
theorem cX11_deed_ok {μ : zM} {x0 : Nat} {x1 : Int32} {x2 : Int32} {x3 : Int32} {r : Int32} (hf : fX11_deed μ x0 x1 x2 x3 = some r) : zC yX11_deed cX11_deed 5 (some .int) 1 0 0 [.ref x0, .int x1, .int x2, .int x3] μ (some (.int r)) μ := by
  replace hf := (zgd_s hf).2
  refine zC.of (by decide) (Nat.le_of_ble_eq_true rfl) (fun K hin => ?_)
  clear hin
  show zz K cX11_deed (5, RX11, some .int, 1, 0, 0, some (.int r), μ) 0 0 0 [(0, .ref x0), (1, .int x1), (2, .int x2), (3, .int x3)] [] μ
  refine zr_aload_n 0 dX11_deed_0 rfl ?_
  refine zr_iload_n 1 dX11_deed_1 rfl ?_
  replace hf := zb1_s hf
  obtain ⟨v2, h1, hf⟩ := hf
  refine zr_callV (ci := 11) [.int x1] (cX11_dayAt_ok h1) zvs_X11_dayAt zl_701 zl_702 (fX11_dayAt_ck h1) rfl rfl zl_700 rfl (Nat.le_of_ble_eq_true rfl) (Nat.le_of_ble_eq_true rfl) (Nat.le_of_ble_eq_true rfl) (Nat.le_of_ble_eq_true rfl) dX11_deed_2 rfl ?_
  refine zr_ostore [(4, va_rf v2), (0, .ref x0), (1, .int x1), (2, .int x2), (3, .int x3)] dX11_deed_5 (Nat.le_of_ble_eq_true rfl) rfl ?_
  refine zr_oload 0 dX11_deed_7 rfl ?_
  replace hf := zb1_s hf
  obtain ⟨s3, hg, hf⟩ := hf
  have hj4 : zz K cX11_deed (5, RX11, some .int, 1, 0, 0, some (.int r), μ) 0 0 24 [] [.int s3] μ := by
    cases hf
    exact zr_iret dX11_deed_24
  clear hf
  have hf := hg
  clear hg
  cases v2 with
  | none =>
    replace hf := zmo_n hf
    refine zr_ifnonnull_n dX11_deed_9 ?_
    refine zr_bipush (-2) dX11_deed_12 (by decide) ?_
    refine zr_goto 24 dX11_deed_14 (by decide) ?_
    cases hf
    exact zr_lv [] rfl hj4
  | some a5 =>
    replace hf := zmo_s hf
    refine zr_ifnonnull_r 17 dX11_deed_9 (by decide) ?_
    refine zr_aload 0 dX11_deed_17 rfl ?_
    refine zr_iload_n 3 dX11_deed_19 rfl ?_
    refine zr_iload_n 4 dX11_deed_20 rfl ?_
    replace hf := zb1_s hf
    obtain ⟨v7, h6, hf⟩ := hf
    refine zr_callV (ci := 2) [.int x2, .int x3] (cX2_tell_ok h6) zvs_X2_tell zl_705 zl_706 (fX2_tell_ck h6) rfl rfl zl_704 rfl (Nat.le_of_ble_eq_true rfl) (Nat.le_of_ble_eq_true rfl) (Nat.le_of_ble_eq_true rfl) (Nat.le_of_ble_eq_true rfl) dX11_deed_21 rfl ?_
    cases hf
    exact zr_lv [] rfl hj4
theorem zl_707 : Cond.fieldLink RX11 128 "TwoEchoes$Day" "deeds" "I" ∈ zt := zt_at 248 (by decide +kernel)
theorem zl_708 : Cond.code yX1_follow cX1_follow 5 (some .int) ∈ zt := zt_at 850 (by decide +kernel)
theorem zvs_X1_follow : zvS yX1_follow cX1_follow 5 (some .int) 3 := ⟨zl_708, zl_110, ⟨by decide +kernel, by decide +kernel, by decide +kernel⟩, by decide⟩
theorem zl_709 : Cond.methodLink RX11 131 yX1_follow ∈ zt := zt_at 847 (by decide +kernel)
theorem zl_710 : Cond.instanceMethod yX1_follow ∈ zt := zt_at 848 (by decide +kernel)
theorem zl_711 : Cond.selects RX1 yX1_follow yX1_follow ∈ zt := zt_at 849 (by decide +kernel)
theorem dX11_stop_0 : decode cX11_stop 0 = .ok (.aload_n 0, 1) := by decide +kernel
theorem dX11_stop_1 : decode cX11_stop 1 = .ok (.iload_n 1, 1) := by decide +kernel
theorem dX11_stop_2 : decode cX11_stop 2 = .ok (.invokevirtual 89, 3) := by decide +kernel
theorem dX11_stop_5 : decode cX11_stop 5 = .ok (.astore_n 3, 1) := by decide +kernel
theorem dX11_stop_6 : decode cX11_stop 6 = .ok (.aload_n 0, 1) := by decide +kernel
theorem dX11_stop_7 : decode cX11_stop 7 = .ok (.iload_n 2, 1) := by decide +kernel
theorem dX11_stop_8 : decode cX11_stop 8 = .ok (.invokevirtual 120, 3) := by decide +kernel
theorem dX11_stop_11 : decode cX11_stop 11 = .ok (.astore 4, 2) := by decide +kernel
theorem dX11_stop_13 : decode cX11_stop 13 = .ok (.aload_n 3, 1) := by decide +kernel
theorem dX11_stop_14 : decode cX11_stop 14 = .ok (.ifnull 8, 3) := by decide +kernel
theorem dX11_stop_17 : decode cX11_stop 17 = .ok (.aload 4, 2) := by decide +kernel
theorem dX11_stop_19 : decode cX11_stop 19 = .ok (.ifnonnull 5, 3) := by decide +kernel
theorem dX11_stop_22 : decode cX11_stop 22 = .ok (.iconst (-1), 1) := by decide +kernel
theorem dX11_stop_23 : decode cX11_stop 23 = .ok (.ireturn, 1) := by decide +kernel
theorem dX11_stop_24 : decode cX11_stop 24 = .ok (.aload_n 0, 1) := by decide +kernel
theorem dX11_stop_25 : decode cX11_stop 25 = .ok (.getfield 36, 3) := by decide +kernel
theorem dX11_stop_28 : decode cX11_stop 28 = .ok (.aload_n 3, 1) := by decide +kernel
theorem dX11_stop_29 : decode cX11_stop 29 = .ok (.aload 4, 2) := by decide +kernel
theorem dX11_stop_31 : decode cX11_stop 31 = .ok (.aload 4, 2) := by decide +kernel
theorem dX11_stop_33 : decode cX11_stop 33 = .ok (.getfield 128, 3) := by decide +kernel
theorem dX11_stop_36 : decode cX11_stop 36 = .ok (.invokevirtual 131, 3) := by decide +kernel
theorem dX11_stop_39 : decode cX11_stop 39 = .ok (.ireturn, 1) := by decide +kernel
noncomputable def fX11_stop (μ : zM) (x0 : Nat) (x1 : Int32) (x2 : Int32) : Option (Int32 × zM) := zgd (zm_ck μ 11 x0) <|
  zb1 (fX11_valleyAt μ x0 x1) fun v2 =>
  zb1 (fX11_dayAt μ x0 x2) fun v4 =>
  zmo v2 (
  some ((-1), μ)) fun a5 =>
  zmo v4 (
  some ((-1), μ)) fun a6 =>
  zb1 (zm_gR μ 11 x0 3) fun v7 =>
  zb1 (zm_gI μ 2 a6 0) fun v9 =>
  zb2 (fX1_follow μ v7 a5 a6 v9) fun v13 m12 =>
  some (v13, m12)
theorem fX11_stop_ck {μ : zM} {x0 : Nat} {x1 : Int32} {x2 : Int32} {z : Int32 × zM} (h : fX11_stop μ x0 x1 x2 = some z) : zm_ck μ 11 x0 = true := (zgd_s h).1
set_option maxHeartbeats 4000000 in
set_option maxRecDepth 100000 in
theorem cX11_stop_ok {μ : zM} {x0 : Nat} {x1 : Int32} {x2 : Int32} {r : Int32} {mo : zM} (hf : fX11_stop μ x0 x1 x2 = some (r, mo)) : zC yX11_stop cX11_stop 5 (some .int) 6 0 0 [.ref x0, .int x1, .int x2] μ (some (.int r)) mo := by
  replace hf := (zgd_s hf).2
  refine zC.of (by decide) (Nat.le_of_ble_eq_true rfl) (fun K hin => ?_)
  clear hin
  show zz K cX11_stop (5, RX11, some .int, 6, 0, 0, some (.int r), mo) 0 0 0 [(0, .ref x0), (1, .int x1), (2, .int x2)] [] μ
  refine zr_aload_n 0 dX11_stop_0 rfl ?_
  refine zr_iload_n 1 dX11_stop_1 rfl ?_
  replace hf := zb1_s hf
  obtain ⟨v2, h1, hf⟩ := hf
  refine zr_callV (ci := 11) [.int x1] (cX11_valleyAt_ok h1) zvs_X11_valleyAt zl_684 zl_685 (fX11_valleyAt_ck h1) rfl rfl zl_683 rfl (Nat.le_of_ble_eq_true rfl) (Nat.le_of_ble_eq_true rfl) (Nat.le_of_ble_eq_true rfl) (Nat.le_of_ble_eq_true rfl) dX11_stop_2 rfl ?_
  refine zr_ostore_n [(3, va_rf v2), (0, .ref x0), (1, .int x1), (2, .int x2)] dX11_stop_5 (Nat.le_of_ble_eq_true rfl) rfl ?_
  refine zr_aload_n 1 dX11_stop_6 rfl ?_
  refine zr_iload_n 3 dX11_stop_7 rfl ?_
  replace hf := zb1_s hf
  obtain ⟨v4, h3, hf⟩ := hf
  refine zr_callV (ci := 11) [.int x2] (cX11_dayAt_ok h3) zvs_X11_dayAt zl_701 zl_702 (fX11_dayAt_ck h3) rfl rfl zl_700 rfl (Nat.le_of_ble_eq_true rfl) (Nat.le_of_ble_eq_true rfl) (Nat.le_of_ble_eq_true rfl) (Nat.le_of_ble_eq_true rfl) dX11_stop_8 rfl ?_
  refine zr_ostore [(4, va_rf v4), (3, va_rf v2), (0, .ref x0), (1, .int x1), (2, .int x2)] dX11_stop_11 (Nat.le_of_ble_eq_true rfl) (by cases v2 <;> rfl) ?_
  refine zr_oload_n 1 dX11_stop_13 rfl ?_
  cases v2 with
  | none =>
    replace hf := zmo_n hf
    refine zr_ifnull_n 22 dX11_stop_14 (by decide) ?_
    refine zr_iconst (-1) dX11_stop_22 (by decide) ?_
    cases hf
    exact zr_iret dX11_stop_23
  | some a5 =>
    replace hf := zmo_s hf
    refine zr_ifnull_r dX11_stop_14 ?_
    refine zr_oload 0 dX11_stop_17 rfl ?_
    cases v4 with
    | none =>
      replace hf := zmo_n hf
      refine zr_ifnonnull_n dX11_stop_19 ?_
      refine zr_iconst (-1) dX11_stop_22 (by decide) ?_
      cases hf
      exact zr_iret dX11_stop_23
    | some a6 =>
      replace hf := zmo_s hf
      refine zr_ifnonnull_r 24 dX11_stop_19 (by decide) ?_
      refine zr_aload_n 2 dX11_stop_24 rfl ?_
      replace hf := zb1_s hf
      obtain ⟨v7, h8, hf⟩ := hf
      refine zr_get (zm_gR_g h8) zk11 (by decide) zl_640 dX11_stop_25 ?_
      refine zr_aload_n 1 dX11_stop_28 rfl ?_
      refine zr_aload 0 dX11_stop_29 rfl ?_
      refine zr_aload 0 dX11_stop_31 rfl ?_
      replace hf := zb1_s hf
      obtain ⟨v9, h10, hf⟩ := hf
      refine zr_get (zm_gI_g h10) zk2 (by decide) zl_707 dX11_stop_33 ?_
      replace hf := zb2_s hf
      obtain ⟨v13, m12, h11, hf⟩ := hf
      refine zr_callV (ci := 1) [.ref a5, .ref a6, .int v9] (cX1_follow_ok h11) zvs_X1_follow zl_710 zl_711 (fX1_follow_ck h11) rfl rfl zl_709 rfl (Nat.le_of_ble_eq_true rfl) (Nat.le_of_ble_eq_true rfl) (Nat.le_of_ble_eq_true rfl) (Nat.le_of_ble_eq_true rfl) dX11_stop_36 rfl ?_
      cases hf
      exact zr_iret dX11_stop_39
theorem zl_712 : Cond.code yX1_tell cX1_tell 4 (some .int) ∈ zt := zt_at 890 (by decide +kernel)
theorem zvs_X1_tell : zvS yX1_tell cX1_tell 4 (some .int) 2 := ⟨zl_712, zl_110, ⟨by decide +kernel, by decide +kernel, by decide +kernel⟩, by decide⟩
theorem zl_713 : Cond.methodLink RX11 135 yX1_tell ∈ zt := zt_at 887 (by decide +kernel)
theorem zl_714 : Cond.instanceMethod yX1_tell ∈ zt := zt_at 888 (by decide +kernel)
theorem zl_715 : Cond.selects RX1 yX1_tell yX1_tell ∈ zt := zt_at 889 (by decide +kernel)
theorem dX11_state_0 : decode cX11_state 0 = .ok (.aload_n 0, 1) := by decide +kernel
theorem dX11_state_1 : decode cX11_state 1 = .ok (.iload_n 1, 1) := by decide +kernel
theorem dX11_state_2 : decode cX11_state 2 = .ok (.invokevirtual 89, 3) := by decide +kernel
theorem dX11_state_5 : decode cX11_state 5 = .ok (.astore 5, 2) := by decide +kernel
theorem dX11_state_7 : decode cX11_state 7 = .ok (.aload_n 0, 1) := by decide +kernel
theorem dX11_state_8 : decode cX11_state 8 = .ok (.iload_n 2, 1) := by decide +kernel
theorem dX11_state_9 : decode cX11_state 9 = .ok (.invokevirtual 120, 3) := by decide +kernel
theorem dX11_state_12 : decode cX11_state 12 = .ok (.astore 6, 2) := by decide +kernel
theorem dX11_state_14 : decode cX11_state 14 = .ok (.aload 5, 2) := by decide +kernel
theorem dX11_state_16 : decode cX11_state 16 = .ok (.ifnull 12, 3) := by decide +kernel
theorem dX11_state_19 : decode cX11_state 19 = .ok (.aload 6, 2) := by decide +kernel
theorem dX11_state_21 : decode cX11_state 21 = .ok (.ifnull 7, 3) := by decide +kernel
theorem dX11_state_24 : decode cX11_state 24 = .ok (.iload_n 3, 1) := by decide +kernel
theorem dX11_state_25 : decode cX11_state 25 = .ok (.ifCond .ge 6, 3) := by decide +kernel
theorem dX11_state_28 : decode cX11_state 28 = .ok (.bipush (-2), 2) := by decide +kernel
theorem dX11_state_30 : decode cX11_state 30 = .ok (.ireturn, 1) := by decide +kernel
theorem dX11_state_31 : decode cX11_state 31 = .ok (.aload_n 0, 1) := by decide +kernel
theorem dX11_state_32 : decode cX11_state 32 = .ok (.getfield 36, 3) := by decide +kernel
theorem dX11_state_35 : decode cX11_state 35 = .ok (.aload 5, 2) := by decide +kernel
theorem dX11_state_37 : decode cX11_state 37 = .ok (.aload 6, 2) := by decide +kernel
theorem dX11_state_39 : decode cX11_state 39 = .ok (.iload_n 3, 1) := by decide +kernel
theorem dX11_state_40 : decode cX11_state 40 = .ok (.invokevirtual 131, 3) := by decide +kernel
theorem dX11_state_43 : decode cX11_state 43 = .ok (.iload_n 3, 1) := by decide +kernel
theorem dX11_state_44 : decode cX11_state 44 = .ok (.if_icmp .eq 6, 3) := by decide +kernel
theorem dX11_state_47 : decode cX11_state 47 = .ok (.bipush (-2), 2) := by decide +kernel
theorem dX11_state_49 : decode cX11_state 49 = .ok (.ireturn, 1) := by decide +kernel
theorem dX11_state_50 : decode cX11_state 50 = .ok (.aload_n 0, 1) := by decide +kernel
theorem dX11_state_51 : decode cX11_state 51 = .ok (.getfield 36, 3) := by decide +kernel
theorem dX11_state_54 : decode cX11_state 54 = .ok (.aload 5, 2) := by decide +kernel
theorem dX11_state_56 : decode cX11_state 56 = .ok (.iload 4, 2) := by decide +kernel
theorem dX11_state_58 : decode cX11_state 58 = .ok (.invokevirtual 135, 3) := by decide +kernel
theorem dX11_state_61 : decode cX11_state 61 = .ok (.ireturn, 1) := by decide +kernel
noncomputable def fX11_state (μ : zM) (x0 : Nat) (x1 : Int32) (x2 : Int32) (x3 : Int32) (x4 : Int32) : Option (Int32 × zM) := zgd (zm_ck μ 11 x0) <|
  zb1 (fX11_valleyAt μ x0 x1) fun v2 =>
  zb1 (fX11_dayAt μ x0 x2) fun v4 =>
  zmo v2 (
  some ((-2), μ)) fun a5 =>
  zmo v4 (
  some ((-2), μ)) fun a6 =>
  if 0 ≤ x3 then (
  zb1 (zm_gR μ 11 x0 3) fun v7 =>
  zb2 (fX1_follow μ v7 a5 a6 x3) fun v11 m10 =>
  if v11 = x3 then (
  zb1 (zm_gR m10 11 x0 3) fun v12 =>
  zb1 (fX1_tell m10 v12 a5 x4) fun v15 =>
  some (v15, m10))
  else (
  some ((-2), m10)))
  else (
  some ((-2), μ))
theorem fX11_state_ck {μ : zM} {x0 : Nat} {x1 : Int32} {x2 : Int32} {x3 : Int32} {x4 : Int32} {z : Int32 × zM} (h : fX11_state μ x0 x1 x2 x3 x4 = some z) : zm_ck μ 11 x0 = true := (zgd_s h).1
set_option maxHeartbeats 4000000 in
set_option maxRecDepth 100000 in
theorem cX11_state_ok {μ : zM} {x0 : Nat} {x1 : Int32} {x2 : Int32} {x3 : Int32} {x4 : Int32} {r : Int32} {mo : zM} (hf : fX11_state μ x0 x1 x2 x3 x4 = some (r, mo)) : zC yX11_state cX11_state 7 (some .int) 6 0 0 [.ref x0, .int x1, .int x2, .int x3, .int x4] μ (some (.int r)) mo := by
  replace hf := (zgd_s hf).2
  refine zC.of (by decide) (Nat.le_of_ble_eq_true rfl) (fun K hin => ?_)
  clear hin
  show zz K cX11_state (7, RX11, some .int, 6, 0, 0, some (.int r), mo) 0 0 0 [(0, .ref x0), (1, .int x1), (2, .int x2), (3, .int x3), (4, .int x4)] [] μ
  refine zr_aload_n 0 dX11_state_0 rfl ?_
  refine zr_iload_n 1 dX11_state_1 rfl ?_
  replace hf := zb1_s hf
  obtain ⟨v2, h1, hf⟩ := hf
  refine zr_callV (ci := 11) [.int x1] (cX11_valleyAt_ok h1) zvs_X11_valleyAt zl_684 zl_685 (fX11_valleyAt_ck h1) rfl rfl zl_683 rfl (Nat.le_of_ble_eq_true rfl) (Nat.le_of_ble_eq_true rfl) (Nat.le_of_ble_eq_true rfl) (Nat.le_of_ble_eq_true rfl) dX11_state_2 rfl ?_
  refine zr_ostore [(5, va_rf v2), (0, .ref x0), (1, .int x1), (2, .int x2), (3, .int x3), (4, .int x4)] dX11_state_5 (Nat.le_of_ble_eq_true rfl) rfl ?_
  refine zr_aload_n 1 dX11_state_7 rfl ?_
  refine zr_iload_n 3 dX11_state_8 rfl ?_
  replace hf := zb1_s hf
  obtain ⟨v4, h3, hf⟩ := hf
  refine zr_callV (ci := 11) [.int x2] (cX11_dayAt_ok h3) zvs_X11_dayAt zl_701 zl_702 (fX11_dayAt_ck h3) rfl rfl zl_700 rfl (Nat.le_of_ble_eq_true rfl) (Nat.le_of_ble_eq_true rfl) (Nat.le_of_ble_eq_true rfl) (Nat.le_of_ble_eq_true rfl) dX11_state_9 rfl ?_
  refine zr_ostore [(6, va_rf v4), (5, va_rf v2), (0, .ref x0), (1, .int x1), (2, .int x2), (3, .int x3), (4, .int x4)] dX11_state_12 (Nat.le_of_ble_eq_true rfl) (by cases v2 <;> rfl) ?_
  refine zr_oload 1 dX11_state_14 rfl ?_
  cases v2 with
  | none =>
    replace hf := zmo_n hf
    refine zr_ifnull_n 28 dX11_state_16 (by decide) ?_
    refine zr_bipush (-2) dX11_state_28 (by decide) ?_
    cases hf
    exact zr_iret dX11_state_30
  | some a5 =>
    replace hf := zmo_s hf
    refine zr_ifnull_r dX11_state_16 ?_
    refine zr_oload 0 dX11_state_19 rfl ?_
    cases v4 with
    | none =>
      replace hf := zmo_n hf
      refine zr_ifnull_n 28 dX11_state_21 (by decide) ?_
      refine zr_bipush (-2) dX11_state_28 (by decide) ?_
      cases hf
      exact zr_iret dX11_state_30
    | some a6 =>
      replace hf := zmo_s hf
      refine zr_ifnull_r dX11_state_21 ?_
      refine zr_iload_n 5 dX11_state_24 rfl ?_
      refine zr_if_ge 31 dX11_state_25 (by decide) (fun hc => ?_) (fun hc => ?_)
      · rw [if_pos hc] at hf
        refine zr_aload_n 2 dX11_state_31 rfl ?_
        replace hf := zb1_s hf
        obtain ⟨v7, h8, hf⟩ := hf
        refine zr_get (zm_gR_g h8) zk11 (by decide) zl_640 dX11_state_32 ?_
        refine zr_aload 1 dX11_state_35 rfl ?_
        refine zr_aload 0 dX11_state_37 rfl ?_
        refine zr_iload_n 5 dX11_state_39 rfl ?_
        replace hf := zb2_s hf
        obtain ⟨v11, m10, h9, hf⟩ := hf
        refine zr_callV (ci := 1) [.ref a5, .ref a6, .int x3] (cX1_follow_ok h9) zvs_X1_follow zl_710 zl_711 (fX1_follow_ck h9) rfl rfl zl_709 rfl (Nat.le_of_ble_eq_true rfl) (Nat.le_of_ble_eq_true rfl) (Nat.le_of_ble_eq_true rfl) (Nat.le_of_ble_eq_true rfl) dX11_state_40 rfl ?_
        refine zr_iload_n 5 dX11_state_43 rfl ?_
        refine zr_icmp_eq 50 dX11_state_44 (by decide) (fun hc => ?_) (fun hc => ?_)
        · rw [if_pos hc] at hf
          refine zr_aload_n 2 dX11_state_50 rfl ?_
          replace hf := zb1_s hf
          obtain ⟨v12, h13, hf⟩ := hf
          refine zr_get (zm_gR_g h13) zk11 (by decide) zl_640 dX11_state_51 ?_
          refine zr_aload 1 dX11_state_54 rfl ?_
          refine zr_iload 6 dX11_state_56 rfl ?_
          replace hf := zb1_s hf
          obtain ⟨v15, h14, hf⟩ := hf
          refine zr_callV (ci := 1) [.ref a5, .int x4] (cX1_tell_ok h14) zvs_X1_tell zl_714 zl_715 (fX1_tell_ck h14) rfl rfl zl_713 rfl (Nat.le_of_ble_eq_true rfl) (Nat.le_of_ble_eq_true rfl) (Nat.le_of_ble_eq_true rfl) (Nat.le_of_ble_eq_true rfl) dX11_state_58 rfl ?_
          cases hf
          exact zr_iret dX11_state_61
        · rw [if_neg hc] at hf
          refine zr_bipush (-2) dX11_state_47 (by decide) ?_
          cases hf
          exact zr_iret dX11_state_49
      · rw [if_neg hc] at hf
        refine zr_bipush (-2) dX11_state_28 (by decide) ?_
        cases hf
        exact zr_iret dX11_state_30
