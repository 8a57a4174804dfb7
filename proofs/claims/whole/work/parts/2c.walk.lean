theorem dX1_firstClash_0 : decode cX1_firstClash 0 = .ok (.iconst 0, 1) := by decide +kernel
theorem dX1_firstClash_1 : decode cX1_firstClash 1 = .ok (.istore_n 3, 1) := by decide +kernel
theorem dX1_firstClash_2 : decode cX1_firstClash 2 = .ok (.iload_n 3, 1) := by decide +kernel
theorem dX1_firstClash_3 : decode cX1_firstClash 3 = .ok (.aload_n 0, 1) := by decide +kernel
theorem dX1_firstClash_4 : decode cX1_firstClash 4 = .ok (.getfield 9, 3) := by decide +kernel
theorem dX1_firstClash_7 : decode cX1_firstClash 7 = .ok (.if_icmp .gt 48, 3) := by decide +kernel
theorem dX1_firstClash_10 : decode cX1_firstClash 10 = .ok (.iconst 0, 1) := by decide +kernel
theorem dX1_firstClash_11 : decode cX1_firstClash 11 = .ok (.istore 4, 2) := by decide +kernel
theorem dX1_firstClash_13 : decode cX1_firstClash 13 = .ok (.iload 4, 2) := by decide +kernel
theorem dX1_firstClash_15 : decode cX1_firstClash 15 = .ok (.aload_n 1, 1) := by decide +kernel
theorem dX1_firstClash_16 : decode cX1_firstClash 16 = .ok (.getfield 53, 3) := by decide +kernel
theorem dX1_firstClash_19 : decode cX1_firstClash 19 = .ok (.if_icmp .ge 30, 3) := by decide +kernel
theorem dX1_firstClash_22 : decode cX1_firstClash 22 = .ok (.aload_n 0, 1) := by decide +kernel
theorem dX1_firstClash_23 : decode cX1_firstClash 23 = .ok (.iload 4, 2) := by decide +kernel
theorem dX1_firstClash_25 : decode cX1_firstClash 25 = .ok (.iload_n 3, 1) := by decide +kernel
theorem dX1_firstClash_26 : decode cX1_firstClash 26 = .ok (.invokevirtual 148, 3) := by decide +kernel
theorem dX1_firstClash_29 : decode cX1_firstClash 29 = .ok (.ifCond .eq 14, 3) := by decide +kernel
theorem dX1_firstClash_32 : decode cX1_firstClash 32 = .ok (.iload_n 2, 1) := by decide +kernel
theorem dX1_firstClash_33 : decode cX1_firstClash 33 = .ok (.ifCond .eq 7, 3) := by decide +kernel
theorem dX1_firstClash_36 : decode cX1_firstClash 36 = .ok (.iload_n 3, 1) := by decide +kernel
theorem dX1_firstClash_37 : decode cX1_firstClash 37 = .ok (.goto 5, 3) := by decide +kernel
theorem dX1_firstClash_40 : decode cX1_firstClash 40 = .ok (.iload 4, 2) := by decide +kernel
theorem dX1_firstClash_42 : decode cX1_firstClash 42 = .ok (.ireturn, 1) := by decide +kernel
theorem dX1_firstClash_43 : decode cX1_firstClash 43 = .ok (.iinc 4 1, 3) := by decide +kernel
theorem dX1_firstClash_46 : decode cX1_firstClash 46 = .ok (.goto (-33), 3) := by decide +kernel
theorem dX1_firstClash_49 : decode cX1_firstClash 49 = .ok (.iinc 3 1, 3) := by decide +kernel
theorem dX1_firstClash_52 : decode cX1_firstClash 52 = .ok (.goto (-50), 3) := by decide +kernel
theorem dX1_firstClash_55 : decode cX1_firstClash 55 = .ok (.iconst (-1), 1) := by decide +kernel
theorem dX1_firstClash_56 : decode cX1_firstClash 56 = .ok (.ireturn, 1) := by decide +kernel
noncomputable def fX1_firstClash_l13 (μ : zM) (x1 : Nat) (F2 : Int32 → Option (Int32)) (x3_1 : Int32) (x0 : Nat) (x2 : Int32) (F7 : Int32 → Option (Int32)) (x4_6 : Int32) : Option (Int32) :=
  zb1 (zm_gI μ 9 x1 4) fun v9 =>
  if v9 ≤ x4_6 then (
  F2 (x3_1 + 1))
  else (
  zb1 (fX1_isClash μ x0 x4_6 x3_1) fun v12 =>
  if v12 = 0 then (
  F7 (x4_6 + 1))
  else (
  zb1 (if x2 = 0 then (
  some x4_6)
  else (
  some x3_1) : Option (Int32)) fun (s13 : Int32) =>
  some s13))
noncomputable def fX1_firstClash_l2 (μ : zM) (x0 : Nat) (x1 : Nat) (x2 : Int32) (F2 : Int32 → Option (Int32)) (x3_1 : Int32) : Option (Int32) :=
  zb1 (zm_gI μ 1 x0 0) fun v4 =>
  if v4 < x3_1 then (
  some (-1))
  else (
  zf1 (fX1_firstClash_l13 μ x1 F2 x3_1 x0 x2) zfu 0)
noncomputable def fX1_firstClash (μ : zM) (x0 : Nat) (x1 : Nat) (x2 : Int32) : Option (Int32) := zgd (zm_ck μ 1 x0) <|
  zf1 (fX1_firstClash_l2 μ x0 x1 x2) zfu 0
theorem fX1_firstClash_ck {μ : zM} {x0 : Nat} {x1 : Nat} {x2 : Int32} {z : Int32} (h : fX1_firstClash μ x0 x1 x2 = some z) : zm_ck μ 1 x0 = true := (zgd_s h).1
set_option maxHeartbeats 4000000 in
set_option maxRecDepth 100000 in
theorem cX1_firstClash_ok {μ : zM} {x0 : Nat} {x1 : Nat} {x2 : Int32} {r : Int32} (hf : fX1_firstClash μ x0 x1 x2 = some r) : zC yX1_firstClash cX1_firstClash 5 (some .int) 2 0 0 [.ref x0, .ref x1, .int x2] μ (some (.int r)) μ := by
  replace hf := (zgd_s hf).2
  refine zC.of (by decide) (Nat.le_of_ble_eq_true rfl) (fun K hin => ?_)
  clear hin
  show zz K cX1_firstClash (5, RX1, some .int, 2, 0, 0, some (.int r), μ) 0 0 0 [(0, .ref x0), (1, .ref x1), (2, .int x2)] [] μ
  refine zr_iconst 0 dX1_firstClash_0 (by decide) ?_
  refine zr_istore_n [(3, .int 0), (0, .ref x0), (1, .ref x1), (2, .int x2)] dX1_firstClash_1 (Nat.le_of_ble_eq_true rfl) rfl ?_
  have hL16 : ∀ (n : Nat) (x3_1 : Int32), zf1 (fX1_firstClash_l2 μ x0 x1 x2) n x3_1 = some r → zz K cX1_firstClash (5, RX1, some .int, 2, 0, 0, some (.int r), μ) 0 0 2 [(0, .ref x0), (1, .ref x1), (2, .int x2), (3, .int x3_1)] [] μ := by
    intro n
    induction n with
    | zero => intro x3_1 hf; cases hf
    | succ n ih3 =>
      intro x3_1 hf
      replace hf := zf1_s hf
      generalize zf1 (fX1_firstClash_l2 μ x0 x1 x2) n = F2 at hf ih3
      unfold fX1_firstClash_l2 at hf
      refine zr_iload_n 3 dX1_firstClash_2 rfl ?_
      refine zr_aload_n 0 dX1_firstClash_3 rfl ?_
      replace hf := zb1_s hf
      obtain ⟨v4, h5, hf⟩ := hf
      refine zr_get (zm_gI_g h5) zk1 (by decide) zl_91 dX1_firstClash_4 ?_
      refine zr_icmp_gt 55 dX1_firstClash_7 (by decide) (fun hc => ?_) (fun hc => ?_)
      · rw [if_pos hc] at hf
        refine zr_iconst (-1) dX1_firstClash_55 (by decide) ?_
        cases hf
        exact zr_iret dX1_firstClash_56
      · rw [if_neg hc] at hf
        refine zr_iconst 0 dX1_firstClash_10 (by decide) ?_
        refine zr_istore [(4, .int 0), (0, .ref x0), (1, .ref x1), (2, .int x2), (3, .int x3_1)] dX1_firstClash_11 (Nat.le_of_ble_eq_true rfl) rfl ?_
        have hL15 : ∀ (n : Nat) (x4_6 : Int32), zf1 (fX1_firstClash_l13 μ x1 F2 x3_1 x0 x2) n x4_6 = some r → zz K cX1_firstClash (5, RX1, some .int, 2, 0, 0, some (.int r), μ) 0 0 13 [(0, .ref x0), (1, .ref x1), (2, .int x2), (3, .int x3_1), (4, .int x4_6)] [] μ := by
          intro n
          induction n with
          | zero => intro x4_6 hf; cases hf
          | succ n ih8 =>
            intro x4_6 hf
            replace hf := zf1_s hf
            generalize zf1 (fX1_firstClash_l13 μ x1 F2 x3_1 x0 x2) n = F7 at hf ih8
            unfold fX1_firstClash_l13 at hf
            refine zr_iload 4 dX1_firstClash_13 rfl ?_
            refine zr_aload_n 1 dX1_firstClash_15 rfl ?_
            replace hf := zb1_s hf
            obtain ⟨v9, h10, hf⟩ := hf
            refine zr_get (zm_gI_g h10) zk9 (by decide) zl_121 dX1_firstClash_16 ?_
            refine zr_icmp_ge 49 dX1_firstClash_19 (by decide) (fun hc => ?_) (fun hc => ?_)
            · rw [if_pos hc] at hf
              refine zr_iinc (j := 3) (x3_1 + 1) [(3, .int (x3_1 + 1)), (0, .ref x0), (1, .ref x1), (2, .int x2), (4, .int x4_6)] dX1_firstClash_49 rfl rfl (Nat.le_of_ble_eq_true rfl) rfl ?_
              refine zr_goto 2 dX1_firstClash_52 (by decide) ?_
              exact zr_lv [1, 2, 3, 0] rfl (ih3 (x3_1 + 1) hf)
            · rw [if_neg hc] at hf
              refine zr_aload_n 0 dX1_firstClash_22 rfl ?_
              refine zr_iload 4 dX1_firstClash_23 rfl ?_
              refine zr_iload_n 3 dX1_firstClash_25 rfl ?_
              replace hf := zb1_s hf
              obtain ⟨v12, h11, hf⟩ := hf
              refine zr_callV (ci := 1) [.int x4_6, .int x3_1] (cX1_isClash_ok h11) zvs_X1_isClash zl_168 zl_169 (fX1_isClash_ck h11) rfl rfl zl_167 rfl (Nat.le_of_ble_eq_true rfl) (Nat.le_of_ble_eq_true rfl) (Nat.le_of_ble_eq_true rfl) (Nat.le_of_ble_eq_true rfl) dX1_firstClash_26 rfl ?_
              refine zr_if_eq 43 dX1_firstClash_29 (by decide) (fun hc => ?_) (fun hc => ?_)
              · rw [if_pos hc] at hf
                refine zr_iinc (j := 4) (x4_6 + 1) [(4, .int (x4_6 + 1)), (0, .ref x0), (1, .ref x1), (2, .int x2), (3, .int x3_1)] dX1_firstClash_43 rfl rfl (Nat.le_of_ble_eq_true rfl) rfl ?_
                refine zr_goto 13 dX1_firstClash_46 (by decide) ?_
                exact zr_lv [1, 2, 3, 4, 0] rfl (ih8 (x4_6 + 1) hf)
              · rw [if_neg hc] at hf
                refine zr_iload_n 2 dX1_firstClash_32 rfl ?_
                replace hf := zb1_s hf
                obtain ⟨s13, hg, hf⟩ := hf
                have hj14 : zz K cX1_firstClash (5, RX1, some .int, 2, 0, 0, some (.int r), μ) 0 0 42 [] [.int s13] μ := by
                  cases hf
                  exact zr_iret dX1_firstClash_42
                clear hf
                have hf := hg
                clear hg
                refine zr_if_eq 40 dX1_firstClash_33 (by decide) (fun hc => ?_) (fun hc => ?_)
                · rw [if_pos hc] at hf
                  refine zr_iload 4 dX1_firstClash_40 rfl ?_
                  cases hf
                  exact zr_lv [] rfl hj14
                · rw [if_neg hc] at hf
                  refine zr_iload_n 3 dX1_firstClash_36 rfl ?_
                  refine zr_goto 42 dX1_firstClash_37 (by decide) ?_
                  cases hf
                  exact zr_lv [] rfl hj14
        exact zr_lv [1, 2, 3, 4, 0] rfl (hL15 _ 0 hf)
  exact zr_lv [1, 2, 3, 0] rfl (hL16 _ 0 hf)
theorem dX1_wordsHeard_0 : decode cX1_wordsHeard 0 = .ok (.iconst 0, 1) := by decide +kernel
theorem dX1_wordsHeard_1 : decode cX1_wordsHeard 1 = .ok (.istore_n 2, 1) := by decide +kernel
theorem dX1_wordsHeard_2 : decode cX1_wordsHeard 2 = .ok (.iconst 0, 1) := by decide +kernel
theorem dX1_wordsHeard_3 : decode cX1_wordsHeard 3 = .ok (.istore_n 3, 1) := by decide +kernel
theorem dX1_wordsHeard_4 : decode cX1_wordsHeard 4 = .ok (.iload_n 3, 1) := by decide +kernel
theorem dX1_wordsHeard_5 : decode cX1_wordsHeard 5 = .ok (.aload_n 0, 1) := by decide +kernel
theorem dX1_wordsHeard_6 : decode cX1_wordsHeard 6 = .ok (.getfield 9, 3) := by decide +kernel
theorem dX1_wordsHeard_9 : decode cX1_wordsHeard 9 = .ok (.if_icmp .gt 23, 3) := by decide +kernel
theorem dX1_wordsHeard_12 : decode cX1_wordsHeard 12 = .ok (.iload_n 2, 1) := by decide +kernel
theorem dX1_wordsHeard_13 : decode cX1_wordsHeard 13 = .ok (.aload_n 0, 1) := by decide +kernel
theorem dX1_wordsHeard_14 : decode cX1_wordsHeard 14 = .ok (.getfield 25, 3) := by decide +kernel
theorem dX1_wordsHeard_17 : decode cX1_wordsHeard 17 = .ok (.iload_n 1, 1) := by decide +kernel
theorem dX1_wordsHeard_18 : decode cX1_wordsHeard 18 = .ok (.bipush 100, 2) := by decide +kernel
theorem dX1_wordsHeard_20 : decode cX1_wordsHeard 20 = .ok (.imul, 1) := by decide +kernel
theorem dX1_wordsHeard_21 : decode cX1_wordsHeard 21 = .ok (.iload_n 3, 1) := by decide +kernel
theorem dX1_wordsHeard_22 : decode cX1_wordsHeard 22 = .ok (.iadd, 1) := by decide +kernel
theorem dX1_wordsHeard_23 : decode cX1_wordsHeard 23 = .ok (.iaload, 1) := by decide +kernel
theorem dX1_wordsHeard_24 : decode cX1_wordsHeard 24 = .ok (.ior, 1) := by decide +kernel
theorem dX1_wordsHeard_25 : decode cX1_wordsHeard 25 = .ok (.istore_n 2, 1) := by decide +kernel
theorem dX1_wordsHeard_26 : decode cX1_wordsHeard 26 = .ok (.iinc 3 1, 3) := by decide +kernel
theorem dX1_wordsHeard_29 : decode cX1_wordsHeard 29 = .ok (.goto (-25), 3) := by decide +kernel
theorem dX1_wordsHeard_32 : decode cX1_wordsHeard 32 = .ok (.iload_n 2, 1) := by decide +kernel
theorem dX1_wordsHeard_33 : decode cX1_wordsHeard 33 = .ok (.ireturn, 1) := by decide +kernel
noncomputable def fX1_wordsHeard_l4 (μ : zM) (x0 : Nat) (x1 : Int32) (F3 : Int32 → Int32 → Option (Int32)) (x2_1 : Int32) (x3_2 : Int32) : Option (Int32) :=
  zb1 (zm_gI μ 1 x0 0) fun v7 =>
  if v7 < x3_2 then (
  some x2_1)
  else (
  zb1 (zm_gR μ 1 x0 4) fun v9 =>
  zb1 (zm_aI μ 0 v9 ((x1 * 100) + x3_2)) fun v11 =>
  F3 (x2_1 ||| v11) (x3_2 + 1))
noncomputable def fX1_wordsHeard (μ : zM) (x0 : Nat) (x1 : Int32) : Option (Int32) := zgd (zm_ck μ 1 x0) <|
  zb1 (zf2 (fX1_wordsHeard_l4 μ x0 x1) zfu 0 0 : Option (Int32)) fun (x2_5 : Int32) =>
  some x2_5
theorem fX1_wordsHeard_ck {μ : zM} {x0 : Nat} {x1 : Int32} {z : Int32} (h : fX1_wordsHeard μ x0 x1 = some z) : zm_ck μ 1 x0 = true := (zgd_s h).1
set_option maxHeartbeats 4000000 in
set_option maxRecDepth 100000 in
theorem cX1_wordsHeard_ok {μ : zM} {x0 : Nat} {x1 : Int32} {r : Int32} (hf : fX1_wordsHeard μ x0 x1 = some r) : zC yX1_wordsHeard cX1_wordsHeard 4 (some .int) 0 0 0 [.ref x0, .int x1] μ (some (.int r)) μ := by
  replace hf := (zgd_s hf).2
  refine zC.of (by decide) (Nat.le_of_ble_eq_true rfl) (fun K hin => ?_)
  clear hin
  show zz K cX1_wordsHeard (4, RX1, some .int, 0, 0, 0, some (.int r), μ) 0 0 0 [(0, .ref x0), (1, .int x1)] [] μ
  refine zr_iconst 0 dX1_wordsHeard_0 (by decide) ?_
  refine zr_istore_n [(2, .int 0), (0, .ref x0), (1, .int x1)] dX1_wordsHeard_1 (Nat.le_of_ble_eq_true rfl) rfl ?_
  refine zr_iconst 0 dX1_wordsHeard_2 (by decide) ?_
  refine zr_istore_n [(3, .int 0), (2, .int 0), (0, .ref x0), (1, .int x1)] dX1_wordsHeard_3 (Nat.le_of_ble_eq_true rfl) rfl ?_
  replace hf := zb1_s hf
  obtain ⟨x2_5, hg, hf⟩ := hf
  have hj6 : zz K cX1_wordsHeard (4, RX1, some .int, 0, 0, 0, some (.int r), μ) 0 0 32 [(2, .int x2_5)] [] μ := by
    refine zr_iload_n 0 dX1_wordsHeard_32 rfl ?_
    cases hf
    exact zr_iret dX1_wordsHeard_33
  clear hf
  have hf := hg
  clear hg
  have hL13 : ∀ (n : Nat) (x2_1 : Int32) (x3_2 : Int32), zf2 (fX1_wordsHeard_l4 μ x0 x1) n x2_1 x3_2 = some x2_5 → zz K cX1_wordsHeard (4, RX1, some .int, 0, 0, 0, some (.int r), μ) 0 0 4 [(0, .ref x0), (1, .int x1), (2, .int x2_1), (3, .int x3_2)] [] μ := by
    intro n
    induction n with
    | zero => intro x2_1 x3_2 hf; cases hf
    | succ n ih4 =>
      intro x2_1 x3_2 hf
      replace hf := zf2_s hf
      generalize zf2 (fX1_wordsHeard_l4 μ x0 x1) n = F3 at hf ih4
      unfold fX1_wordsHeard_l4 at hf
      refine zr_iload_n 3 dX1_wordsHeard_4 rfl ?_
      refine zr_aload_n 0 dX1_wordsHeard_5 rfl ?_
      replace hf := zb1_s hf
      obtain ⟨v7, h8, hf⟩ := hf
      refine zr_get (zm_gI_g h8) zk1 (by decide) zl_91 dX1_wordsHeard_6 ?_
      refine zr_icmp_gt 32 dX1_wordsHeard_9 (by decide) (fun hc => ?_) (fun hc => ?_)
      · rw [if_pos hc] at hf
        cases hf
        exact zr_lv [2] rfl hj6
      · rw [if_neg hc] at hf
        refine zr_iload_n 2 dX1_wordsHeard_12 rfl ?_
        refine zr_aload_n 0 dX1_wordsHeard_13 rfl ?_
        replace hf := zb1_s hf
        obtain ⟨v9, h10, hf⟩ := hf
        refine zr_get (zm_gR_g h10) zk1 (by decide) zl_95 dX1_wordsHeard_14 ?_
        refine zr_iload_n 1 dX1_wordsHeard_17 rfl ?_
        refine zr_bipush 100 dX1_wordsHeard_18 (by decide) ?_
        refine zr_imul dX1_wordsHeard_20 ?_
        refine zr_iload_n 3 dX1_wordsHeard_21 rfl ?_
        refine zr_iadd dX1_wordsHeard_22 ?_
        replace hf := zb1_s hf
        obtain ⟨v11, h12, hf⟩ := hf
        refine zr_iald h12 dX1_wordsHeard_23 ?_
        refine zr_ior dX1_wordsHeard_24 ?_
        refine zr_istore_n [(2, .int (x2_1 ||| v11)), (0, .ref x0), (1, .int x1), (3, .int x3_2)] dX1_wordsHeard_25 (Nat.le_of_ble_eq_true rfl) rfl ?_
        refine zr_iinc (j := 3) (x3_2 + 1) [(3, .int (x3_2 + 1)), (2, .int (x2_1 ||| v11)), (0, .ref x0), (1, .int x1)] dX1_wordsHeard_26 rfl rfl (Nat.le_of_ble_eq_true rfl) rfl ?_
        refine zr_goto 4 dX1_wordsHeard_29 (by decide) ?_
        exact zr_lv [2, 3, 1, 0] rfl (ih4 (x2_1 ||| v11) (x3_2 + 1) hf)
  exact zr_lv [2, 3, 1, 0] rfl (hL13 _ 0 0 hf)
theorem dX1_howOften_0 : decode cX1_howOften 0 = .ok (.iconst 0, 1) := by decide +kernel
theorem dX1_howOften_1 : decode cX1_howOften 1 = .ok (.istore_n 2, 1) := by decide +kernel
theorem dX1_howOften_2 : decode cX1_howOften 2 = .ok (.iconst 0, 1) := by decide +kernel
theorem dX1_howOften_3 : decode cX1_howOften 3 = .ok (.istore_n 3, 1) := by decide +kernel
theorem dX1_howOften_4 : decode cX1_howOften 4 = .ok (.iload_n 3, 1) := by decide +kernel
theorem dX1_howOften_5 : decode cX1_howOften 5 = .ok (.aload_n 0, 1) := by decide +kernel
theorem dX1_howOften_6 : decode cX1_howOften 6 = .ok (.getfield 9, 3) := by decide +kernel
theorem dX1_howOften_9 : decode cX1_howOften 9 = .ok (.if_icmp .gt 23, 3) := by decide +kernel
theorem dX1_howOften_12 : decode cX1_howOften 12 = .ok (.iload_n 2, 1) := by decide +kernel
theorem dX1_howOften_13 : decode cX1_howOften 13 = .ok (.aload_n 0, 1) := by decide +kernel
theorem dX1_howOften_14 : decode cX1_howOften 14 = .ok (.getfield 28, 3) := by decide +kernel
theorem dX1_howOften_17 : decode cX1_howOften 17 = .ok (.iload_n 1, 1) := by decide +kernel
theorem dX1_howOften_18 : decode cX1_howOften 18 = .ok (.bipush 100, 2) := by decide +kernel
theorem dX1_howOften_20 : decode cX1_howOften 20 = .ok (.imul, 1) := by decide +kernel
theorem dX1_howOften_21 : decode cX1_howOften 21 = .ok (.iload_n 3, 1) := by decide +kernel
theorem dX1_howOften_22 : decode cX1_howOften 22 = .ok (.iadd, 1) := by decide +kernel
theorem dX1_howOften_23 : decode cX1_howOften 23 = .ok (.iaload, 1) := by decide +kernel
theorem dX1_howOften_24 : decode cX1_howOften 24 = .ok (.iadd, 1) := by decide +kernel
theorem dX1_howOften_25 : decode cX1_howOften 25 = .ok (.istore_n 2, 1) := by decide +kernel
theorem dX1_howOften_26 : decode cX1_howOften 26 = .ok (.iinc 3 1, 3) := by decide +kernel
theorem dX1_howOften_29 : decode cX1_howOften 29 = .ok (.goto (-25), 3) := by decide +kernel
theorem dX1_howOften_32 : decode cX1_howOften 32 = .ok (.iload_n 2, 1) := by decide +kernel
theorem dX1_howOften_33 : decode cX1_howOften 33 = .ok (.ireturn, 1) := by decide +kernel
noncomputable def fX1_howOften_l4 (μ : zM) (x0 : Nat) (x1 : Int32) (F3 : Int32 → Int32 → Option (Int32)) (x2_1 : Int32) (x3_2 : Int32) : Option (Int32) :=
  zb1 (zm_gI μ 1 x0 0) fun v7 =>
  if v7 < x3_2 then (
  some x2_1)
  else (
  zb1 (zm_gR μ 1 x0 5) fun v9 =>
  zb1 (zm_aI μ 0 v9 ((x1 * 100) + x3_2)) fun v11 =>
  F3 (x2_1 + v11) (x3_2 + 1))
noncomputable def fX1_howOften (μ : zM) (x0 : Nat) (x1 : Int32) : Option (Int32) := zgd (zm_ck μ 1 x0) <|
  zb1 (zf2 (fX1_howOften_l4 μ x0 x1) zfu 0 0 : Option (Int32)) fun (x2_5 : Int32) =>
  some x2_5
theorem fX1_howOften_ck {μ : zM} {x0 : Nat} {x1 : Int32} {z : Int32} (h : fX1_howOften μ x0 x1 = some z) : zm_ck μ 1 x0 = true := (zgd_s h).1
set_option maxHeartbeats 4000000 in
set_option maxRecDepth 100000 in
theorem cX1_howOften_ok {μ : zM} {x0 : Nat} {x1 : Int32} {r : Int32} (hf : fX1_howOften μ x0 x1 = some r) : zC yX1_howOften cX1_howOften 4 (some .int) 0 0 0 [.ref x0, .int x1] μ (some (.int r)) μ := by
  replace hf := (zgd_s hf).2
  refine zC.of (by decide) (Nat.le_of_ble_eq_true rfl) (fun K hin => ?_)
  clear hin
  show zz K cX1_howOften (4, RX1, some .int, 0, 0, 0, some (.int r), μ) 0 0 0 [(0, .ref x0), (1, .int x1)] [] μ
  refine zr_iconst 0 dX1_howOften_0 (by decide) ?_
  refine zr_istore_n [(2, .int 0), (0, .ref x0), (1, .int x1)] dX1_howOften_1 (Nat.le_of_ble_eq_true rfl) rfl ?_
  refine zr_iconst 0 dX1_howOften_2 (by decide) ?_
  refine zr_istore_n [(3, .int 0), (2, .int 0), (0, .ref x0), (1, .int x1)] dX1_howOften_3 (Nat.le_of_ble_eq_true rfl) rfl ?_
  replace hf := zb1_s hf
  obtain ⟨x2_5, hg, hf⟩ := hf
  have hj6 : zz K cX1_howOften (4, RX1, some .int, 0, 0, 0, some (.int r), μ) 0 0 32 [(2, .int x2_5)] [] μ := by
    refine zr_iload_n 0 dX1_howOften_32 rfl ?_
    cases hf
    exact zr_iret dX1_howOften_33
  clear hf
  have hf := hg
  clear hg
  have hL13 : ∀ (n : Nat) (x2_1 : Int32) (x3_2 : Int32), zf2 (fX1_howOften_l4 μ x0 x1) n x2_1 x3_2 = some x2_5 → zz K cX1_howOften (4, RX1, some .int, 0, 0, 0, some (.int r), μ) 0 0 4 [(0, .ref x0), (1, .int x1), (2, .int x2_1), (3, .int x3_2)] [] μ := by
    intro n
    induction n with
    | zero => intro x2_1 x3_2 hf; cases hf
    | succ n ih4 =>
      intro x2_1 x3_2 hf
      replace hf := zf2_s hf
      generalize zf2 (fX1_howOften_l4 μ x0 x1) n = F3 at hf ih4
      unfold fX1_howOften_l4 at hf
      refine zr_iload_n 3 dX1_howOften_4 rfl ?_
      refine zr_aload_n 0 dX1_howOften_5 rfl ?_
      replace hf := zb1_s hf
      obtain ⟨v7, h8, hf⟩ := hf
      refine zr_get (zm_gI_g h8) zk1 (by decide) zl_91 dX1_howOften_6 ?_
      refine zr_icmp_gt 32 dX1_howOften_9 (by decide) (fun hc => ?_) (fun hc => ?_)
      · rw [if_pos hc] at hf
        cases hf
        exact zr_lv [2] rfl hj6
      · rw [if_neg hc] at hf
        refine zr_iload_n 2 dX1_howOften_12 rfl ?_
        refine zr_aload_n 0 dX1_howOften_13 rfl ?_
        replace hf := zb1_s hf
        obtain ⟨v9, h10, hf⟩ := hf
        refine zr_get (zm_gR_g h10) zk1 (by decide) zl_96 dX1_howOften_14 ?_
        refine zr_iload_n 1 dX1_howOften_17 rfl ?_
        refine zr_bipush 100 dX1_howOften_18 (by decide) ?_
        refine zr_imul dX1_howOften_20 ?_
        refine zr_iload_n 3 dX1_howOften_21 rfl ?_
        refine zr_iadd dX1_howOften_22 ?_
        replace hf := zb1_s hf
        obtain ⟨v11, h12, hf⟩ := hf
        refine zr_iald h12 dX1_howOften_23 ?_
        refine zr_iadd dX1_howOften_24 ?_
        refine zr_istore_n [(2, .int (x2_1 + v11)), (0, .ref x0), (1, .int x1), (3, .int x3_2)] dX1_howOften_25 (Nat.le_of_ble_eq_true rfl) rfl ?_
        refine zr_iinc (j := 3) (x3_2 + 1) [(3, .int (x3_2 + 1)), (2, .int (x2_1 + v11)), (0, .ref x0), (1, .int x1)] dX1_howOften_26 rfl rfl (Nat.le_of_ble_eq_true rfl) rfl ?_
        refine zr_goto 4 dX1_howOften_29 (by decide) ?_
        exact zr_lv [2, 3, 1, 0] rfl (ih4 (x2_1 + v11) (x3_2 + 1) hf)
  exact zr_lv [2, 3, 1, 0] rfl (hL13 _ 0 0 hf)
theorem dX1_firstHearing_0 : decode cX1_firstHearing 0 = .ok (.iconst 0, 1) := by decide +kernel
theorem dX1_firstHearing_1 : decode cX1_firstHearing 1 = .ok (.istore_n 2, 1) := by decide +kernel
theorem dX1_firstHearing_2 : decode cX1_firstHearing 2 = .ok (.iload_n 2, 1) := by decide +kernel
theorem dX1_firstHearing_3 : decode cX1_firstHearing 3 = .ok (.aload_n 0, 1) := by decide +kernel
theorem dX1_firstHearing_4 : decode cX1_firstHearing 4 = .ok (.getfield 9, 3) := by decide +kernel
theorem dX1_firstHearing_7 : decode cX1_firstHearing 7 = .ok (.if_icmp .gt 25, 3) := by decide +kernel
theorem dX1_firstHearing_10 : decode cX1_firstHearing 10 = .ok (.aload_n 0, 1) := by decide +kernel
theorem dX1_firstHearing_11 : decode cX1_firstHearing 11 = .ok (.getfield 28, 3) := by decide +kernel
theorem dX1_firstHearing_14 : decode cX1_firstHearing 14 = .ok (.iload_n 1, 1) := by decide +kernel
theorem dX1_firstHearing_15 : decode cX1_firstHearing 15 = .ok (.bipush 100, 2) := by decide +kernel
theorem dX1_firstHearing_17 : decode cX1_firstHearing 17 = .ok (.imul, 1) := by decide +kernel
theorem dX1_firstHearing_18 : decode cX1_firstHearing 18 = .ok (.iload_n 2, 1) := by decide +kernel
theorem dX1_firstHearing_19 : decode cX1_firstHearing 19 = .ok (.iadd, 1) := by decide +kernel
theorem dX1_firstHearing_20 : decode cX1_firstHearing 20 = .ok (.iaload, 1) := by decide +kernel
theorem dX1_firstHearing_21 : decode cX1_firstHearing 21 = .ok (.ifCond .le 5, 3) := by decide +kernel
theorem dX1_firstHearing_24 : decode cX1_firstHearing 24 = .ok (.iload_n 2, 1) := by decide +kernel
theorem dX1_firstHearing_25 : decode cX1_firstHearing 25 = .ok (.ireturn, 1) := by decide +kernel
theorem dX1_firstHearing_26 : decode cX1_firstHearing 26 = .ok (.iinc 2 1, 3) := by decide +kernel
theorem dX1_firstHearing_29 : decode cX1_firstHearing 29 = .ok (.goto (-27), 3) := by decide +kernel
theorem dX1_firstHearing_32 : decode cX1_firstHearing 32 = .ok (.iconst (-1), 1) := by decide +kernel
theorem dX1_firstHearing_33 : decode cX1_firstHearing 33 = .ok (.ireturn, 1) := by decide +kernel
noncomputable def fX1_firstHearing_l2 (μ : zM) (x0 : Nat) (x1 : Int32) (F2 : Int32 → Option (Int32)) (x2_1 : Int32) : Option (Int32) :=
  zb1 (zm_gI μ 1 x0 0) fun v4 =>
  if v4 < x2_1 then (
  some (-1))
  else (
  zb1 (zm_gR μ 1 x0 5) fun v6 =>
  zb1 (zm_aI μ 0 v6 ((x1 * 100) + x2_1)) fun v8 =>
  if v8 ≤ 0 then (
  F2 (x2_1 + 1))
  else (
  some x2_1))
noncomputable def fX1_firstHearing (μ : zM) (x0 : Nat) (x1 : Int32) : Option (Int32) := zgd (zm_ck μ 1 x0) <|
  zf1 (fX1_firstHearing_l2 μ x0 x1) zfu 0
theorem fX1_firstHearing_ck {μ : zM} {x0 : Nat} {x1 : Int32} {z : Int32} (h : fX1_firstHearing μ x0 x1 = some z) : zm_ck μ 1 x0 = true := (zgd_s h).1
set_option maxHeartbeats 4000000 in
set_option maxRecDepth 100000 in
theorem cX1_firstHearing_ok {μ : zM} {x0 : Nat} {x1 : Int32} {r : Int32} (hf : fX1_firstHearing μ x0 x1 = some r) : zC yX1_firstHearing cX1_firstHearing 3 (some .int) 0 0 0 [.ref x0, .int x1] μ (some (.int r)) μ := by
  replace hf := (zgd_s hf).2
  refine zC.of (by decide) (Nat.le_of_ble_eq_true rfl) (fun K hin => ?_)
  clear hin
  show zz K cX1_firstHearing (3, RX1, some .int, 0, 0, 0, some (.int r), μ) 0 0 0 [(0, .ref x0), (1, .int x1)] [] μ
  refine zr_iconst 0 dX1_firstHearing_0 (by decide) ?_
  refine zr_istore_n [(2, .int 0), (0, .ref x0), (1, .int x1)] dX1_firstHearing_1 (Nat.le_of_ble_eq_true rfl) rfl ?_
  have hL10 : ∀ (n : Nat) (x2_1 : Int32), zf1 (fX1_firstHearing_l2 μ x0 x1) n x2_1 = some r → zz K cX1_firstHearing (3, RX1, some .int, 0, 0, 0, some (.int r), μ) 0 0 2 [(0, .ref x0), (1, .int x1), (2, .int x2_1)] [] μ := by
    intro n
    induction n with
    | zero => intro x2_1 hf; cases hf
    | succ n ih3 =>
      intro x2_1 hf
      replace hf := zf1_s hf
      generalize zf1 (fX1_firstHearing_l2 μ x0 x1) n = F2 at hf ih3
      unfold fX1_firstHearing_l2 at hf
      refine zr_iload_n 2 dX1_firstHearing_2 rfl ?_
      refine zr_aload_n 0 dX1_firstHearing_3 rfl ?_
      replace hf := zb1_s hf
      obtain ⟨v4, h5, hf⟩ := hf
      refine zr_get (zm_gI_g h5) zk1 (by decide) zl_91 dX1_firstHearing_4 ?_
      refine zr_icmp_gt 32 dX1_firstHearing_7 (by decide) (fun hc => ?_) (fun hc => ?_)
      · rw [if_pos hc] at hf
        refine zr_iconst (-1) dX1_firstHearing_32 (by decide) ?_
        cases hf
        exact zr_iret dX1_firstHearing_33
      · rw [if_neg hc] at hf
        refine zr_aload_n 0 dX1_firstHearing_10 rfl ?_
        replace hf := zb1_s hf
        obtain ⟨v6, h7, hf⟩ := hf
        refine zr_get (zm_gR_g h7) zk1 (by decide) zl_96 dX1_firstHearing_11 ?_
        refine zr_iload_n 1 dX1_firstHearing_14 rfl ?_
        refine zr_bipush 100 dX1_firstHearing_15 (by decide) ?_
        refine zr_imul dX1_firstHearing_17 ?_
        refine zr_iload_n 2 dX1_firstHearing_18 rfl ?_
        refine zr_iadd dX1_firstHearing_19 ?_
        replace hf := zb1_s hf
        obtain ⟨v8, h9, hf⟩ := hf
        refine zr_iald h9 dX1_firstHearing_20 ?_
        refine zr_if_le 26 dX1_firstHearing_21 (by decide) (fun hc => ?_) (fun hc => ?_)
        · rw [if_pos hc] at hf
          refine zr_iinc (j := 2) (x2_1 + 1) [(2, .int (x2_1 + 1)), (0, .ref x0), (1, .int x1)] dX1_firstHearing_26 rfl rfl (Nat.le_of_ble_eq_true rfl) rfl ?_
          refine zr_goto 2 dX1_firstHearing_29 (by decide) ?_
          exact zr_lv [1, 2, 0] rfl (ih3 (x2_1 + 1) hf)
        · rw [if_neg hc] at hf
          refine zr_iload_n 2 dX1_firstHearing_24 rfl ?_
          cases hf
          exact zr_iret dX1_firstHearing_25
  exact zr_lv [1, 2, 0] rfl (hL10 _ 0 hf)
theorem zl_170 : Cond.code yX1_wordsHeard cX1_wordsHeard 4 (some .int) ∈ zt := zt_at 916 (by decide +kernel)
theorem zvs_X1_wordsHeard : zvS yX1_wordsHeard cX1_wordsHeard 4 (some .int) 1 := ⟨zl_170, zl_110, ⟨by decide +kernel, by decide +kernel, by decide +kernel⟩, by decide⟩
theorem zl_171 : Cond.methodLink RX1 134 yX1_wordsHeard ∈ zt := zt_at 913 (by decide +kernel)
theorem zl_172 : Cond.instanceMethod yX1_wordsHeard ∈ zt := zt_at 915 (by decide +kernel)
theorem zl_173 : Cond.selects RX1 yX1_wordsHeard yX1_wordsHeard ∈ zt := zt_at 30 (by decide +kernel)
theorem zl_174 : Cond.code yX1_howOften cX1_howOften 4 (some .int) ∈ zt := zt_at 920 (by decide +kernel)
theorem zvs_X1_howOften : zvS yX1_howOften cX1_howOften 4 (some .int) 1 := ⟨zl_174, zl_110, ⟨by decide +kernel, by decide +kernel, by decide +kernel⟩, by decide⟩
theorem zl_175 : Cond.methodLink RX1 137 yX1_howOften ∈ zt := zt_at 917 (by decide +kernel)
theorem zl_176 : Cond.instanceMethod yX1_howOften ∈ zt := zt_at 919 (by decide +kernel)
theorem zl_177 : Cond.selects RX1 yX1_howOften yX1_howOften ∈ zt := zt_at 31 (by decide +kernel)
theorem zl_178 : Cond.code yX1_firstHearing cX1_firstHearing 3 (some .int) ∈ zt := zt_at 924 (by decide +kernel)
theorem zvs_X1_firstHearing : zvS yX1_firstHearing cX1_firstHearing 3 (some .int) 1 := ⟨zl_178, zl_110, ⟨by decide +kernel, by decide +kernel, by decide +kernel⟩, by decide⟩
theorem zl_179 : Cond.methodLink RX1 140 yX1_firstHearing ∈ zt := zt_at 921 (by decide +kernel)
theorem zl_180 : Cond.instanceMethod yX1_firstHearing ∈ zt := zt_at 923 (by decide +kernel)
theorem zl_181 : Cond.selects RX1 yX1_firstHearing yX1_firstHearing ∈ zt := zt_at 32 (by decide +kernel)
theorem dX1_tellPerson_0 : decode cX1_tellPerson 0 = .ok (.iload_n 1, 1) := by decide +kernel
theorem dX1_tellPerson_1 : decode cX1_tellPerson 1 = .ok (.tableswitch 56 1 4 #[31, 38, 44, 50], 31) := by decide +kernel
theorem dX1_tellPerson_32 : decode cX1_tellPerson 32 = .ok (.aload_n 0, 1) := by decide +kernel
theorem dX1_tellPerson_33 : decode cX1_tellPerson 33 = .ok (.getfield 21, 3) := by decide +kernel
theorem dX1_tellPerson_36 : decode cX1_tellPerson 36 = .ok (.iload_n 2, 1) := by decide +kernel
theorem dX1_tellPerson_37 : decode cX1_tellPerson 37 = .ok (.iaload, 1) := by decide +kernel
theorem dX1_tellPerson_38 : decode cX1_tellPerson 38 = .ok (.ireturn, 1) := by decide +kernel
theorem dX1_tellPerson_39 : decode cX1_tellPerson 39 = .ok (.aload_n 0, 1) := by decide +kernel
theorem dX1_tellPerson_40 : decode cX1_tellPerson 40 = .ok (.iload_n 2, 1) := by decide +kernel
theorem dX1_tellPerson_41 : decode cX1_tellPerson 41 = .ok (.invokevirtual 134, 3) := by decide +kernel
theorem dX1_tellPerson_44 : decode cX1_tellPerson 44 = .ok (.ireturn, 1) := by decide +kernel
theorem dX1_tellPerson_45 : decode cX1_tellPerson 45 = .ok (.aload_n 0, 1) := by decide +kernel
theorem dX1_tellPerson_46 : decode cX1_tellPerson 46 = .ok (.iload_n 2, 1) := by decide +kernel
theorem dX1_tellPerson_47 : decode cX1_tellPerson 47 = .ok (.invokevirtual 137, 3) := by decide +kernel
theorem dX1_tellPerson_50 : decode cX1_tellPerson 50 = .ok (.ireturn, 1) := by decide +kernel
theorem dX1_tellPerson_51 : decode cX1_tellPerson 51 = .ok (.aload_n 0, 1) := by decide +kernel
theorem dX1_tellPerson_52 : decode cX1_tellPerson 52 = .ok (.iload_n 2, 1) := by decide +kernel
theorem dX1_tellPerson_53 : decode cX1_tellPerson 53 = .ok (.invokevirtual 140, 3) := by decide +kernel
theorem dX1_tellPerson_56 : decode cX1_tellPerson 56 = .ok (.ireturn, 1) := by decide +kernel
theorem dX1_tellPerson_57 : decode cX1_tellPerson 57 = .ok (.bipush (-2), 2) := by decide +kernel
theorem dX1_tellPerson_59 : decode cX1_tellPerson 59 = .ok (.ireturn, 1) := by decide +kernel
noncomputable def fX1_tellPerson (μ : zM) (x0 : Nat) (x1 : Int32) (x2 : Int32) : Option (Int32) := zgd (zm_ck μ 1 x0) <|
  if x1 = 1 then (
  zb1 (zm_gR μ 1 x0 3) fun v1 =>
  zb1 (zm_aI μ 0 v1 x2) fun v3 =>
  some v3)
  else (
  if x1 = 2 then (
  zb1 (fX1_wordsHeard μ x0 x2) fun v7 =>
  some v7)
  else (
  if x1 = 3 then (
  zb1 (fX1_howOften μ x0 x2) fun v10 =>
  some v10)
  else (
  if x1 = 4 then (
  zb1 (fX1_firstHearing μ x0 x2) fun v13 =>
  some v13)
  else (
  some (-2)))))
theorem fX1_tellPerson_ck {μ : zM} {x0 : Nat} {x1 : Int32} {x2 : Int32} {z : Int32} (h : fX1_tellPerson μ x0 x1 x2 = some z) : zm_ck μ 1 x0 = true := (zgd_s h).1
set_option maxHeartbeats 4000000 in
set_option maxRecDepth 100000 in
theorem cX1_tellPerson_ok {μ : zM} {x0 : Nat} {x1 : Int32} {x2 : Int32} {r : Int32} (hf : fX1_tellPerson μ x0 x1 x2 = some r) : zC yX1_tellPerson cX1_tellPerson 3 (some .int) 1 0 0 [.ref x0, .int x1, .int x2] μ (some (.int r)) μ := by
  replace hf := (zgd_s hf).2
  refine zC.of (by decide) (Nat.le_of_ble_eq_true rfl) (fun K hin => ?_)
  clear hin
  show zz K cX1_tellPerson (3, RX1, some .int, 1, 0, 0, some (.int r), μ) 0 0 0 [(0, .ref x0), (1, .int x1), (2, .int x2)] [] μ
  refine zr_iload_n 1 dX1_tellPerson_0 rfl ?_
  rcases zdec (x1 = 1) with hs5 | hs5
  · rw [if_pos hs5] at hf
    refine zr_tableIn (off := 31) 32 dX1_tellPerson_1 (by rw [hs5]; decide) (by rw [hs5]; decide) (by rw [hs5]; rfl) (by decide) ?_
    refine zr_aload_n 0 dX1_tellPerson_32 rfl ?_
    replace hf := zb1_s hf
    obtain ⟨v1, h2, hf⟩ := hf
    refine zr_get (zm_gR_g h2) zk1 (by decide) zl_94 dX1_tellPerson_33 ?_
    refine zr_iload_n 2 dX1_tellPerson_36 rfl ?_
    replace hf := zb1_s hf
    obtain ⟨v3, h4, hf⟩ := hf
    refine zr_iald h4 dX1_tellPerson_37 ?_
    cases hf
    exact zr_iret dX1_tellPerson_38
  rw [if_neg hs5] at hf
  rcases zdec (x1 = 2) with hs8 | hs8
  · rw [if_pos hs8] at hf
    refine zr_tableIn (off := 38) 39 dX1_tellPerson_1 (by rw [hs8]; decide) (by rw [hs8]; decide) (by rw [hs8]; rfl) (by decide) ?_
    refine zr_aload_n 0 dX1_tellPerson_39 rfl ?_
    refine zr_iload_n 2 dX1_tellPerson_40 rfl ?_
    replace hf := zb1_s hf
    obtain ⟨v7, h6, hf⟩ := hf
    refine zr_callV (ci := 1) [.int x2] (cX1_wordsHeard_ok h6) zvs_X1_wordsHeard zl_172 zl_173 (fX1_wordsHeard_ck h6) rfl rfl zl_171 rfl (Nat.le_of_ble_eq_true rfl) (Nat.le_of_ble_eq_true rfl) (Nat.le_of_ble_eq_true rfl) (Nat.le_of_ble_eq_true rfl) dX1_tellPerson_41 rfl ?_
    cases hf
    exact zr_iret dX1_tellPerson_44
  rw [if_neg hs8] at hf
  rcases zdec (x1 = 3) with hs11 | hs11
  · rw [if_pos hs11] at hf
    refine zr_tableIn (off := 44) 45 dX1_tellPerson_1 (by rw [hs11]; decide) (by rw [hs11]; decide) (by rw [hs11]; rfl) (by decide) ?_
    refine zr_aload_n 0 dX1_tellPerson_45 rfl ?_
    refine zr_iload_n 2 dX1_tellPerson_46 rfl ?_
    replace hf := zb1_s hf
    obtain ⟨v10, h9, hf⟩ := hf
    refine zr_callV (ci := 1) [.int x2] (cX1_howOften_ok h9) zvs_X1_howOften zl_176 zl_177 (fX1_howOften_ck h9) rfl rfl zl_175 rfl (Nat.le_of_ble_eq_true rfl) (Nat.le_of_ble_eq_true rfl) (Nat.le_of_ble_eq_true rfl) (Nat.le_of_ble_eq_true rfl) dX1_tellPerson_47 rfl ?_
    cases hf
    exact zr_iret dX1_tellPerson_50
  rw [if_neg hs11] at hf
  rcases zdec (x1 = 4) with hs14 | hs14
  · rw [if_pos hs14] at hf
    refine zr_tableIn (off := 50) 51 dX1_tellPerson_1 (by rw [hs14]; decide) (by rw [hs14]; decide) (by rw [hs14]; rfl) (by decide) ?_
    refine zr_aload_n 0 dX1_tellPerson_51 rfl ?_
    refine zr_iload_n 2 dX1_tellPerson_52 rfl ?_
    replace hf := zb1_s hf
    obtain ⟨v13, h12, hf⟩ := hf
    refine zr_callV (ci := 1) [.int x2] (cX1_firstHearing_ok h12) zvs_X1_firstHearing zl_180 zl_181 (fX1_firstHearing_ck h12) rfl rfl zl_179 rfl (Nat.le_of_ble_eq_true rfl) (Nat.le_of_ble_eq_true rfl) (Nat.le_of_ble_eq_true rfl) (Nat.le_of_ble_eq_true rfl) dX1_tellPerson_53 rfl ?_
    cases hf
    exact zr_iret dX1_tellPerson_56
  rw [if_neg hs14] at hf
  refine zr_tableOut 57 dX1_tellPerson_1 (by simp only [← Int32.toInt_inj] at hs5 hs8 hs11 hs14; simp at hs5 hs8 hs11 hs14; omega) (by decide) ?_
  refine zr_bipush (-2) dX1_tellPerson_57 (by decide) ?_
  cases hf
  exact zr_iret dX1_tellPerson_59
theorem zl_182 : Cond.code yX1_firstClash cX1_firstClash 5 (some .int) ∈ zt := zt_at 908 (by decide +kernel)
theorem zvs_X1_firstClash : zvS yX1_firstClash cX1_firstClash 5 (some .int) 2 := ⟨zl_182, zl_110, ⟨by decide +kernel, by decide +kernel, by decide +kernel⟩, by decide⟩
theorem zl_183 : Cond.methodLink RX1 126 yX1_firstClash ∈ zt := zt_at 905 (by decide +kernel)
theorem zl_184 : Cond.instanceMethod yX1_firstClash ∈ zt := zt_at 907 (by decide +kernel)
theorem zl_185 : Cond.selects RX1 yX1_firstClash yX1_firstClash ∈ zt := zt_at 28 (by decide +kernel)
theorem zl_186 : Cond.code yX1_clashes cX1_clashes 5 (some .int) ∈ zt := zt_at 894 (by decide +kernel)
theorem zvs_X1_clashes : zvS yX1_clashes cX1_clashes 5 (some .int) 1 := ⟨zl_186, zl_110, ⟨by decide +kernel, by decide +kernel, by decide +kernel⟩, by decide⟩
theorem zl_187 : Cond.methodLink RX1 122 yX1_clashes ∈ zt := zt_at 891 (by decide +kernel)
theorem zl_188 : Cond.instanceMethod yX1_clashes ∈ zt := zt_at 893 (by decide +kernel)
theorem zl_189 : Cond.selects RX1 yX1_clashes yX1_clashes ∈ zt := zt_at 26 (by decide +kernel)
theorem zl_190 : Cond.code yX1_tellPerson cX1_tellPerson 3 (some .int) ∈ zt := zt_at 912 (by decide +kernel)
theorem zvs_X1_tellPerson : zvS yX1_tellPerson cX1_tellPerson 3 (some .int) 2 := ⟨zl_190, zl_110, ⟨by decide +kernel, by decide +kernel, by decide +kernel⟩, by decide⟩
theorem zl_191 : Cond.methodLink RX1 130 yX1_tellPerson ∈ zt := zt_at 909 (by decide +kernel)
theorem zl_192 : Cond.instanceMethod yX1_tellPerson ∈ zt := zt_at 911 (by decide +kernel)
theorem zl_193 : Cond.selects RX1 yX1_tellPerson yX1_tellPerson ∈ zt := zt_at 29 (by decide +kernel)
theorem dX1_tell_0 : decode cX1_tell 0 = .ok (.iload_n 2, 1) := by decide +kernel
theorem dX1_tell_1 : decode cX1_tell 1 = .ok (.tableswitch 67 0 4 #[35, 40, 45, 51, 51], 35) := by decide +kernel
theorem dX1_tell_36 : decode cX1_tell 36 = .ok (.aload_n 0, 1) := by decide +kernel
theorem dX1_tell_37 : decode cX1_tell 37 = .ok (.getfield 9, 3) := by decide +kernel
theorem dX1_tell_40 : decode cX1_tell 40 = .ok (.ireturn, 1) := by decide +kernel
theorem dX1_tell_41 : decode cX1_tell 41 = .ok (.aload_n 0, 1) := by decide +kernel
theorem dX1_tell_42 : decode cX1_tell 42 = .ok (.getfield 15, 3) := by decide +kernel
theorem dX1_tell_45 : decode cX1_tell 45 = .ok (.ireturn, 1) := by decide +kernel
theorem dX1_tell_46 : decode cX1_tell 46 = .ok (.aload_n 0, 1) := by decide +kernel
theorem dX1_tell_47 : decode cX1_tell 47 = .ok (.aload_n 1, 1) := by decide +kernel
theorem dX1_tell_48 : decode cX1_tell 48 = .ok (.invokevirtual 122, 3) := by decide +kernel
theorem dX1_tell_51 : decode cX1_tell 51 = .ok (.ireturn, 1) := by decide +kernel
theorem dX1_tell_52 : decode cX1_tell 52 = .ok (.aload_n 0, 1) := by decide +kernel
theorem dX1_tell_53 : decode cX1_tell 53 = .ok (.aload_n 1, 1) := by decide +kernel
theorem dX1_tell_54 : decode cX1_tell 54 = .ok (.iload_n 2, 1) := by decide +kernel
theorem dX1_tell_55 : decode cX1_tell 55 = .ok (.iconst 3, 1) := by decide +kernel
theorem dX1_tell_56 : decode cX1_tell 56 = .ok (.if_icmp .ne 7, 3) := by decide +kernel
theorem dX1_tell_59 : decode cX1_tell 59 = .ok (.iconst 1, 1) := by decide +kernel
theorem dX1_tell_60 : decode cX1_tell 60 = .ok (.goto 4, 3) := by decide +kernel
theorem dX1_tell_63 : decode cX1_tell 63 = .ok (.iconst 0, 1) := by decide +kernel
theorem dX1_tell_64 : decode cX1_tell 64 = .ok (.invokevirtual 126, 3) := by decide +kernel
theorem dX1_tell_67 : decode cX1_tell 67 = .ok (.ireturn, 1) := by decide +kernel
theorem dX1_tell_68 : decode cX1_tell 68 = .ok (.iload_n 2, 1) := by decide +kernel
theorem dX1_tell_69 : decode cX1_tell 69 = .ok (.bipush 10, 2) := by decide +kernel
theorem dX1_tell_71 : decode cX1_tell 71 = .ok (.irem, 1) := by decide +kernel
theorem dX1_tell_72 : decode cX1_tell 72 = .ok (.istore_n 3, 1) := by decide +kernel
theorem dX1_tell_73 : decode cX1_tell 73 = .ok (.iload_n 2, 1) := by decide +kernel
theorem dX1_tell_74 : decode cX1_tell 74 = .ok (.bipush 10, 2) := by decide +kernel
theorem dX1_tell_76 : decode cX1_tell 76 = .ok (.if_icmp .lt 11, 3) := by decide +kernel
theorem dX1_tell_79 : decode cX1_tell 79 = .ok (.aload_n 1, 1) := by decide +kernel
theorem dX1_tell_80 : decode cX1_tell 80 = .ok (.iload_n 3, 1) := by decide +kernel
theorem dX1_tell_81 : decode cX1_tell 81 = .ok (.invokevirtual 88, 3) := by decide +kernel
theorem dX1_tell_84 : decode cX1_tell 84 = .ok (.ifCond .ne 8, 3) := by decide +kernel
theorem dX1_tell_87 : decode cX1_tell 87 = .ok (.bipush (-2), 2) := by decide +kernel
theorem dX1_tell_89 : decode cX1_tell 89 = .ok (.goto 12, 3) := by decide +kernel
theorem dX1_tell_92 : decode cX1_tell 92 = .ok (.aload_n 0, 1) := by decide +kernel
theorem dX1_tell_93 : decode cX1_tell 93 = .ok (.iload_n 2, 1) := by decide +kernel
theorem dX1_tell_94 : decode cX1_tell 94 = .ok (.bipush 10, 2) := by decide +kernel
theorem dX1_tell_96 : decode cX1_tell 96 = .ok (.idiv, 1) := by decide +kernel
theorem dX1_tell_97 : decode cX1_tell 97 = .ok (.iload_n 3, 1) := by decide +kernel
theorem dX1_tell_98 : decode cX1_tell 98 = .ok (.invokevirtual 130, 3) := by decide +kernel
theorem dX1_tell_101 : decode cX1_tell 101 = .ok (.ireturn, 1) := by decide +kernel
noncomputable def fX1_tell_b52 (x2 : Int32) (μ : zM) (x0 : Nat) (x1 : Nat) : Option (Int32) :=
  zb1 (if x2 = 3 then (
  some 1)
  else (
  some 0) : Option (Int32)) fun (s1 : Int32) =>
  zb1 (fX1_firstClash μ x0 x1 s1) fun v4 =>
  some v4
noncomputable def fX1_tell (μ : zM) (x0 : Nat) (x1 : Nat) (x2 : Int32) : Option (Int32) := zgd (zm_ck μ 1 x0) <|
  if x2 = 0 then (
  zb1 (zm_gI μ 1 x0 0) fun v6 =>
  some v6)
  else (
  if x2 = 1 then (
  zb1 (zm_gI μ 1 x0 1) fun v9 =>
  some v9)
  else (
  if x2 = 2 then (
  zb1 (fX1_clashes μ x0 x1) fun v13 =>
  some v13)
  else (
  if x2 = 3 then (
  fX1_tell_b52 x2 μ x0 x1)
  else (
  if x2 = 4 then (
  fX1_tell_b52 x2 μ x0 x1)
  else (
  zb1 (if x2 < 10 then (
  some (-2))
  else (
  zb1 (fX9_hasPerson μ x1 (x2 - x2 / 10 * 10)) fun v20 =>
  if v20 = 0 then (
  some (-2))
  else (
  zb1 (fX1_tellPerson μ x0 (x2 / 10) (x2 - x2 / 10 * 10)) fun v22 =>
  some v22)) : Option (Int32)) fun (s17 : Int32) =>
  some s17)))))
theorem fX1_tell_ck {μ : zM} {x0 : Nat} {x1 : Nat} {x2 : Int32} {z : Int32} (h : fX1_tell μ x0 x1 x2 = some z) : zm_ck μ 1 x0 = true := (zgd_s h).1
set_option maxHeartbeats 4000000 in
set_option maxRecDepth 100000 in
theorem cX1_tell_ok {μ : zM} {x0 : Nat} {x1 : Nat} {x2 : Int32} {r : Int32} (hf : fX1_tell μ x0 x1 x2 = some r) : zC yX1_tell cX1_tell 4 (some .int) 3 0 0 [.ref x0, .ref x1, .int x2] μ (some (.int r)) μ := by
  replace hf := (zgd_s hf).2
  refine zC.of (by decide) (Nat.le_of_ble_eq_true rfl) (fun K hin => ?_)
  clear hin
  show zz K cX1_tell (4, RX1, some .int, 3, 0, 0, some (.int r), μ) 0 0 0 [(0, .ref x0), (1, .ref x1), (2, .int x2)] [] μ
  refine zr_iload_n 2 dX1_tell_0 rfl ?_
  have hb5 : ∀ (_ : Unit), fX1_tell_b52 x2 μ x0 x1 = some r → zz K cX1_tell (4, RX1, some .int, 3, 0, 0, some (.int r), μ) 0 0 52 [(0, .ref x0), (1, .ref x1), (2, .int x2)] [] μ := by
    intro _ hf
    unfold fX1_tell_b52 at hf
    refine zr_aload_n 0 dX1_tell_52 rfl ?_
    refine zr_aload_n 1 dX1_tell_53 rfl ?_
    refine zr_iload_n 2 dX1_tell_54 rfl ?_
    refine zr_iconst 3 dX1_tell_55 (by decide) ?_
    replace hf := zb1_s hf
    obtain ⟨s1, hg, hf⟩ := hf
    have hj2 : zz K cX1_tell (4, RX1, some .int, 3, 0, 0, some (.int r), μ) 0 0 64 [] [.int s1, .ref x1, .ref x0] μ := by
      replace hf := zb1_s hf
      obtain ⟨v4, h3, hf⟩ := hf
      refine zr_callV (ci := 1) [.ref x1, .int s1] (cX1_firstClash_ok h3) zvs_X1_firstClash zl_184 zl_185 (fX1_firstClash_ck h3) rfl rfl zl_183 rfl (Nat.le_of_ble_eq_true rfl) (Nat.le_of_ble_eq_true rfl) (Nat.le_of_ble_eq_true rfl) (Nat.le_of_ble_eq_true rfl) dX1_tell_64 rfl ?_
      cases hf
      exact zr_iret dX1_tell_67
    clear hf
    have hf := hg
    clear hg
    refine zr_icmp_ne 63 dX1_tell_56 (by decide) (fun hc => ?_) (fun hc => ?_)
    · rw [if_neg hc] at hf
      refine zr_iconst 0 dX1_tell_63 (by decide) ?_
      cases hf
      exact zr_lv [] rfl hj2
    · rw [if_pos hc] at hf
      refine zr_iconst 1 dX1_tell_59 (by decide) ?_
      refine zr_goto 64 dX1_tell_60 (by decide) ?_
      cases hf
      exact zr_lv [] rfl hj2
  rcases zdec (x2 = 0) with hs8 | hs8
  · rw [if_pos hs8] at hf
    refine zr_tableIn (off := 35) 36 dX1_tell_1 (by rw [hs8]; decide) (by rw [hs8]; decide) (by rw [hs8]; rfl) (by decide) ?_
    refine zr_aload_n 0 dX1_tell_36 rfl ?_
    replace hf := zb1_s hf
    obtain ⟨v6, h7, hf⟩ := hf
    refine zr_get (zm_gI_g h7) zk1 (by decide) zl_91 dX1_tell_37 ?_
    cases hf
    exact zr_iret dX1_tell_40
  rw [if_neg hs8] at hf
  rcases zdec (x2 = 1) with hs11 | hs11
  · rw [if_pos hs11] at hf
    refine zr_tableIn (off := 40) 41 dX1_tell_1 (by rw [hs11]; decide) (by rw [hs11]; decide) (by rw [hs11]; rfl) (by decide) ?_
    refine zr_aload_n 0 dX1_tell_41 rfl ?_
    replace hf := zb1_s hf
    obtain ⟨v9, h10, hf⟩ := hf
    refine zr_get (zm_gI_g h10) zk1 (by decide) zl_92 dX1_tell_42 ?_
    cases hf
    exact zr_iret dX1_tell_45
  rw [if_neg hs11] at hf
  rcases zdec (x2 = 2) with hs14 | hs14
  · rw [if_pos hs14] at hf
    refine zr_tableIn (off := 45) 46 dX1_tell_1 (by rw [hs14]; decide) (by rw [hs14]; decide) (by rw [hs14]; rfl) (by decide) ?_
    refine zr_aload_n 0 dX1_tell_46 rfl ?_
    refine zr_aload_n 1 dX1_tell_47 rfl ?_
    replace hf := zb1_s hf
    obtain ⟨v13, h12, hf⟩ := hf
    refine zr_callV (ci := 1) [.ref x1] (cX1_clashes_ok h12) zvs_X1_clashes zl_188 zl_189 (fX1_clashes_ck h12) rfl rfl zl_187 rfl (Nat.le_of_ble_eq_true rfl) (Nat.le_of_ble_eq_true rfl) (Nat.le_of_ble_eq_true rfl) (Nat.le_of_ble_eq_true rfl) dX1_tell_48 rfl ?_
    cases hf
    exact zr_iret dX1_tell_51
  rw [if_neg hs14] at hf
  rcases zdec (x2 = 3) with hs15 | hs15
  · rw [if_pos hs15] at hf
    refine zr_tableIn (off := 51) 52 dX1_tell_1 (by rw [hs15]; decide) (by rw [hs15]; decide) (by rw [hs15]; rfl) (by decide) ?_
    exact zr_lv [0, 1, 2] rfl (hb5 () hf)
  rw [if_neg hs15] at hf
  rcases zdec (x2 = 4) with hs16 | hs16
  · rw [if_pos hs16] at hf
    refine zr_tableIn (off := 51) 52 dX1_tell_1 (by rw [hs16]; decide) (by rw [hs16]; decide) (by rw [hs16]; rfl) (by decide) ?_
    exact zr_lv [0, 1, 2] rfl (hb5 () hf)
  rw [if_neg hs16] at hf
  refine zr_tableOut 68 dX1_tell_1 (by simp only [← Int32.toInt_inj] at hs8 hs11 hs14 hs15 hs16; simp at hs8 hs11 hs14 hs15 hs16; omega) (by decide) ?_
  refine zr_iload_n 2 dX1_tell_68 rfl ?_
  refine zr_bipush 10 dX1_tell_69 (by decide) ?_
  refine zr_irem dX1_tell_71 (by decide) ?_
  refine zr_istore_n [(3, .int (x2 - x2 / 10 * 10)), (0, .ref x0), (1, .ref x1), (2, .int x2)] dX1_tell_72 (Nat.le_of_ble_eq_true rfl) rfl ?_
  refine zr_iload_n 3 dX1_tell_73 rfl ?_
  refine zr_bipush 10 dX1_tell_74 (by decide) ?_
  replace hf := zb1_s hf
  obtain ⟨s17, hg, hf⟩ := hf
  have hj18 : zz K cX1_tell (4, RX1, some .int, 3, 0, 0, some (.int r), μ) 0 0 101 [] [.int s17] μ := by
    cases hf
    exact zr_iret dX1_tell_101
  clear hf
  have hf := hg
  clear hg
  refine zr_icmp_lt 87 dX1_tell_76 (by decide) (fun hc => ?_) (fun hc => ?_)
  · rw [if_pos hc] at hf
    refine zr_bipush (-2) dX1_tell_87 (by decide) ?_
    refine zr_goto 101 dX1_tell_89 (by decide) ?_
    cases hf
    exact zr_lv [] rfl hj18
  · rw [if_neg hc] at hf
    refine zr_aload_n 2 dX1_tell_79 rfl ?_
    refine zr_iload_n 0 dX1_tell_80 rfl ?_
    replace hf := zb1_s hf
    obtain ⟨v20, h19, hf⟩ := hf
    refine zr_callV (ci := 9) [.int (x2 - x2 / 10 * 10)] (cX9_hasPerson_ok h19) zvs_X9_hasPerson zl_136 zl_137 (fX9_hasPerson_ck h19) rfl rfl zl_135 rfl (Nat.le_of_ble_eq_true rfl) (Nat.le_of_ble_eq_true rfl) (Nat.le_of_ble_eq_true rfl) (Nat.le_of_ble_eq_true rfl) dX1_tell_81 rfl ?_
    refine zr_if_ne 92 dX1_tell_84 (by decide) (fun hc => ?_) (fun hc => ?_)
    · rw [if_neg hc] at hf
      refine zr_aload_n 1 dX1_tell_92 rfl ?_
      refine zr_iload_n 3 dX1_tell_93 rfl ?_
      refine zr_bipush 10 dX1_tell_94 (by decide) ?_
      refine zr_idiv dX1_tell_96 (by decide) ?_
      refine zr_iload_n 0 dX1_tell_97 rfl ?_
      replace hf := zb1_s hf
      obtain ⟨v22, h21, hf⟩ := hf
      refine zr_callV (ci := 1) [.int (x2 / 10), .int (x2 - x2 / 10 * 10)] (cX1_tellPerson_ok h21) zvs_X1_tellPerson zl_192 zl_193 (fX1_tellPerson_ck h21) rfl rfl zl_191 rfl (Nat.le_of_ble_eq_true rfl) (Nat.le_of_ble_eq_true rfl) (Nat.le_of_ble_eq_true rfl) (Nat.le_of_ble_eq_true rfl) dX1_tell_98 rfl ?_
      cases hf
      exact zr_lv [] rfl hj18
    · rw [if_pos hc] at hf
      refine zr_bipush (-2) dX1_tell_87 (by decide) ?_
      refine zr_goto 101 dX1_tell_89 (by decide) ?_
      cases hf
      exact zr_lv [] rfl hj18
theorem zl_194 : Cond.methodLink RX2 3 Lib.objectInit ∈ zt := zt_at 244 (by decide +kernel)
theorem zl_195 : Cond.fieldLink RX2 9 "TwoEchoes$Day" "act" "[I" ∈ zt := zt_at 249 (by decide +kernel)
theorem zl_196 : Cond.fieldLink RX2 15 "TwoEchoes$Day" "first" "[I" ∈ zt := zt_at 251 (by decide +kernel)
theorem zl_197 : Cond.fieldLink RX2 18 "TwoEchoes$Day" "second" "[I" ∈ zt := zt_at 253 (by decide +kernel)
theorem dX2_init_0 : decode cX2_init 0 = .ok (.aload_n 0, 1) := by decide +kernel
theorem dX2_init_1 : decode cX2_init 1 = .ok (.invokespecial 3, 3) := by decide +kernel
theorem dX2_init_4 : decode cX2_init 4 = .ok (.aload_n 0, 1) := by decide +kernel
theorem dX2_init_5 : decode cX2_init 5 = .ok (.bipush 40, 2) := by decide +kernel
theorem dX2_init_7 : decode cX2_init 7 = .ok (.newarray .int, 2) := by decide +kernel
theorem dX2_init_9 : decode cX2_init 9 = .ok (.putfield 9, 3) := by decide +kernel
theorem dX2_init_12 : decode cX2_init 12 = .ok (.aload_n 0, 1) := by decide +kernel
theorem dX2_init_13 : decode cX2_init 13 = .ok (.bipush 40, 2) := by decide +kernel
theorem dX2_init_15 : decode cX2_init 15 = .ok (.newarray .int, 2) := by decide +kernel
theorem dX2_init_17 : decode cX2_init 17 = .ok (.putfield 15, 3) := by decide +kernel
theorem dX2_init_20 : decode cX2_init 20 = .ok (.aload_n 0, 1) := by decide +kernel
theorem dX2_init_21 : decode cX2_init 21 = .ok (.bipush 40, 2) := by decide +kernel
theorem dX2_init_23 : decode cX2_init 23 = .ok (.newarray .int, 2) := by decide +kernel
theorem dX2_init_25 : decode cX2_init 25 = .ok (.putfield 18, 3) := by decide +kernel
theorem dX2_init_28 : decode cX2_init 28 = .ok (.return_, 1) := by decide +kernel
noncomputable def fX2_init (μ : zM) (x0 : Nat) : Option (zM) :=
  zb1 (some (zm_nw μ (.inl (0, 40, .inl (fun _ => 0))))) fun m1 =>
  zb1 (zm_p m1 2 x0 1 (.ref μ.2.1)) fun m3 =>
  zb1 (some (zm_nw m3 (.inl (0, 40, .inl (fun _ => 0))))) fun m5 =>
  zb1 (zm_p m5 2 x0 2 (.ref m3.2.1)) fun m7 =>
  zb1 (some (zm_nw m7 (.inl (0, 40, .inl (fun _ => 0))))) fun m9 =>
  zb1 (zm_p m9 2 x0 3 (.ref m7.2.1)) fun m11 =>
  some m11
set_option maxHeartbeats 4000000 in
set_option maxRecDepth 100000 in
theorem cX2_init_ok {μ : zM} {x0 : Nat} {mo : zM} (hf : fX2_init μ x0 = some mo) : zC yX2_init cX2_init 1 (none) 1 3 120 [.ref x0] μ (none) mo := by
  unfold fX2_init at hf
  refine zC.of (by decide) (Nat.le_of_ble_eq_true rfl) (fun K hin => ?_)
  replace hin := hin rfl
  show zz K cX2_init (1, RX2, none, 1, 3, 120, none, mo) 0 0 0 [(0, .ref x0)] [] μ
  refine zr_aload_n 0 dX2_init_0 rfl ?_
  refine zr_objInit zl_194 zl_1 zl_2 (Nat.le_of_ble_eq_true rfl) (Nat.le_of_ble_eq_true rfl) dX2_init_1 ?_
  refine zr_aload_n 0 dX2_init_4 rfl ?_
  refine zr_bipush 40 dX2_init_5 (by decide) ?_
  refine zr_newa (t := 0) (N := 40) (atype := .int) (by decide) rfl zl_3 (by decide) (by decide) (by decide) (Nat.le_of_ble_eq_true rfl) (Nat.le_of_ble_eq_true rfl) dX2_init_7 ?_
  replace hf := zb1_s hf
  obtain ⟨m1, h2, hf⟩ := hf
  obtain rfl := Option.some.inj h2
  replace hf := zb1_s hf
  obtain ⟨m3, h4, hf⟩ := hf
  refine zr_putF h4 hin rfl zk2 (by decide) zl_195 rfl rfl rfl dX2_init_9 ?_
  refine zr_aload_n 0 dX2_init_12 rfl ?_
  refine zr_bipush 40 dX2_init_13 (by decide) ?_
  refine zr_newa (t := 0) (N := 40) (atype := .int) (by decide) rfl zl_3 (by decide) (by decide) (by decide) (Nat.le_of_ble_eq_true rfl) (Nat.le_of_ble_eq_true rfl) dX2_init_15 ?_
  replace hf := zb1_s hf
  obtain ⟨m5, h6, hf⟩ := hf
  obtain rfl := Option.some.inj h6
  replace hf := zb1_s hf
  obtain ⟨m7, h8, hf⟩ := hf
  refine zr_putF h8 hin rfl zk2 (by decide) zl_196 rfl rfl rfl dX2_init_17 ?_
  refine zr_aload_n 0 dX2_init_20 rfl ?_
  refine zr_bipush 40 dX2_init_21 (by decide) ?_
  refine zr_newa (t := 0) (N := 40) (atype := .int) (by decide) rfl zl_3 (by decide) (by decide) (by decide) (Nat.le_of_ble_eq_true rfl) (Nat.le_of_ble_eq_true rfl) dX2_init_23 ?_
  replace hf := zb1_s hf
  obtain ⟨m9, h10, hf⟩ := hf
  obtain rfl := Option.some.inj h10
  replace hf := zb1_s hf
  obtain ⟨m11, h12, hf⟩ := hf
  refine zr_putF h12 hin rfl zk2 (by decide) zl_197 rfl rfl rfl dX2_init_25 ?_
  cases hf
  exact zr_vret dX2_init_28
theorem zl_198 : Cond.fieldLink RX2 21 "TwoEchoes$Day" "deeds" "I" ∈ zt := zt_at 245 (by decide +kernel)
theorem dX2_clear_0 : decode cX2_clear 0 = .ok (.aload_n 0, 1) := by decide +kernel
theorem dX2_clear_1 : decode cX2_clear 1 = .ok (.iconst 0, 1) := by decide +kernel
theorem dX2_clear_2 : decode cX2_clear 2 = .ok (.putfield 21, 3) := by decide +kernel
theorem dX2_clear_5 : decode cX2_clear 5 = .ok (.return_, 1) := by decide +kernel
noncomputable def fX2_clear (μ : zM) (x0 : Nat) : Option (zM) := zgd (zm_ck μ 2 x0) <|
  zb1 (zm_p μ 2 x0 0 (.int 0)) fun m1 =>
  some m1
theorem fX2_clear_ck {μ : zM} {x0 : Nat} {z : zM} (h : fX2_clear μ x0 = some z) : zm_ck μ 2 x0 = true := (zgd_s h).1
set_option maxHeartbeats 4000000 in
set_option maxRecDepth 100000 in
theorem cX2_clear_ok {μ : zM} {x0 : Nat} {mo : zM} (hf : fX2_clear μ x0 = some mo) : zC yX2_clear cX2_clear 1 (none) 0 0 0 [.ref x0] μ (none) mo := by
  replace hf := (zgd_s hf).2
  refine zC.of (by decide) (Nat.le_of_ble_eq_true rfl) (fun K hin => ?_)
  clear hin
  show zz K cX2_clear (1, RX2, none, 0, 0, 0, none, mo) 0 0 0 [(0, .ref x0)] [] μ
  refine zr_aload_n 0 dX2_clear_0 rfl ?_
  refine zr_iconst 0 dX2_clear_1 (by decide) ?_
  replace hf := zb1_s hf
  obtain ⟨m1, h2, hf⟩ := hf
  refine zr_put h2 zk2 (by decide) zl_198 rfl rfl rfl dX2_clear_2 ?_
  cases hf
  exact zr_vret dX2_clear_5
theorem zl_199 : Cond.methodLink RX2 25 arraycopyName ∈ zt := zt_at 743 (by decide +kernel)
theorem dX2_copyFrom_0 : decode cX2_copyFrom 0 = .ok (.aload_n 0, 1) := by decide +kernel
theorem dX2_copyFrom_1 : decode cX2_copyFrom 1 = .ok (.aload_n 1, 1) := by decide +kernel
theorem dX2_copyFrom_2 : decode cX2_copyFrom 2 = .ok (.getfield 21, 3) := by decide +kernel
theorem dX2_copyFrom_5 : decode cX2_copyFrom 5 = .ok (.putfield 21, 3) := by decide +kernel
theorem dX2_copyFrom_8 : decode cX2_copyFrom 8 = .ok (.aload_n 1, 1) := by decide +kernel
theorem dX2_copyFrom_9 : decode cX2_copyFrom 9 = .ok (.getfield 9, 3) := by decide +kernel
theorem dX2_copyFrom_12 : decode cX2_copyFrom 12 = .ok (.iconst 0, 1) := by decide +kernel
theorem dX2_copyFrom_13 : decode cX2_copyFrom 13 = .ok (.aload_n 0, 1) := by decide +kernel
theorem dX2_copyFrom_14 : decode cX2_copyFrom 14 = .ok (.getfield 9, 3) := by decide +kernel
theorem dX2_copyFrom_17 : decode cX2_copyFrom 17 = .ok (.iconst 0, 1) := by decide +kernel
theorem dX2_copyFrom_18 : decode cX2_copyFrom 18 = .ok (.bipush 40, 2) := by decide +kernel
theorem dX2_copyFrom_20 : decode cX2_copyFrom 20 = .ok (.invokestatic 25, 3) := by decide +kernel
theorem dX2_copyFrom_23 : decode cX2_copyFrom 23 = .ok (.aload_n 1, 1) := by decide +kernel
theorem dX2_copyFrom_24 : decode cX2_copyFrom 24 = .ok (.getfield 15, 3) := by decide +kernel
theorem dX2_copyFrom_27 : decode cX2_copyFrom 27 = .ok (.iconst 0, 1) := by decide +kernel
theorem dX2_copyFrom_28 : decode cX2_copyFrom 28 = .ok (.aload_n 0, 1) := by decide +kernel
theorem dX2_copyFrom_29 : decode cX2_copyFrom 29 = .ok (.getfield 15, 3) := by decide +kernel
theorem dX2_copyFrom_32 : decode cX2_copyFrom 32 = .ok (.iconst 0, 1) := by decide +kernel
theorem dX2_copyFrom_33 : decode cX2_copyFrom 33 = .ok (.bipush 40, 2) := by decide +kernel
theorem dX2_copyFrom_35 : decode cX2_copyFrom 35 = .ok (.invokestatic 25, 3) := by decide +kernel
theorem dX2_copyFrom_38 : decode cX2_copyFrom 38 = .ok (.aload_n 1, 1) := by decide +kernel
theorem dX2_copyFrom_39 : decode cX2_copyFrom 39 = .ok (.getfield 18, 3) := by decide +kernel
theorem dX2_copyFrom_42 : decode cX2_copyFrom 42 = .ok (.iconst 0, 1) := by decide +kernel
theorem dX2_copyFrom_43 : decode cX2_copyFrom 43 = .ok (.aload_n 0, 1) := by decide +kernel
theorem dX2_copyFrom_44 : decode cX2_copyFrom 44 = .ok (.getfield 18, 3) := by decide +kernel
theorem dX2_copyFrom_47 : decode cX2_copyFrom 47 = .ok (.iconst 0, 1) := by decide +kernel
theorem dX2_copyFrom_48 : decode cX2_copyFrom 48 = .ok (.bipush 40, 2) := by decide +kernel
theorem dX2_copyFrom_50 : decode cX2_copyFrom 50 = .ok (.invokestatic 25, 3) := by decide +kernel
theorem dX2_copyFrom_53 : decode cX2_copyFrom 53 = .ok (.return_, 1) := by decide +kernel
noncomputable def fX2_copyFrom (μ : zM) (x0 : Nat) (x1 : Nat) : Option (zM) := zgd (zm_ck μ 2 x0) <|
  zb1 (zm_gI μ 2 x1 0) fun v1 =>
  zb1 (zm_p μ 2 x0 0 (.int v1)) fun m3 =>
  zb1 (zm_gR m3 2 x1 1) fun v5 =>
  zb1 (zm_gR m3 2 x0 1) fun v7 =>
  zb1 (zm_cpy m3 0 v5 0 v7 0 40) fun m9 =>
  zb1 (zm_gR m9 2 x1 2) fun v11 =>
  zb1 (zm_gR m9 2 x0 2) fun v13 =>
  zb1 (zm_cpy m9 0 v11 0 v13 0 40) fun m15 =>
  zb1 (zm_gR m15 2 x1 3) fun v17 =>
  zb1 (zm_gR m15 2 x0 3) fun v19 =>
  zb1 (zm_cpy m15 0 v17 0 v19 0 40) fun m21 =>
  some m21
theorem fX2_copyFrom_ck {μ : zM} {x0 : Nat} {x1 : Nat} {z : zM} (h : fX2_copyFrom μ x0 x1 = some z) : zm_ck μ 2 x0 = true := (zgd_s h).1
set_option maxHeartbeats 4000000 in
set_option maxRecDepth 100000 in
theorem cX2_copyFrom_ok {μ : zM} {x0 : Nat} {x1 : Nat} {mo : zM} (hf : fX2_copyFrom μ x0 x1 = some mo) : zC yX2_copyFrom cX2_copyFrom 2 (none) 1 0 0 [.ref x0, .ref x1] μ (none) mo := by
  replace hf := (zgd_s hf).2
  refine zC.of (by decide) (Nat.le_of_ble_eq_true rfl) (fun K hin => ?_)
  clear hin
  show zz K cX2_copyFrom (2, RX2, none, 1, 0, 0, none, mo) 0 0 0 [(0, .ref x0), (1, .ref x1)] [] μ
  refine zr_aload_n 0 dX2_copyFrom_0 rfl ?_
  refine zr_aload_n 1 dX2_copyFrom_1 rfl ?_
  replace hf := zb1_s hf
  obtain ⟨v1, h2, hf⟩ := hf
  refine zr_get (zm_gI_g h2) zk2 (by decide) zl_198 dX2_copyFrom_2 ?_
  replace hf := zb1_s hf
  obtain ⟨m3, h4, hf⟩ := hf
  refine zr_put h4 zk2 (by decide) zl_198 rfl rfl rfl dX2_copyFrom_5 ?_
  refine zr_aload_n 1 dX2_copyFrom_8 rfl ?_
  replace hf := zb1_s hf
  obtain ⟨v5, h6, hf⟩ := hf
  refine zr_get (zm_gR_g h6) zk2 (by decide) zl_195 dX2_copyFrom_9 ?_
  refine zr_iconst 0 dX2_copyFrom_12 (by decide) ?_
  refine zr_aload_n 0 dX2_copyFrom_13 rfl ?_
  replace hf := zb1_s hf
  obtain ⟨v7, h8, hf⟩ := hf
  refine zr_get (zm_gR_g h8) zk2 (by decide) zl_195 dX2_copyFrom_14 ?_
  refine zr_iconst 0 dX2_copyFrom_17 (by decide) ?_
  refine zr_bipush 40 dX2_copyFrom_18 (by decide) ?_
  replace hf := zb1_s hf
  obtain ⟨m9, h10, hf⟩ := hf
  refine zr_cpy h10 (by decide) zl_199 zl_99 zl_100 zl_101 (Nat.le_of_ble_eq_true rfl) (Nat.le_of_ble_eq_true rfl) dX2_copyFrom_20 ?_
  refine zr_aload_n 1 dX2_copyFrom_23 rfl ?_
  replace hf := zb1_s hf
  obtain ⟨v11, h12, hf⟩ := hf
  refine zr_get (zm_gR_g h12) zk2 (by decide) zl_196 dX2_copyFrom_24 ?_
  refine zr_iconst 0 dX2_copyFrom_27 (by decide) ?_
  refine zr_aload_n 0 dX2_copyFrom_28 rfl ?_
  replace hf := zb1_s hf
  obtain ⟨v13, h14, hf⟩ := hf
  refine zr_get (zm_gR_g h14) zk2 (by decide) zl_196 dX2_copyFrom_29 ?_
  refine zr_iconst 0 dX2_copyFrom_32 (by decide) ?_
  refine zr_bipush 40 dX2_copyFrom_33 (by decide) ?_
  replace hf := zb1_s hf
  obtain ⟨m15, h16, hf⟩ := hf
  refine zr_cpy h16 (by decide) zl_199 zl_99 zl_100 zl_101 (Nat.le_of_ble_eq_true rfl) (Nat.le_of_ble_eq_true rfl) dX2_copyFrom_35 ?_
  refine zr_aload_n 1 dX2_copyFrom_38 rfl ?_
  replace hf := zb1_s hf
  obtain ⟨v17, h18, hf⟩ := hf
  refine zr_get (zm_gR_g h18) zk2 (by decide) zl_197 dX2_copyFrom_39 ?_
  refine zr_iconst 0 dX2_copyFrom_42 (by decide) ?_
  refine zr_aload_n 0 dX2_copyFrom_43 rfl ?_
  replace hf := zb1_s hf
  obtain ⟨v19, h20, hf⟩ := hf
  refine zr_get (zm_gR_g h20) zk2 (by decide) zl_197 dX2_copyFrom_44 ?_
  refine zr_iconst 0 dX2_copyFrom_47 (by decide) ?_
  refine zr_bipush 40 dX2_copyFrom_48 (by decide) ?_
  replace hf := zb1_s hf
  obtain ⟨m21, h22, hf⟩ := hf
  refine zr_cpy h22 (by decide) zl_199 zl_99 zl_100 zl_101 (Nat.le_of_ble_eq_true rfl) (Nat.le_of_ble_eq_true rfl) dX2_copyFrom_50 ?_
  cases hf
  exact zr_vret dX2_copyFrom_53
theorem dX2_add_0 : decode cX2_add 0 = .ok (.aload_n 0, 1) := by decide +kernel
theorem dX2_add_1 : decode cX2_add 1 = .ok (.getfield 21, 3) := by decide +kernel
theorem dX2_add_4 : decode cX2_add 4 = .ok (.bipush 40, 2) := by decide +kernel
theorem dX2_add_6 : decode cX2_add 6 = .ok (.if_icmp .lt 4, 3) := by decide +kernel
theorem dX2_add_9 : decode cX2_add 9 = .ok (.return_, 1) := by decide +kernel
theorem dX2_add_10 : decode cX2_add 10 = .ok (.aload_n 0, 1) := by decide +kernel
theorem dX2_add_11 : decode cX2_add 11 = .ok (.getfield 9, 3) := by decide +kernel
theorem dX2_add_14 : decode cX2_add 14 = .ok (.aload_n 0, 1) := by decide +kernel
theorem dX2_add_15 : decode cX2_add 15 = .ok (.getfield 21, 3) := by decide +kernel
theorem dX2_add_18 : decode cX2_add 18 = .ok (.iload_n 1, 1) := by decide +kernel
theorem dX2_add_19 : decode cX2_add 19 = .ok (.iastore, 1) := by decide +kernel
theorem dX2_add_20 : decode cX2_add 20 = .ok (.aload_n 0, 1) := by decide +kernel
theorem dX2_add_21 : decode cX2_add 21 = .ok (.getfield 15, 3) := by decide +kernel
theorem dX2_add_24 : decode cX2_add 24 = .ok (.aload_n 0, 1) := by decide +kernel
theorem dX2_add_25 : decode cX2_add 25 = .ok (.getfield 21, 3) := by decide +kernel
theorem dX2_add_28 : decode cX2_add 28 = .ok (.iload_n 2, 1) := by decide +kernel
theorem dX2_add_29 : decode cX2_add 29 = .ok (.iastore, 1) := by decide +kernel
theorem dX2_add_30 : decode cX2_add 30 = .ok (.aload_n 0, 1) := by decide +kernel
theorem dX2_add_31 : decode cX2_add 31 = .ok (.getfield 18, 3) := by decide +kernel
theorem dX2_add_34 : decode cX2_add 34 = .ok (.aload_n 0, 1) := by decide +kernel
theorem dX2_add_35 : decode cX2_add 35 = .ok (.getfield 21, 3) := by decide +kernel
theorem dX2_add_38 : decode cX2_add 38 = .ok (.iload_n 3, 1) := by decide +kernel
theorem dX2_add_39 : decode cX2_add 39 = .ok (.iastore, 1) := by decide +kernel
theorem dX2_add_40 : decode cX2_add 40 = .ok (.aload_n 0, 1) := by decide +kernel
theorem dX2_add_41 : decode cX2_add 41 = .ok (.dup, 1) := by decide +kernel
theorem dX2_add_42 : decode cX2_add 42 = .ok (.getfield 21, 3) := by decide +kernel
theorem dX2_add_45 : decode cX2_add 45 = .ok (.iconst 1, 1) := by decide +kernel
theorem dX2_add_46 : decode cX2_add 46 = .ok (.iadd, 1) := by decide +kernel
theorem dX2_add_47 : decode cX2_add 47 = .ok (.putfield 21, 3) := by decide +kernel
theorem dX2_add_50 : decode cX2_add 50 = .ok (.return_, 1) := by decide +kernel
noncomputable def fX2_add (μ : zM) (x0 : Nat) (x1 : Int32) (x2 : Int32) (x3 : Int32) : Option (zM) := zgd (zm_ck μ 2 x0) <|
  zb1 (zm_gI μ 2 x0 0) fun v1 =>
  if v1 < 40 then (
  zb1 (zm_gR μ 2 x0 1) fun v3 =>
  zb1 (zm_gI μ 2 x0 0) fun v5 =>
  zb1 (zm_sI μ 0 v3 v5 x1) fun m7 =>
  zb1 (zm_gR m7 2 x0 2) fun v9 =>
  zb1 (zm_gI m7 2 x0 0) fun v11 =>
  zb1 (zm_sI m7 0 v9 v11 x2) fun m13 =>
  zb1 (zm_gR m13 2 x0 3) fun v15 =>
  zb1 (zm_gI m13 2 x0 0) fun v17 =>
  zb1 (zm_sI m13 0 v15 v17 x3) fun m19 =>
  zb1 (zm_gI m19 2 x0 0) fun v21 =>
  zb1 (zm_p m19 2 x0 0 (.int (v21 + 1))) fun m23 =>
  some m23)
  else (
  some μ)
theorem fX2_add_ck {μ : zM} {x0 : Nat} {x1 : Int32} {x2 : Int32} {x3 : Int32} {z : zM} (h : fX2_add μ x0 x1 x2 x3 = some z) : zm_ck μ 2 x0 = true := (zgd_s h).1
set_option maxHeartbeats 4000000 in
set_option maxRecDepth 100000 in
theorem cX2_add_ok {μ : zM} {x0 : Nat} {x1 : Int32} {x2 : Int32} {x3 : Int32} {mo : zM} (hf : fX2_add μ x0 x1 x2 x3 = some mo) : zC yX2_add cX2_add 4 (none) 0 0 0 [.ref x0, .int x1, .int x2, .int x3] μ (none) mo := by
  replace hf := (zgd_s hf).2
  refine zC.of (by decide) (Nat.le_of_ble_eq_true rfl) (fun K hin => ?_)
  clear hin
  show zz K cX2_add (4, RX2, none, 0, 0, 0, none, mo) 0 0 0 [(0, .ref x0), (1, .int x1), (2, .int x2), (3, .int x3)] [] μ
  refine zr_aload_n 0 dX2_add_0 rfl ?_
  replace hf := zb1_s hf
  obtain ⟨v1, h2, hf⟩ := hf
  refine zr_get (zm_gI_g h2) zk2 (by decide) zl_198 dX2_add_1 ?_
  refine zr_bipush 40 dX2_add_4 (by decide) ?_
  refine zr_icmp_lt 10 dX2_add_6 (by decide) (fun hc => ?_) (fun hc => ?_)
  · rw [if_pos hc] at hf
    refine zr_aload_n 0 dX2_add_10 rfl ?_
    replace hf := zb1_s hf
    obtain ⟨v3, h4, hf⟩ := hf
    refine zr_get (zm_gR_g h4) zk2 (by decide) zl_195 dX2_add_11 ?_
    refine zr_aload_n 0 dX2_add_14 rfl ?_
    replace hf := zb1_s hf
    obtain ⟨v5, h6, hf⟩ := hf
    refine zr_get (zm_gI_g h6) zk2 (by decide) zl_198 dX2_add_15 ?_
    refine zr_iload_n 1 dX2_add_18 rfl ?_
    replace hf := zb1_s hf
    obtain ⟨m7, h8, hf⟩ := hf
    refine zr_iast h8 dX2_add_19 ?_
    refine zr_aload_n 0 dX2_add_20 rfl ?_
    replace hf := zb1_s hf
    obtain ⟨v9, h10, hf⟩ := hf
    refine zr_get (zm_gR_g h10) zk2 (by decide) zl_196 dX2_add_21 ?_
    refine zr_aload_n 0 dX2_add_24 rfl ?_
    replace hf := zb1_s hf
    obtain ⟨v11, h12, hf⟩ := hf
    refine zr_get (zm_gI_g h12) zk2 (by decide) zl_198 dX2_add_25 ?_
    refine zr_iload_n 2 dX2_add_28 rfl ?_
    replace hf := zb1_s hf
    obtain ⟨m13, h14, hf⟩ := hf
    refine zr_iast h14 dX2_add_29 ?_
    refine zr_aload_n 0 dX2_add_30 rfl ?_
    replace hf := zb1_s hf
    obtain ⟨v15, h16, hf⟩ := hf
    refine zr_get (zm_gR_g h16) zk2 (by decide) zl_197 dX2_add_31 ?_
    refine zr_aload_n 0 dX2_add_34 rfl ?_
    replace hf := zb1_s hf
    obtain ⟨v17, h18, hf⟩ := hf
    refine zr_get (zm_gI_g h18) zk2 (by decide) zl_198 dX2_add_35 ?_
    refine zr_iload_n 3 dX2_add_38 rfl ?_
    replace hf := zb1_s hf
    obtain ⟨m19, h20, hf⟩ := hf
    refine zr_iast h20 dX2_add_39 ?_
    refine zr_aload_n 0 dX2_add_40 rfl ?_
    refine zr_dup dX2_add_41 rfl ?_
    replace hf := zb1_s hf
    obtain ⟨v21, h22, hf⟩ := hf
    refine zr_get (zm_gI_g h22) zk2 (by decide) zl_198 dX2_add_42 ?_
    refine zr_iconst 1 dX2_add_45 (by decide) ?_
    refine zr_iadd dX2_add_46 ?_
    replace hf := zb1_s hf
    obtain ⟨m23, h24, hf⟩ := hf
    refine zr_put h24 zk2 (by decide) zl_198 rfl rfl rfl dX2_add_47 ?_
    cases hf
    exact zr_vret dX2_add_50
  · rw [if_neg hc] at hf
    cases hf
    exact zr_vret dX2_add_9
theorem dX2_tell_0 : decode cX2_tell 0 = .ok (.iload_n 1, 1) := by decide +kernel
theorem dX2_tell_1 : decode cX2_tell 1 = .ok (.iconst (-1), 1) := by decide +kernel
theorem dX2_tell_2 : decode cX2_tell 2 = .ok (.if_icmp .ne 17, 3) := by decide +kernel
theorem dX2_tell_5 : decode cX2_tell 5 = .ok (.iload_n 2, 1) := by decide +kernel
theorem dX2_tell_6 : decode cX2_tell 6 = .ok (.ifCond .ne 10, 3) := by decide +kernel
theorem dX2_tell_9 : decode cX2_tell 9 = .ok (.aload_n 0, 1) := by decide +kernel
theorem dX2_tell_10 : decode cX2_tell 10 = .ok (.getfield 21, 3) := by decide +kernel
theorem dX2_tell_13 : decode cX2_tell 13 = .ok (.goto 5, 3) := by decide +kernel
theorem dX2_tell_16 : decode cX2_tell 16 = .ok (.bipush (-2), 2) := by decide +kernel
theorem dX2_tell_18 : decode cX2_tell 18 = .ok (.ireturn, 1) := by decide +kernel
theorem dX2_tell_19 : decode cX2_tell 19 = .ok (.iload_n 1, 1) := by decide +kernel
theorem dX2_tell_20 : decode cX2_tell 20 = .ok (.ifCond .lt 11, 3) := by decide +kernel
theorem dX2_tell_23 : decode cX2_tell 23 = .ok (.iload_n 1, 1) := by decide +kernel
theorem dX2_tell_24 : decode cX2_tell 24 = .ok (.aload_n 0, 1) := by decide +kernel
theorem dX2_tell_25 : decode cX2_tell 25 = .ok (.getfield 21, 3) := by decide +kernel
theorem dX2_tell_28 : decode cX2_tell 28 = .ok (.if_icmp .lt 6, 3) := by decide +kernel
theorem dX2_tell_31 : decode cX2_tell 31 = .ok (.bipush (-2), 2) := by decide +kernel
theorem dX2_tell_33 : decode cX2_tell 33 = .ok (.ireturn, 1) := by decide +kernel
theorem dX2_tell_34 : decode cX2_tell 34 = .ok (.iload_n 2, 1) := by decide +kernel
theorem dX2_tell_35 : decode cX2_tell 35 = .ok (.tableswitch 46 0 2 #[25, 32, 39], 25) := by decide +kernel
theorem dX2_tell_60 : decode cX2_tell 60 = .ok (.aload_n 0, 1) := by decide +kernel
theorem dX2_tell_61 : decode cX2_tell 61 = .ok (.getfield 9, 3) := by decide +kernel
theorem dX2_tell_64 : decode cX2_tell 64 = .ok (.iload_n 1, 1) := by decide +kernel
theorem dX2_tell_65 : decode cX2_tell 65 = .ok (.iaload, 1) := by decide +kernel
theorem dX2_tell_66 : decode cX2_tell 66 = .ok (.ireturn, 1) := by decide +kernel
theorem dX2_tell_67 : decode cX2_tell 67 = .ok (.aload_n 0, 1) := by decide +kernel
theorem dX2_tell_68 : decode cX2_tell 68 = .ok (.getfield 15, 3) := by decide +kernel
theorem dX2_tell_71 : decode cX2_tell 71 = .ok (.iload_n 1, 1) := by decide +kernel
theorem dX2_tell_72 : decode cX2_tell 72 = .ok (.iaload, 1) := by decide +kernel
theorem dX2_tell_73 : decode cX2_tell 73 = .ok (.ireturn, 1) := by decide +kernel
theorem dX2_tell_74 : decode cX2_tell 74 = .ok (.aload_n 0, 1) := by decide +kernel
theorem dX2_tell_75 : decode cX2_tell 75 = .ok (.getfield 18, 3) := by decide +kernel
theorem dX2_tell_78 : decode cX2_tell 78 = .ok (.iload_n 1, 1) := by decide +kernel
theorem dX2_tell_79 : decode cX2_tell 79 = .ok (.iaload, 1) := by decide +kernel
theorem dX2_tell_80 : decode cX2_tell 80 = .ok (.ireturn, 1) := by decide +kernel
theorem dX2_tell_81 : decode cX2_tell 81 = .ok (.bipush (-2), 2) := by decide +kernel
theorem dX2_tell_83 : decode cX2_tell 83 = .ok (.ireturn, 1) := by decide +kernel
noncomputable def fX2_tell (μ : zM) (x0 : Nat) (x1 : Int32) (x2 : Int32) : Option (Int32) := zgd (zm_ck μ 2 x0) <|
  if x1 = (-1) then (
  zb1 (if x2 = 0 then (
  zb1 (zm_gI μ 2 x0 0) fun v20 =>
  some v20)
  else (
  some (-2)) : Option (Int32)) fun (s18 : Int32) =>
  some s18)
  else (
  if x1 < 0 then (
  some (-2))
  else (
  zb1 (zm_gI μ 2 x0 0) fun v1 =>
  if x1 < v1 then (
  if x2 = 0 then (
  zb1 (zm_gR μ 2 x0 1) fun v3 =>
  zb1 (zm_aI μ 0 v3 x1) fun v5 =>
  some v5)
  else (
  if x2 = 1 then (
  zb1 (zm_gR μ 2 x0 2) fun v8 =>
  zb1 (zm_aI μ 0 v8 x1) fun v10 =>
  some v10)
  else (
  if x2 = 2 then (
  zb1 (zm_gR μ 2 x0 3) fun v13 =>
  zb1 (zm_aI μ 0 v13 x1) fun v15 =>
  some v15)
  else (
  some (-2)))))
  else (
  some (-2))))
theorem fX2_tell_ck {μ : zM} {x0 : Nat} {x1 : Int32} {x2 : Int32} {z : Int32} (h : fX2_tell μ x0 x1 x2 = some z) : zm_ck μ 2 x0 = true := (zgd_s h).1
set_option maxHeartbeats 4000000 in
set_option maxRecDepth 100000 in
theorem cX2_tell_ok {μ : zM} {x0 : Nat} {x1 : Int32} {x2 : Int32} {r : Int32} (hf : fX2_tell μ x0 x1 x2 = some r) : zC yX2_tell cX2_tell 3 (some .int) 0 0 0 [.ref x0, .int x1, .int x2] μ (some (.int r)) μ := by
  replace hf := (zgd_s hf).2
  refine zC.of (by decide) (Nat.le_of_ble_eq_true rfl) (fun K hin => ?_)
  clear hin
  show zz K cX2_tell (3, RX2, some .int, 0, 0, 0, some (.int r), μ) 0 0 0 [(0, .ref x0), (1, .int x1), (2, .int x2)] [] μ
  refine zr_iload_n 1 dX2_tell_0 rfl ?_
  refine zr_iconst (-1) dX2_tell_1 (by decide) ?_
  refine zr_icmp_ne 19 dX2_tell_2 (by decide) (fun hc => ?_) (fun hc => ?_)
  · rw [if_neg hc] at hf
    refine zr_iload_n 1 dX2_tell_19 rfl ?_
    refine zr_if_lt 31 dX2_tell_20 (by decide) (fun hc => ?_) (fun hc => ?_)
    · rw [if_pos hc] at hf
      refine zr_bipush (-2) dX2_tell_31 (by decide) ?_
      cases hf
      exact zr_iret dX2_tell_33
    · rw [if_neg hc] at hf
      refine zr_iload_n 1 dX2_tell_23 rfl ?_
      refine zr_aload_n 0 dX2_tell_24 rfl ?_
      replace hf := zb1_s hf
      obtain ⟨v1, h2, hf⟩ := hf
      refine zr_get (zm_gI_g h2) zk2 (by decide) zl_198 dX2_tell_25 ?_
      refine zr_icmp_lt 34 dX2_tell_28 (by decide) (fun hc => ?_) (fun hc => ?_)
      · rw [if_pos hc] at hf
        refine zr_iload_n 2 dX2_tell_34 rfl ?_
        rcases zdec (x2 = 0) with hs7 | hs7
        · rw [if_pos hs7] at hf
          refine zr_tableIn (off := 25) 60 dX2_tell_35 (by rw [hs7]; decide) (by rw [hs7]; decide) (by rw [hs7]; rfl) (by decide) ?_
          refine zr_aload_n 0 dX2_tell_60 rfl ?_
          replace hf := zb1_s hf
          obtain ⟨v3, h4, hf⟩ := hf
          refine zr_get (zm_gR_g h4) zk2 (by decide) zl_195 dX2_tell_61 ?_
          refine zr_iload_n 1 dX2_tell_64 rfl ?_
          replace hf := zb1_s hf
          obtain ⟨v5, h6, hf⟩ := hf
          refine zr_iald h6 dX2_tell_65 ?_
          cases hf
          exact zr_iret dX2_tell_66
        rw [if_neg hs7] at hf
        rcases zdec (x2 = 1) with hs12 | hs12
        · rw [if_pos hs12] at hf
          refine zr_tableIn (off := 32) 67 dX2_tell_35 (by rw [hs12]; decide) (by rw [hs12]; decide) (by rw [hs12]; rfl) (by decide) ?_
          refine zr_aload_n 0 dX2_tell_67 rfl ?_
          replace hf := zb1_s hf
          obtain ⟨v8, h9, hf⟩ := hf
          refine zr_get (zm_gR_g h9) zk2 (by decide) zl_196 dX2_tell_68 ?_
          refine zr_iload_n 1 dX2_tell_71 rfl ?_
          replace hf := zb1_s hf
          obtain ⟨v10, h11, hf⟩ := hf
          refine zr_iald h11 dX2_tell_72 ?_
          cases hf
          exact zr_iret dX2_tell_73
        rw [if_neg hs12] at hf
        rcases zdec (x2 = 2) with hs17 | hs17
        · rw [if_pos hs17] at hf
          refine zr_tableIn (off := 39) 74 dX2_tell_35 (by rw [hs17]; decide) (by rw [hs17]; decide) (by rw [hs17]; rfl) (by decide) ?_
          refine zr_aload_n 0 dX2_tell_74 rfl ?_
          replace hf := zb1_s hf
          obtain ⟨v13, h14, hf⟩ := hf
          refine zr_get (zm_gR_g h14) zk2 (by decide) zl_197 dX2_tell_75 ?_
          refine zr_iload_n 1 dX2_tell_78 rfl ?_
          replace hf := zb1_s hf
          obtain ⟨v15, h16, hf⟩ := hf
          refine zr_iald h16 dX2_tell_79 ?_
          cases hf
          exact zr_iret dX2_tell_80
        rw [if_neg hs17] at hf
        refine zr_tableOut 81 dX2_tell_35 (by simp only [← Int32.toInt_inj] at hs7 hs12 hs17; simp at hs7 hs12 hs17; omega) (by decide) ?_
        refine zr_bipush (-2) dX2_tell_81 (by decide) ?_
        cases hf
        exact zr_iret dX2_tell_83
      · rw [if_neg hc] at hf
        refine zr_bipush (-2) dX2_tell_31 (by decide) ?_
        cases hf
        exact zr_iret dX2_tell_33
  · rw [if_pos hc] at hf
    refine zr_iload_n 2 dX2_tell_5 rfl ?_
    replace hf := zb1_s hf
    obtain ⟨s18, hg, hf⟩ := hf
    have hj19 : zz K cX2_tell (3, RX2, some .int, 0, 0, 0, some (.int r), μ) 0 0 18 [] [.int s18] μ := by
      cases hf
      exact zr_iret dX2_tell_18
    clear hf
    have hf := hg
    clear hg
    refine zr_if_ne 16 dX2_tell_6 (by decide) (fun hc => ?_) (fun hc => ?_)
    · rw [if_neg hc] at hf
      refine zr_bipush (-2) dX2_tell_16 (by decide) ?_
      cases hf
      exact zr_lv [] rfl hj19
    · rw [if_pos hc] at hf
      refine zr_aload_n 0 dX2_tell_9 rfl ?_
      replace hf := zb1_s hf
      obtain ⟨v20, h21, hf⟩ := hf
      refine zr_get (zm_gI_g h21) zk2 (by decide) zl_198 dX2_tell_10 ?_
      refine zr_goto 18 dX2_tell_13 (by decide) ?_
      cases hf
      exact zr_lv [] rfl hj19
theorem zl_200 : Cond.methodLink RX3 3 Lib.objectInit ∈ zt := zt_at 270 (by decide +kernel)
theorem zl_201 : Cond.fieldLink RX3 9 "TwoEchoes$Lesson" "spoken" "[I" ∈ zt := zt_at 275 (by decide +kernel)
theorem zl_202 : Cond.fieldLink RX3 15 "TwoEchoes$Lesson" "came" "[I" ∈ zt := zt_at 276 (by decide +kernel)
theorem dX3_init_0 : decode cX3_init 0 = .ok (.aload_n 0, 1) := by decide +kernel
theorem dX3_init_1 : decode cX3_init 1 = .ok (.invokespecial 3, 3) := by decide +kernel
theorem dX3_init_4 : decode cX3_init 4 = .ok (.aload_n 0, 1) := by decide +kernel
theorem dX3_init_5 : decode cX3_init 5 = .ok (.bipush 10, 2) := by decide +kernel
theorem dX3_init_7 : decode cX3_init 7 = .ok (.newarray .int, 2) := by decide +kernel
theorem dX3_init_9 : decode cX3_init 9 = .ok (.putfield 9, 3) := by decide +kernel
theorem dX3_init_12 : decode cX3_init 12 = .ok (.aload_n 0, 1) := by decide +kernel
theorem dX3_init_13 : decode cX3_init 13 = .ok (.bipush 10, 2) := by decide +kernel
theorem dX3_init_15 : decode cX3_init 15 = .ok (.newarray .int, 2) := by decide +kernel
theorem dX3_init_17 : decode cX3_init 17 = .ok (.putfield 15, 3) := by decide +kernel
theorem dX3_init_20 : decode cX3_init 20 = .ok (.return_, 1) := by decide +kernel
noncomputable def fX3_init (μ : zM) (x0 : Nat) : Option (zM) :=
  zb1 (some (zm_nw μ (.inl (0, 10, .inl (fun _ => 0))))) fun m1 =>
  zb1 (zm_p m1 3 x0 2 (.ref μ.2.1)) fun m3 =>
  zb1 (some (zm_nw m3 (.inl (0, 10, .inl (fun _ => 0))))) fun m5 =>
  zb1 (zm_p m5 3 x0 3 (.ref m3.2.1)) fun m7 =>
  some m7
set_option maxHeartbeats 4000000 in
set_option maxRecDepth 100000 in
theorem cX3_init_ok {μ : zM} {x0 : Nat} {mo : zM} (hf : fX3_init μ x0 = some mo) : zC yX3_init cX3_init 1 (none) 1 2 20 [.ref x0] μ (none) mo := by
  unfold fX3_init at hf
  refine zC.of (by decide) (Nat.le_of_ble_eq_true rfl) (fun K hin => ?_)
  replace hin := hin rfl
  show zz K cX3_init (1, RX3, none, 1, 2, 20, none, mo) 0 0 0 [(0, .ref x0)] [] μ
  refine zr_aload_n 0 dX3_init_0 rfl ?_
  refine zr_objInit zl_200 zl_1 zl_2 (Nat.le_of_ble_eq_true rfl) (Nat.le_of_ble_eq_true rfl) dX3_init_1 ?_
  refine zr_aload_n 0 dX3_init_4 rfl ?_
  refine zr_bipush 10 dX3_init_5 (by decide) ?_
  refine zr_newa (t := 0) (N := 10) (atype := .int) (by decide) rfl zl_3 (by decide) (by decide) (by decide) (Nat.le_of_ble_eq_true rfl) (Nat.le_of_ble_eq_true rfl) dX3_init_7 ?_
  replace hf := zb1_s hf
  obtain ⟨m1, h2, hf⟩ := hf
  obtain rfl := Option.some.inj h2
  replace hf := zb1_s hf
  obtain ⟨m3, h4, hf⟩ := hf
  refine zr_putF h4 hin rfl zk3 (by decide) zl_201 rfl rfl rfl dX3_init_9 ?_
  refine zr_aload_n 0 dX3_init_12 rfl ?_
  refine zr_bipush 10 dX3_init_13 (by decide) ?_
  refine zr_newa (t := 0) (N := 10) (atype := .int) (by decide) rfl zl_3 (by decide) (by decide) (by decide) (Nat.le_of_ble_eq_true rfl) (Nat.le_of_ble_eq_true rfl) dX3_init_15 ?_
  replace hf := zb1_s hf
  obtain ⟨m5, h6, hf⟩ := hf
  obtain rfl := Option.some.inj h6
  replace hf := zb1_s hf
  obtain ⟨m7, h8, hf⟩ := hf
  refine zr_putF h8 hin rfl zk3 (by decide) zl_202 rfl rfl rfl dX3_init_17 ?_
  cases hf
  exact zr_vret dX3_init_20
theorem zl_203 : Cond.fieldLink RX3 18 "TwoEchoes$Lesson" "lies" "I" ∈ zt := zt_at 271 (by decide +kernel)
theorem zl_204 : Cond.fieldLink RX3 22 "TwoEchoes$Lesson" "pairs" "I" ∈ zt := zt_at 273 (by decide +kernel)
theorem dX3_clear_0 : decode cX3_clear 0 = .ok (.aload_n 0, 1) := by decide +kernel
theorem dX3_clear_1 : decode cX3_clear 1 = .ok (.iconst 0, 1) := by decide +kernel
theorem dX3_clear_2 : decode cX3_clear 2 = .ok (.putfield 18, 3) := by decide +kernel
theorem dX3_clear_5 : decode cX3_clear 5 = .ok (.aload_n 0, 1) := by decide +kernel
theorem dX3_clear_6 : decode cX3_clear 6 = .ok (.iconst 0, 1) := by decide +kernel
theorem dX3_clear_7 : decode cX3_clear 7 = .ok (.putfield 22, 3) := by decide +kernel
theorem dX3_clear_10 : decode cX3_clear 10 = .ok (.return_, 1) := by decide +kernel
noncomputable def fX3_clear (μ : zM) (x0 : Nat) : Option (zM) := zgd (zm_ck μ 3 x0) <|
  zb1 (zm_p μ 3 x0 0 (.int 0)) fun m1 =>
  zb1 (zm_p m1 3 x0 1 (.int 0)) fun m3 =>
  some m3
theorem fX3_clear_ck {μ : zM} {x0 : Nat} {z : zM} (h : fX3_clear μ x0 = some z) : zm_ck μ 3 x0 = true := (zgd_s h).1
set_option maxHeartbeats 4000000 in
set_option maxRecDepth 100000 in
theorem cX3_clear_ok {μ : zM} {x0 : Nat} {mo : zM} (hf : fX3_clear μ x0 = some mo) : zC yX3_clear cX3_clear 1 (none) 0 0 0 [.ref x0] μ (none) mo := by
  replace hf := (zgd_s hf).2
  refine zC.of (by decide) (Nat.le_of_ble_eq_true rfl) (fun K hin => ?_)
  clear hin
  show zz K cX3_clear (1, RX3, none, 0, 0, 0, none, mo) 0 0 0 [(0, .ref x0)] [] μ
  refine zr_aload_n 0 dX3_clear_0 rfl ?_
  refine zr_iconst 0 dX3_clear_1 (by decide) ?_
  replace hf := zb1_s hf
  obtain ⟨m1, h2, hf⟩ := hf
  refine zr_put h2 zk3 (by decide) zl_203 rfl rfl rfl dX3_clear_2 ?_
  refine zr_aload_n 0 dX3_clear_5 rfl ?_
  refine zr_iconst 0 dX3_clear_6 (by decide) ?_
  replace hf := zb1_s hf
  obtain ⟨m3, h4, hf⟩ := hf
  refine zr_put h4 zk3 (by decide) zl_204 rfl rfl rfl dX3_clear_7 ?_
  cases hf
  exact zr_vret dX3_clear_10
theorem zl_205 : Cond.methodLink RX3 25 arraycopyName ∈ zt := zt_at 748 (by decide +kernel)
theorem dX3_copyFrom_0 : decode cX3_copyFrom 0 = .ok (.aload_n 0, 1) := by decide +kernel
theorem dX3_copyFrom_1 : decode cX3_copyFrom 1 = .ok (.aload_n 1, 1) := by decide +kernel
theorem dX3_copyFrom_2 : decode cX3_copyFrom 2 = .ok (.getfield 18, 3) := by decide +kernel
theorem dX3_copyFrom_5 : decode cX3_copyFrom 5 = .ok (.putfield 18, 3) := by decide +kernel
theorem dX3_copyFrom_8 : decode cX3_copyFrom 8 = .ok (.aload_n 0, 1) := by decide +kernel
theorem dX3_copyFrom_9 : decode cX3_copyFrom 9 = .ok (.aload_n 1, 1) := by decide +kernel
theorem dX3_copyFrom_10 : decode cX3_copyFrom 10 = .ok (.getfield 22, 3) := by decide +kernel
theorem dX3_copyFrom_13 : decode cX3_copyFrom 13 = .ok (.putfield 22, 3) := by decide +kernel
theorem dX3_copyFrom_16 : decode cX3_copyFrom 16 = .ok (.aload_n 1, 1) := by decide +kernel
theorem dX3_copyFrom_17 : decode cX3_copyFrom 17 = .ok (.getfield 9, 3) := by decide +kernel
theorem dX3_copyFrom_20 : decode cX3_copyFrom 20 = .ok (.iconst 0, 1) := by decide +kernel
theorem dX3_copyFrom_21 : decode cX3_copyFrom 21 = .ok (.aload_n 0, 1) := by decide +kernel
theorem dX3_copyFrom_22 : decode cX3_copyFrom 22 = .ok (.getfield 9, 3) := by decide +kernel
theorem dX3_copyFrom_25 : decode cX3_copyFrom 25 = .ok (.iconst 0, 1) := by decide +kernel
theorem dX3_copyFrom_26 : decode cX3_copyFrom 26 = .ok (.bipush 10, 2) := by decide +kernel
theorem dX3_copyFrom_28 : decode cX3_copyFrom 28 = .ok (.invokestatic 25, 3) := by decide +kernel
theorem dX3_copyFrom_31 : decode cX3_copyFrom 31 = .ok (.aload_n 1, 1) := by decide +kernel
theorem dX3_copyFrom_32 : decode cX3_copyFrom 32 = .ok (.getfield 15, 3) := by decide +kernel
theorem dX3_copyFrom_35 : decode cX3_copyFrom 35 = .ok (.iconst 0, 1) := by decide +kernel
theorem dX3_copyFrom_36 : decode cX3_copyFrom 36 = .ok (.aload_n 0, 1) := by decide +kernel
theorem dX3_copyFrom_37 : decode cX3_copyFrom 37 = .ok (.getfield 15, 3) := by decide +kernel
theorem dX3_copyFrom_40 : decode cX3_copyFrom 40 = .ok (.iconst 0, 1) := by decide +kernel
theorem dX3_copyFrom_41 : decode cX3_copyFrom 41 = .ok (.bipush 10, 2) := by decide +kernel
theorem dX3_copyFrom_43 : decode cX3_copyFrom 43 = .ok (.invokestatic 25, 3) := by decide +kernel
theorem dX3_copyFrom_46 : decode cX3_copyFrom 46 = .ok (.return_, 1) := by decide +kernel
noncomputable def fX3_copyFrom (μ : zM) (x0 : Nat) (x1 : Nat) : Option (zM) := zgd (zm_ck μ 3 x0) <|
  zb1 (zm_gI μ 3 x1 0) fun v1 =>
  zb1 (zm_p μ 3 x0 0 (.int v1)) fun m3 =>
  zb1 (zm_gI m3 3 x1 1) fun v5 =>
  zb1 (zm_p m3 3 x0 1 (.int v5)) fun m7 =>
  zb1 (zm_gR m7 3 x1 2) fun v9 =>
  zb1 (zm_gR m7 3 x0 2) fun v11 =>
  zb1 (zm_cpy m7 0 v9 0 v11 0 10) fun m13 =>
  zb1 (zm_gR m13 3 x1 3) fun v15 =>
  zb1 (zm_gR m13 3 x0 3) fun v17 =>
  zb1 (zm_cpy m13 0 v15 0 v17 0 10) fun m19 =>
  some m19
theorem fX3_copyFrom_ck {μ : zM} {x0 : Nat} {x1 : Nat} {z : zM} (h : fX3_copyFrom μ x0 x1 = some z) : zm_ck μ 3 x0 = true := (zgd_s h).1
set_option maxHeartbeats 4000000 in
set_option maxRecDepth 100000 in
theorem cX3_copyFrom_ok {μ : zM} {x0 : Nat} {x1 : Nat} {mo : zM} (hf : fX3_copyFrom μ x0 x1 = some mo) : zC yX3_copyFrom cX3_copyFrom 2 (none) 1 0 0 [.ref x0, .ref x1] μ (none) mo := by
  replace hf := (zgd_s hf).2
  refine zC.of (by decide) (Nat.le_of_ble_eq_true rfl) (fun K hin => ?_)
  clear hin
  show zz K cX3_copyFrom (2, RX3, none, 1, 0, 0, none, mo) 0 0 0 [(0, .ref x0), (1, .ref x1)] [] μ
  refine zr_aload_n 0 dX3_copyFrom_0 rfl ?_
  refine zr_aload_n 1 dX3_copyFrom_1 rfl ?_
  replace hf := zb1_s hf
  obtain ⟨v1, h2, hf⟩ := hf
  refine zr_get (zm_gI_g h2) zk3 (by decide) zl_203 dX3_copyFrom_2 ?_
  replace hf := zb1_s hf
  obtain ⟨m3, h4, hf⟩ := hf
  refine zr_put h4 zk3 (by decide) zl_203 rfl rfl rfl dX3_copyFrom_5 ?_
  refine zr_aload_n 0 dX3_copyFrom_8 rfl ?_
  refine zr_aload_n 1 dX3_copyFrom_9 rfl ?_
  replace hf := zb1_s hf
  obtain ⟨v5, h6, hf⟩ := hf
  refine zr_get (zm_gI_g h6) zk3 (by decide) zl_204 dX3_copyFrom_10 ?_
  replace hf := zb1_s hf
  obtain ⟨m7, h8, hf⟩ := hf
  refine zr_put h8 zk3 (by decide) zl_204 rfl rfl rfl dX3_copyFrom_13 ?_
  refine zr_aload_n 1 dX3_copyFrom_16 rfl ?_
  replace hf := zb1_s hf
  obtain ⟨v9, h10, hf⟩ := hf
  refine zr_get (zm_gR_g h10) zk3 (by decide) zl_201 dX3_copyFrom_17 ?_
  refine zr_iconst 0 dX3_copyFrom_20 (by decide) ?_
  refine zr_aload_n 0 dX3_copyFrom_21 rfl ?_
  replace hf := zb1_s hf
  obtain ⟨v11, h12, hf⟩ := hf
  refine zr_get (zm_gR_g h12) zk3 (by decide) zl_201 dX3_copyFrom_22 ?_
  refine zr_iconst 0 dX3_copyFrom_25 (by decide) ?_
  refine zr_bipush 10 dX3_copyFrom_26 (by decide) ?_
  replace hf := zb1_s hf
  obtain ⟨m13, h14, hf⟩ := hf
  refine zr_cpy h14 (by decide) zl_205 zl_99 zl_100 zl_101 (Nat.le_of_ble_eq_true rfl) (Nat.le_of_ble_eq_true rfl) dX3_copyFrom_28 ?_
  refine zr_aload_n 1 dX3_copyFrom_31 rfl ?_
  replace hf := zb1_s hf
  obtain ⟨v15, h16, hf⟩ := hf
  refine zr_get (zm_gR_g h16) zk3 (by decide) zl_202 dX3_copyFrom_32 ?_
  refine zr_iconst 0 dX3_copyFrom_35 (by decide) ?_
  refine zr_aload_n 0 dX3_copyFrom_36 rfl ?_
  replace hf := zb1_s hf
  obtain ⟨v17, h18, hf⟩ := hf
  refine zr_get (zm_gR_g h18) zk3 (by decide) zl_202 dX3_copyFrom_37 ?_
  refine zr_iconst 0 dX3_copyFrom_40 (by decide) ?_
  refine zr_bipush 10 dX3_copyFrom_41 (by decide) ?_
  replace hf := zb1_s hf
  obtain ⟨m19, h20, hf⟩ := hf
  refine zr_cpy h20 (by decide) zl_205 zl_99 zl_100 zl_101 (Nat.le_of_ble_eq_true rfl) (Nat.le_of_ble_eq_true rfl) dX3_copyFrom_43 ?_
  cases hf
  exact zr_vret dX3_copyFrom_46
theorem dX3_add_0 : decode cX3_add 0 = .ok (.aload_n 0, 1) := by decide +kernel
theorem dX3_add_1 : decode cX3_add 1 = .ok (.getfield 22, 3) := by decide +kernel
theorem dX3_add_4 : decode cX3_add 4 = .ok (.bipush 10, 2) := by decide +kernel
theorem dX3_add_6 : decode cX3_add 6 = .ok (.if_icmp .lt 4, 3) := by decide +kernel
theorem dX3_add_9 : decode cX3_add 9 = .ok (.return_, 1) := by decide +kernel
theorem dX3_add_10 : decode cX3_add 10 = .ok (.aload_n 0, 1) := by decide +kernel
theorem dX3_add_11 : decode cX3_add 11 = .ok (.getfield 9, 3) := by decide +kernel
theorem dX3_add_14 : decode cX3_add 14 = .ok (.aload_n 0, 1) := by decide +kernel
theorem dX3_add_15 : decode cX3_add 15 = .ok (.getfield 22, 3) := by decide +kernel
theorem dX3_add_18 : decode cX3_add 18 = .ok (.iload_n 1, 1) := by decide +kernel
theorem dX3_add_19 : decode cX3_add 19 = .ok (.iastore, 1) := by decide +kernel
theorem dX3_add_20 : decode cX3_add 20 = .ok (.aload_n 0, 1) := by decide +kernel
theorem dX3_add_21 : decode cX3_add 21 = .ok (.getfield 15, 3) := by decide +kernel
theorem dX3_add_24 : decode cX3_add 24 = .ok (.aload_n 0, 1) := by decide +kernel
theorem dX3_add_25 : decode cX3_add 25 = .ok (.getfield 22, 3) := by decide +kernel
theorem dX3_add_28 : decode cX3_add 28 = .ok (.iload_n 2, 1) := by decide +kernel
theorem dX3_add_29 : decode cX3_add 29 = .ok (.iastore, 1) := by decide +kernel
theorem dX3_add_30 : decode cX3_add 30 = .ok (.aload_n 0, 1) := by decide +kernel
theorem dX3_add_31 : decode cX3_add 31 = .ok (.dup, 1) := by decide +kernel
theorem dX3_add_32 : decode cX3_add 32 = .ok (.getfield 22, 3) := by decide +kernel
theorem dX3_add_35 : decode cX3_add 35 = .ok (.iconst 1, 1) := by decide +kernel
theorem dX3_add_36 : decode cX3_add 36 = .ok (.iadd, 1) := by decide +kernel
theorem dX3_add_37 : decode cX3_add 37 = .ok (.putfield 22, 3) := by decide +kernel
theorem dX3_add_40 : decode cX3_add 40 = .ok (.return_, 1) := by decide +kernel
noncomputable def fX3_add (μ : zM) (x0 : Nat) (x1 : Int32) (x2 : Int32) : Option (zM) := zgd (zm_ck μ 3 x0) <|
  zb1 (zm_gI μ 3 x0 1) fun v1 =>
  if v1 < 10 then (
  zb1 (zm_gR μ 3 x0 2) fun v3 =>
  zb1 (zm_gI μ 3 x0 1) fun v5 =>
  zb1 (zm_sI μ 0 v3 v5 x1) fun m7 =>
  zb1 (zm_gR m7 3 x0 3) fun v9 =>
  zb1 (zm_gI m7 3 x0 1) fun v11 =>
  zb1 (zm_sI m7 0 v9 v11 x2) fun m13 =>
  zb1 (zm_gI m13 3 x0 1) fun v15 =>
  zb1 (zm_p m13 3 x0 1 (.int (v15 + 1))) fun m17 =>
  some m17)
  else (
  some μ)
theorem fX3_add_ck {μ : zM} {x0 : Nat} {x1 : Int32} {x2 : Int32} {z : zM} (h : fX3_add μ x0 x1 x2 = some z) : zm_ck μ 3 x0 = true := (zgd_s h).1
set_option maxHeartbeats 4000000 in
set_option maxRecDepth 100000 in
theorem cX3_add_ok {μ : zM} {x0 : Nat} {x1 : Int32} {x2 : Int32} {mo : zM} (hf : fX3_add μ x0 x1 x2 = some mo) : zC yX3_add cX3_add 3 (none) 0 0 0 [.ref x0, .int x1, .int x2] μ (none) mo := by
  replace hf := (zgd_s hf).2
  refine zC.of (by decide) (Nat.le_of_ble_eq_true rfl) (fun K hin => ?_)
  clear hin
  show zz K cX3_add (3, RX3, none, 0, 0, 0, none, mo) 0 0 0 [(0, .ref x0), (1, .int x1), (2, .int x2)] [] μ
  refine zr_aload_n 0 dX3_add_0 rfl ?_
  replace hf := zb1_s hf
  obtain ⟨v1, h2, hf⟩ := hf
  refine zr_get (zm_gI_g h2) zk3 (by decide) zl_204 dX3_add_1 ?_
  refine zr_bipush 10 dX3_add_4 (by decide) ?_
  refine zr_icmp_lt 10 dX3_add_6 (by decide) (fun hc => ?_) (fun hc => ?_)
  · rw [if_pos hc] at hf
    refine zr_aload_n 0 dX3_add_10 rfl ?_
    replace hf := zb1_s hf
    obtain ⟨v3, h4, hf⟩ := hf
    refine zr_get (zm_gR_g h4) zk3 (by decide) zl_201 dX3_add_11 ?_
    refine zr_aload_n 0 dX3_add_14 rfl ?_
    replace hf := zb1_s hf
    obtain ⟨v5, h6, hf⟩ := hf
    refine zr_get (zm_gI_g h6) zk3 (by decide) zl_204 dX3_add_15 ?_
    refine zr_iload_n 1 dX3_add_18 rfl ?_
    replace hf := zb1_s hf
    obtain ⟨m7, h8, hf⟩ := hf
    refine zr_iast h8 dX3_add_19 ?_
    refine zr_aload_n 0 dX3_add_20 rfl ?_
    replace hf := zb1_s hf
    obtain ⟨v9, h10, hf⟩ := hf
    refine zr_get (zm_gR_g h10) zk3 (by decide) zl_202 dX3_add_21 ?_
    refine zr_aload_n 0 dX3_add_24 rfl ?_
    replace hf := zb1_s hf
    obtain ⟨v11, h12, hf⟩ := hf
    refine zr_get (zm_gI_g h12) zk3 (by decide) zl_204 dX3_add_25 ?_
    refine zr_iload_n 2 dX3_add_28 rfl ?_
    replace hf := zb1_s hf
    obtain ⟨m13, h14, hf⟩ := hf
    refine zr_iast h14 dX3_add_29 ?_
    refine zr_aload_n 0 dX3_add_30 rfl ?_
    refine zr_dup dX3_add_31 rfl ?_
    replace hf := zb1_s hf
    obtain ⟨v15, h16, hf⟩ := hf
    refine zr_get (zm_gI_g h16) zk3 (by decide) zl_204 dX3_add_32 ?_
    refine zr_iconst 1 dX3_add_35 (by decide) ?_
    refine zr_iadd dX3_add_36 ?_
    replace hf := zb1_s hf
    obtain ⟨m17, h18, hf⟩ := hf
    refine zr_put h18 zk3 (by decide) zl_204 rfl rfl rfl dX3_add_37 ?_
    cases hf
    exact zr_vret dX3_add_40
  · rw [if_neg hc] at hf
    cases hf
    exact zr_vret dX3_add_9
theorem dX3_tell_0 : decode cX3_tell 0 = .ok (.iload_n 1, 1) := by decide +kernel
theorem dX3_tell_1 : decode cX3_tell 1 = .ok (.ifCond .ne 8, 3) := by decide +kernel
theorem dX3_tell_4 : decode cX3_tell 4 = .ok (.aload_n 0, 1) := by decide +kernel
theorem dX3_tell_5 : decode cX3_tell 5 = .ok (.getfield 18, 3) := by decide +kernel
theorem dX3_tell_8 : decode cX3_tell 8 = .ok (.ireturn, 1) := by decide +kernel
theorem dX3_tell_9 : decode cX3_tell 9 = .ok (.iload_n 1, 1) := by decide +kernel
theorem dX3_tell_10 : decode cX3_tell 10 = .ok (.iconst 1, 1) := by decide +kernel
theorem dX3_tell_11 : decode cX3_tell 11 = .ok (.if_icmp .ne 8, 3) := by decide +kernel
theorem dX3_tell_14 : decode cX3_tell 14 = .ok (.aload_n 0, 1) := by decide +kernel
theorem dX3_tell_15 : decode cX3_tell 15 = .ok (.getfield 22, 3) := by decide +kernel
theorem dX3_tell_18 : decode cX3_tell 18 = .ok (.ireturn, 1) := by decide +kernel
theorem dX3_tell_19 : decode cX3_tell 19 = .ok (.iload_n 1, 1) := by decide +kernel
theorem dX3_tell_20 : decode cX3_tell 20 = .ok (.bipush 10, 2) := by decide +kernel
theorem dX3_tell_22 : decode cX3_tell 22 = .ok (.if_icmp .lt 24, 3) := by decide +kernel
theorem dX3_tell_25 : decode cX3_tell 25 = .ok (.iload_n 1, 1) := by decide +kernel
theorem dX3_tell_26 : decode cX3_tell 26 = .ok (.bipush 10, 2) := by decide +kernel
theorem dX3_tell_28 : decode cX3_tell 28 = .ok (.aload_n 0, 1) := by decide +kernel
theorem dX3_tell_29 : decode cX3_tell 29 = .ok (.getfield 22, 3) := by decide +kernel
theorem dX3_tell_32 : decode cX3_tell 32 = .ok (.iadd, 1) := by decide +kernel
theorem dX3_tell_33 : decode cX3_tell 33 = .ok (.if_icmp .ge 13, 3) := by decide +kernel
theorem dX3_tell_36 : decode cX3_tell 36 = .ok (.aload_n 0, 1) := by decide +kernel
theorem dX3_tell_37 : decode cX3_tell 37 = .ok (.getfield 9, 3) := by decide +kernel
theorem dX3_tell_40 : decode cX3_tell 40 = .ok (.iload_n 1, 1) := by decide +kernel
theorem dX3_tell_41 : decode cX3_tell 41 = .ok (.bipush 10, 2) := by decide +kernel
theorem dX3_tell_43 : decode cX3_tell 43 = .ok (.isub, 1) := by decide +kernel
theorem dX3_tell_44 : decode cX3_tell 44 = .ok (.iaload, 1) := by decide +kernel
theorem dX3_tell_45 : decode cX3_tell 45 = .ok (.ireturn, 1) := by decide +kernel
theorem dX3_tell_46 : decode cX3_tell 46 = .ok (.iload_n 1, 1) := by decide +kernel
theorem dX3_tell_47 : decode cX3_tell 47 = .ok (.bipush 20, 2) := by decide +kernel
theorem dX3_tell_49 : decode cX3_tell 49 = .ok (.if_icmp .lt 26, 3) := by decide +kernel
theorem dX3_tell_52 : decode cX3_tell 52 = .ok (.iload_n 1, 1) := by decide +kernel
theorem dX3_tell_53 : decode cX3_tell 53 = .ok (.bipush 20, 2) := by decide +kernel
theorem dX3_tell_55 : decode cX3_tell 55 = .ok (.aload_n 0, 1) := by decide +kernel
theorem dX3_tell_56 : decode cX3_tell 56 = .ok (.getfield 22, 3) := by decide +kernel
theorem dX3_tell_59 : decode cX3_tell 59 = .ok (.iadd, 1) := by decide +kernel
theorem dX3_tell_60 : decode cX3_tell 60 = .ok (.if_icmp .ge 15, 3) := by decide +kernel
theorem dX3_tell_63 : decode cX3_tell 63 = .ok (.aload_n 0, 1) := by decide +kernel
theorem dX3_tell_64 : decode cX3_tell 64 = .ok (.getfield 15, 3) := by decide +kernel
theorem dX3_tell_67 : decode cX3_tell 67 = .ok (.iload_n 1, 1) := by decide +kernel
theorem dX3_tell_68 : decode cX3_tell 68 = .ok (.bipush 20, 2) := by decide +kernel
theorem dX3_tell_70 : decode cX3_tell 70 = .ok (.isub, 1) := by decide +kernel
theorem dX3_tell_71 : decode cX3_tell 71 = .ok (.iaload, 1) := by decide +kernel
theorem dX3_tell_72 : decode cX3_tell 72 = .ok (.goto 4, 3) := by decide +kernel
theorem dX3_tell_75 : decode cX3_tell 75 = .ok (.iconst (-1), 1) := by decide +kernel
theorem dX3_tell_76 : decode cX3_tell 76 = .ok (.ireturn, 1) := by decide +kernel
noncomputable def fX3_tell_b46 (x1 : Int32) (μ : zM) (x0 : Nat) : Option (Int32) :=
  zb1 (if x1 < 20 then (
  some (-1))
  else (
  zb1 (zm_gI μ 3 x0 1) fun v3 =>
  if (20 + v3) ≤ x1 then (
  some (-1))
  else (
  zb1 (zm_gR μ 3 x0 3) fun v5 =>
  zb1 (zm_aI μ 0 v5 (x1 - 20)) fun v7 =>
  some v7)) : Option (Int32)) fun (s1 : Int32) =>
  some s1
noncomputable def fX3_tell (μ : zM) (x0 : Nat) (x1 : Int32) : Option (Int32) := zgd (zm_ck μ 3 x0) <|
  if x1 = 0 then (
  zb1 (zm_gI μ 3 x0 0) fun v18 =>
  some v18)
  else (
  if x1 = 1 then (
  zb1 (zm_gI μ 3 x0 1) fun v16 =>
  some v16)
  else (
  if x1 < 10 then (
  fX3_tell_b46 x1 μ x0)
  else (
  zb1 (zm_gI μ 3 x0 1) fun v10 =>
  if (10 + v10) ≤ x1 then (
  fX3_tell_b46 x1 μ x0)
  else (
  zb1 (zm_gR μ 3 x0 2) fun v12 =>
  zb1 (zm_aI μ 0 v12 (x1 - 10)) fun v14 =>
  some v14))))
theorem fX3_tell_ck {μ : zM} {x0 : Nat} {x1 : Int32} {z : Int32} (h : fX3_tell μ x0 x1 = some z) : zm_ck μ 3 x0 = true := (zgd_s h).1
set_option maxHeartbeats 4000000 in
set_option maxRecDepth 100000 in
theorem cX3_tell_ok {μ : zM} {x0 : Nat} {x1 : Int32} {r : Int32} (hf : fX3_tell μ x0 x1 = some r) : zC yX3_tell cX3_tell 2 (some .int) 0 0 0 [.ref x0, .int x1] μ (some (.int r)) μ := by
  replace hf := (zgd_s hf).2
  refine zC.of (by decide) (Nat.le_of_ble_eq_true rfl) (fun K hin => ?_)
  clear hin
  show zz K cX3_tell (2, RX3, some .int, 0, 0, 0, some (.int r), μ) 0 0 0 [(0, .ref x0), (1, .int x1)] [] μ
  refine zr_iload_n 1 dX3_tell_0 rfl ?_
  refine zr_if_ne 9 dX3_tell_1 (by decide) (fun hc => ?_) (fun hc => ?_)
  · rw [if_neg hc] at hf
    refine zr_iload_n 1 dX3_tell_9 rfl ?_
    refine zr_iconst 1 dX3_tell_10 (by decide) ?_
    refine zr_icmp_ne 19 dX3_tell_11 (by decide) (fun hc => ?_) (fun hc => ?_)
    · rw [if_neg hc] at hf
      refine zr_iload_n 1 dX3_tell_19 rfl ?_
      refine zr_bipush 10 dX3_tell_20 (by decide) ?_
      have hb9 : ∀ (_ : Unit), fX3_tell_b46 x1 μ x0 = some r → zz K cX3_tell (2, RX3, some .int, 0, 0, 0, some (.int r), μ) 0 0 46 [(0, .ref x0), (1, .int x1)] [] μ := by
        intro _ hf
        unfold fX3_tell_b46 at hf
        refine zr_iload_n 1 dX3_tell_46 rfl ?_
        refine zr_bipush 20 dX3_tell_47 (by decide) ?_
        replace hf := zb1_s hf
        obtain ⟨s1, hg, hf⟩ := hf
        have hj2 : zz K cX3_tell (2, RX3, some .int, 0, 0, 0, some (.int r), μ) 0 0 76 [] [.int s1] μ := by
          cases hf
          exact zr_iret dX3_tell_76
        clear hf
        have hf := hg
        clear hg
        refine zr_icmp_lt 75 dX3_tell_49 (by decide) (fun hc => ?_) (fun hc => ?_)
        · rw [if_pos hc] at hf
          refine zr_iconst (-1) dX3_tell_75 (by decide) ?_
          cases hf
          exact zr_lv [] rfl hj2
        · rw [if_neg hc] at hf
          refine zr_iload_n 1 dX3_tell_52 rfl ?_
          refine zr_bipush 20 dX3_tell_53 (by decide) ?_
          refine zr_aload_n 0 dX3_tell_55 rfl ?_
          replace hf := zb1_s hf
          obtain ⟨v3, h4, hf⟩ := hf
          refine zr_get (zm_gI_g h4) zk3 (by decide) zl_204 dX3_tell_56 ?_
          refine zr_iadd dX3_tell_59 ?_
          refine zr_icmp_ge 75 dX3_tell_60 (by decide) (fun hc => ?_) (fun hc => ?_)
          · rw [if_pos hc] at hf
            refine zr_iconst (-1) dX3_tell_75 (by decide) ?_
            cases hf
            exact zr_lv [] rfl hj2
          · rw [if_neg hc] at hf
            refine zr_aload_n 0 dX3_tell_63 rfl ?_
            replace hf := zb1_s hf
            obtain ⟨v5, h6, hf⟩ := hf
            refine zr_get (zm_gR_g h6) zk3 (by decide) zl_202 dX3_tell_64 ?_
            refine zr_iload_n 1 dX3_tell_67 rfl ?_
            refine zr_bipush 20 dX3_tell_68 (by decide) ?_
            refine zr_isub dX3_tell_70 ?_
            replace hf := zb1_s hf
            obtain ⟨v7, h8, hf⟩ := hf
            refine zr_iald h8 dX3_tell_71 ?_
            refine zr_goto 76 dX3_tell_72 (by decide) ?_
            cases hf
            exact zr_lv [] rfl hj2
      refine zr_icmp_lt 46 dX3_tell_22 (by decide) (fun hc => ?_) (fun hc => ?_)
      · rw [if_pos hc] at hf
        exact zr_lv [0, 1] rfl (hb9 () hf)
      · rw [if_neg hc] at hf
        refine zr_iload_n 1 dX3_tell_25 rfl ?_
        refine zr_bipush 10 dX3_tell_26 (by decide) ?_
        refine zr_aload_n 0 dX3_tell_28 rfl ?_
        replace hf := zb1_s hf
        obtain ⟨v10, h11, hf⟩ := hf
        refine zr_get (zm_gI_g h11) zk3 (by decide) zl_204 dX3_tell_29 ?_
        refine zr_iadd dX3_tell_32 ?_
        refine zr_icmp_ge 46 dX3_tell_33 (by decide) (fun hc => ?_) (fun hc => ?_)
        · rw [if_pos hc] at hf
          exact zr_lv [0, 1] rfl (hb9 () hf)
        · rw [if_neg hc] at hf
          refine zr_aload_n 0 dX3_tell_36 rfl ?_
          replace hf := zb1_s hf
          obtain ⟨v12, h13, hf⟩ := hf
          refine zr_get (zm_gR_g h13) zk3 (by decide) zl_201 dX3_tell_37 ?_
          refine zr_iload_n 1 dX3_tell_40 rfl ?_
          refine zr_bipush 10 dX3_tell_41 (by decide) ?_
          refine zr_isub dX3_tell_43 ?_
          replace hf := zb1_s hf
          obtain ⟨v14, h15, hf⟩ := hf
          refine zr_iald h15 dX3_tell_44 ?_
          cases hf
          exact zr_iret dX3_tell_45
    · rw [if_pos hc] at hf
      refine zr_aload_n 0 dX3_tell_14 rfl ?_
      replace hf := zb1_s hf
      obtain ⟨v16, h17, hf⟩ := hf
      refine zr_get (zm_gI_g h17) zk3 (by decide) zl_204 dX3_tell_15 ?_
      cases hf
      exact zr_iret dX3_tell_18
  · rw [if_pos hc] at hf
    refine zr_aload_n 0 dX3_tell_4 rfl ?_
    replace hf := zb1_s hf
    obtain ⟨v18, h19, hf⟩ := hf
    refine zr_get (zm_gI_g h19) zk3 (by decide) zl_203 dX3_tell_5 ?_
    cases hf
    exact zr_iret dX3_tell_8
theorem dX3_comes_0 : decode cX3_comes 0 = .ok (.iload_n 0, 1) := by decide +kernel
theorem dX3_comes_1 : decode cX3_comes 1 = .ok (.iconst 3, 1) := by decide +kernel
theorem dX3_comes_2 : decode cX3_comes 2 = .ok (.ishr, 1) := by decide +kernel
theorem dX3_comes_3 : decode cX3_comes 3 = .ok (.iload_n 1, 1) := by decide +kernel
theorem dX3_comes_4 : decode cX3_comes 4 = .ok (.imul, 1) := by decide +kernel
theorem dX3_comes_5 : decode cX3_comes 5 = .ok (.iload_n 0, 1) := by decide +kernel
theorem dX3_comes_6 : decode cX3_comes 6 = .ok (.bipush 7, 2) := by decide +kernel
theorem dX3_comes_8 : decode cX3_comes 8 = .ok (.iand, 1) := by decide +kernel
theorem dX3_comes_9 : decode cX3_comes 9 = .ok (.iadd, 1) := by decide +kernel
theorem dX3_comes_10 : decode cX3_comes 10 = .ok (.bipush 7, 2) := by decide +kernel
theorem dX3_comes_12 : decode cX3_comes 12 = .ok (.iand, 1) := by decide +kernel
theorem dX3_comes_13 : decode cX3_comes 13 = .ok (.ireturn, 1) := by decide +kernel
noncomputable def fX3_comes (μ : zM) (x0 : Int32) (x1 : Int32) : Option (Int32) :=
  some ((((x0 >>> (3 &&& 31)) * x1) + (x0 &&& 7)) &&& 7)
set_option maxHeartbeats 4000000 in
set_option maxRecDepth 100000 in
theorem cX3_comes_ok {μ : zM} {x0 : Int32} {x1 : Int32} {r : Int32} (hf : fX3_comes μ x0 x1 = some r) : zC yX3_comes cX3_comes 2 (some .int) 0 0 0 [.int x0, .int x1] μ (some (.int r)) μ := by
  unfold fX3_comes at hf
  refine zC.of (by decide) (Nat.le_of_ble_eq_true rfl) (fun K hin => ?_)
  clear hin
  show zz K cX3_comes (2, RX3, some .int, 0, 0, 0, some (.int r), μ) 0 0 0 [(0, .int x0), (1, .int x1)] [] μ
  refine zr_iload_n 0 dX3_comes_0 rfl ?_
  refine zr_iconst 3 dX3_comes_1 (by decide) ?_
  refine zr_ishr dX3_comes_2 ?_
  refine zr_iload_n 1 dX3_comes_3 rfl ?_
  refine zr_imul dX3_comes_4 ?_
  refine zr_iload_n 0 dX3_comes_5 rfl ?_
  refine zr_bipush 7 dX3_comes_6 (by decide) ?_
  refine zr_iand dX3_comes_8 ?_
  refine zr_iadd dX3_comes_9 ?_
  refine zr_bipush 7 dX3_comes_10 (by decide) ?_
  refine zr_iand dX3_comes_12 ?_
  cases hf
  exact zr_iret dX3_comes_13
theorem zl_206 : Cond.code yX3_comes cX3_comes 2 (some .int) ∈ zt := zt_at 1067 (by decide +kernel)
theorem zl_207 : Cond.initialized RX3 ∈ zt := zt_at 133 (by decide +kernel)
theorem zvs_X3_comes : zvS yX3_comes cX3_comes 2 (some .int) 2 := ⟨zl_206, zl_207, ⟨by decide +kernel, by decide +kernel, by decide +kernel⟩, by decide⟩
theorem zl_208 : Cond.methodLink RX3 31 yX3_comes ∈ zt := zt_at 1065 (by decide +kernel)
theorem zl_209 : Cond.static yX3_comes ∈ zt := zt_at 1066 (by decide +kernel)
theorem dX3_misses_0 : decode cX3_misses 0 = .ok (.iconst 0, 1) := by decide +kernel
theorem dX3_misses_1 : decode cX3_misses 1 = .ok (.istore_n 2, 1) := by decide +kernel
theorem dX3_misses_2 : decode cX3_misses 2 = .ok (.iconst 0, 1) := by decide +kernel
theorem dX3_misses_3 : decode cX3_misses 3 = .ok (.istore_n 3, 1) := by decide +kernel
theorem dX3_misses_4 : decode cX3_misses 4 = .ok (.iload_n 3, 1) := by decide +kernel
theorem dX3_misses_5 : decode cX3_misses 5 = .ok (.aload_n 0, 1) := by decide +kernel
theorem dX3_misses_6 : decode cX3_misses 6 = .ok (.getfield 22, 3) := by decide +kernel
theorem dX3_misses_9 : decode cX3_misses 9 = .ok (.if_icmp .ge 31, 3) := by decide +kernel
theorem dX3_misses_12 : decode cX3_misses 12 = .ok (.iload_n 1, 1) := by decide +kernel
theorem dX3_misses_13 : decode cX3_misses 13 = .ok (.aload_n 0, 1) := by decide +kernel
theorem dX3_misses_14 : decode cX3_misses 14 = .ok (.getfield 9, 3) := by decide +kernel
theorem dX3_misses_17 : decode cX3_misses 17 = .ok (.iload_n 3, 1) := by decide +kernel
theorem dX3_misses_18 : decode cX3_misses 18 = .ok (.iaload, 1) := by decide +kernel
theorem dX3_misses_19 : decode cX3_misses 19 = .ok (.invokestatic 31, 3) := by decide +kernel
theorem dX3_misses_22 : decode cX3_misses 22 = .ok (.aload_n 0, 1) := by decide +kernel
theorem dX3_misses_23 : decode cX3_misses 23 = .ok (.getfield 15, 3) := by decide +kernel
theorem dX3_misses_26 : decode cX3_misses 26 = .ok (.iload_n 3, 1) := by decide +kernel
theorem dX3_misses_27 : decode cX3_misses 27 = .ok (.iaload, 1) := by decide +kernel
theorem dX3_misses_28 : decode cX3_misses 28 = .ok (.if_icmp .eq 6, 3) := by decide +kernel
theorem dX3_misses_31 : decode cX3_misses 31 = .ok (.iinc 2 1, 3) := by decide +kernel
theorem dX3_misses_34 : decode cX3_misses 34 = .ok (.iinc 3 1, 3) := by decide +kernel
theorem dX3_misses_37 : decode cX3_misses 37 = .ok (.goto (-33), 3) := by decide +kernel
theorem dX3_misses_40 : decode cX3_misses 40 = .ok (.iload_n 2, 1) := by decide +kernel
theorem dX3_misses_41 : decode cX3_misses 41 = .ok (.ireturn, 1) := by decide +kernel
noncomputable def fX3_misses_l4 (μ : zM) (x0 : Nat) (x1 : Int32) (F3 : Int32 → Int32 → Option (Int32)) (x2_1 : Int32) (x3_2 : Int32) : Option (Int32) :=
  zb1 (zm_gI μ 3 x0 1) fun v7 =>
  if v7 ≤ x3_2 then (
  some x2_1)
  else (
  zb1 (zm_gR μ 3 x0 2) fun v9 =>
  zb1 (zm_aI μ 0 v9 x3_2) fun v11 =>
  zb1 (fX3_comes μ x1 v11) fun v14 =>
  zb1 (zm_gR μ 3 x0 3) fun v15 =>
  zb1 (zm_aI μ 0 v15 x3_2) fun v17 =>
  zb1 (if v14 = v17 then (
  some x2_1)
  else (
  some (x2_1 + 1)) : Option (Int32)) fun (x2_19 : Int32) =>
  F3 x2_19 (x3_2 + 1))
noncomputable def fX3_misses (μ : zM) (x0 : Nat) (x1 : Int32) : Option (Int32) := zgd (zm_ck μ 3 x0) <|
  zb1 (zf2 (fX3_misses_l4 μ x0 x1) zfu 0 0 : Option (Int32)) fun (x2_5 : Int32) =>
  some x2_5
theorem fX3_misses_ck {μ : zM} {x0 : Nat} {x1 : Int32} {z : Int32} (h : fX3_misses μ x0 x1 = some z) : zm_ck μ 3 x0 = true := (zgd_s h).1
set_option maxHeartbeats 4000000 in
set_option maxRecDepth 100000 in
theorem cX3_misses_ok {μ : zM} {x0 : Nat} {x1 : Int32} {r : Int32} (hf : fX3_misses μ x0 x1 = some r) : zC yX3_misses cX3_misses 4 (some .int) 1 0 0 [.ref x0, .int x1] μ (some (.int r)) μ := by
  replace hf := (zgd_s hf).2
  refine zC.of (by decide) (Nat.le_of_ble_eq_true rfl) (fun K hin => ?_)
  clear hin
  show zz K cX3_misses (4, RX3, some .int, 1, 0, 0, some (.int r), μ) 0 0 0 [(0, .ref x0), (1, .int x1)] [] μ
  refine zr_iconst 0 dX3_misses_0 (by decide) ?_
  refine zr_istore_n [(2, .int 0), (0, .ref x0), (1, .int x1)] dX3_misses_1 (Nat.le_of_ble_eq_true rfl) rfl ?_
  refine zr_iconst 0 dX3_misses_2 (by decide) ?_
  refine zr_istore_n [(3, .int 0), (2, .int 0), (0, .ref x0), (1, .int x1)] dX3_misses_3 (Nat.le_of_ble_eq_true rfl) rfl ?_
  replace hf := zb1_s hf
  obtain ⟨x2_5, hg, hf⟩ := hf
  have hj6 : zz K cX3_misses (4, RX3, some .int, 1, 0, 0, some (.int r), μ) 0 0 40 [(2, .int x2_5)] [] μ := by
    refine zr_iload_n 0 dX3_misses_40 rfl ?_
    cases hf
    exact zr_iret dX3_misses_41
  clear hf
  have hf := hg
  clear hg
  have hL21 : ∀ (n : Nat) (x2_1 : Int32) (x3_2 : Int32), zf2 (fX3_misses_l4 μ x0 x1) n x2_1 x3_2 = some x2_5 → zz K cX3_misses (4, RX3, some .int, 1, 0, 0, some (.int r), μ) 0 0 4 [(0, .ref x0), (1, .int x1), (2, .int x2_1), (3, .int x3_2)] [] μ := by
    intro n
    induction n with
    | zero => intro x2_1 x3_2 hf; cases hf
    | succ n ih4 =>
      intro x2_1 x3_2 hf
      replace hf := zf2_s hf
      generalize zf2 (fX3_misses_l4 μ x0 x1) n = F3 at hf ih4
      unfold fX3_misses_l4 at hf
      refine zr_iload_n 3 dX3_misses_4 rfl ?_
      refine zr_aload_n 0 dX3_misses_5 rfl ?_
      replace hf := zb1_s hf
      obtain ⟨v7, h8, hf⟩ := hf
      refine zr_get (zm_gI_g h8) zk3 (by decide) zl_204 dX3_misses_6 ?_
      refine zr_icmp_ge 40 dX3_misses_9 (by decide) (fun hc => ?_) (fun hc => ?_)
      · rw [if_pos hc] at hf
        cases hf
        exact zr_lv [2] rfl hj6
      · rw [if_neg hc] at hf
        refine zr_iload_n 1 dX3_misses_12 rfl ?_
        refine zr_aload_n 0 dX3_misses_13 rfl ?_
        replace hf := zb1_s hf
        obtain ⟨v9, h10, hf⟩ := hf
        refine zr_get (zm_gR_g h10) zk3 (by decide) zl_201 dX3_misses_14 ?_
        refine zr_iload_n 3 dX3_misses_17 rfl ?_
        replace hf := zb1_s hf
        obtain ⟨v11, h12, hf⟩ := hf
        refine zr_iald h12 dX3_misses_18 ?_
        replace hf := zb1_s hf
        obtain ⟨v14, h13, hf⟩ := hf
        refine zr_callS [.int x1, .int v11] (cX3_comes_ok h13) zvs_X3_comes zl_209 zl_208 rfl (Nat.le_of_ble_eq_true rfl) (Nat.le_of_ble_eq_true rfl) (Nat.le_of_ble_eq_true rfl) (Nat.le_of_ble_eq_true rfl) dX3_misses_19 rfl ?_
        refine zr_aload_n 0 dX3_misses_22 rfl ?_
        replace hf := zb1_s hf
        obtain ⟨v15, h16, hf⟩ := hf
        refine zr_get (zm_gR_g h16) zk3 (by decide) zl_202 dX3_misses_23 ?_
        refine zr_iload_n 3 dX3_misses_26 rfl ?_
        replace hf := zb1_s hf
        obtain ⟨v17, h18, hf⟩ := hf
        refine zr_iald h18 dX3_misses_27 ?_
        replace hf := zb1_s hf
        obtain ⟨x2_19, hg, hf⟩ := hf
        have hj20 : zz K cX3_misses (4, RX3, some .int, 1, 0, 0, some (.int r), μ) 0 0 34 [(0, .ref x0), (1, .int x1), (2, .int x2_19), (3, .int x3_2)] [] μ := by
          refine zr_iinc (j := 3) (x3_2 + 1) [(3, .int (x3_2 + 1)), (0, .ref x0), (1, .int x1), (2, .int x2_19)] dX3_misses_34 rfl rfl (Nat.le_of_ble_eq_true rfl) rfl ?_
          refine zr_goto 4 dX3_misses_37 (by decide) ?_
          exact zr_lv [1, 2, 3, 0] rfl (ih4 x2_19 (x3_2 + 1) hf)
        clear hf
        have hf := hg
        clear hg
        refine zr_icmp_eq 34 dX3_misses_28 (by decide) (fun hc => ?_) (fun hc => ?_)
        · rw [if_pos hc] at hf
          cases hf
          exact zr_lv [0, 1, 2, 3] rfl hj20
        · rw [if_neg hc] at hf
          refine zr_iinc (j := 2) (x2_1 + 1) [(2, .int (x2_1 + 1)), (0, .ref x0), (1, .int x1), (3, .int x3_2)] dX3_misses_31 rfl rfl (Nat.le_of_ble_eq_true rfl) rfl ?_
          cases hf
          exact zr_lv [1, 2, 0, 3] rfl hj20
  exact zr_lv [2, 3, 1, 0] rfl (hL21 _ 0 0 hf)
theorem zl_210 : Cond.code yX3_misses cX3_misses 4 (some .int) ∈ zt := zt_at 1064 (by decide +kernel)
theorem zvs_X3_misses : zvS yX3_misses cX3_misses 4 (some .int) 1 := ⟨zl_210, zl_207, ⟨by decide +kernel, by decide +kernel, by decide +kernel⟩, by decide⟩
theorem zl_211 : Cond.methodLink RX3 35 yX3_misses ∈ zt := zt_at 1061 (by decide +kernel)
theorem zl_212 : Cond.instanceMethod yX3_misses ∈ zt := zt_at 1062 (by decide +kernel)
theorem zl_213 : Cond.selects RX3 yX3_misses yX3_misses ∈ zt := zt_at 1063 (by decide +kernel)
theorem dX3_fits_0 : decode cX3_fits 0 = .ok (.iconst 0, 1) := by decide +kernel
theorem dX3_fits_1 : decode cX3_fits 1 = .ok (.istore_n 1, 1) := by decide +kernel
theorem dX3_fits_2 : decode cX3_fits 2 = .ok (.iconst 0, 1) := by decide +kernel
theorem dX3_fits_3 : decode cX3_fits 3 = .ok (.istore_n 2, 1) := by decide +kernel
theorem dX3_fits_4 : decode cX3_fits 4 = .ok (.iload_n 2, 1) := by decide +kernel
theorem dX3_fits_5 : decode cX3_fits 5 = .ok (.bipush 64, 2) := by decide +kernel
theorem dX3_fits_7 : decode cX3_fits 7 = .ok (.if_icmp .ge 24, 3) := by decide +kernel
theorem dX3_fits_10 : decode cX3_fits 10 = .ok (.aload_n 0, 1) := by decide +kernel
theorem dX3_fits_11 : decode cX3_fits 11 = .ok (.iload_n 2, 1) := by decide +kernel
theorem dX3_fits_12 : decode cX3_fits 12 = .ok (.invokevirtual 35, 3) := by decide +kernel
theorem dX3_fits_15 : decode cX3_fits 15 = .ok (.aload_n 0, 1) := by decide +kernel
theorem dX3_fits_16 : decode cX3_fits 16 = .ok (.getfield 18, 3) := by decide +kernel
theorem dX3_fits_19 : decode cX3_fits 19 = .ok (.if_icmp .gt 6, 3) := by decide +kernel
theorem dX3_fits_22 : decode cX3_fits 22 = .ok (.iinc 1 1, 3) := by decide +kernel
theorem dX3_fits_25 : decode cX3_fits 25 = .ok (.iinc 2 1, 3) := by decide +kernel
theorem dX3_fits_28 : decode cX3_fits 28 = .ok (.goto (-24), 3) := by decide +kernel
theorem dX3_fits_31 : decode cX3_fits 31 = .ok (.iload_n 1, 1) := by decide +kernel
theorem dX3_fits_32 : decode cX3_fits 32 = .ok (.ireturn, 1) := by decide +kernel
noncomputable def fX3_fits_l4 (μ : zM) (x0 : Nat) (F3 : Int32 → Int32 → Option (Int32)) (x1_1 : Int32) (x2_2 : Int32) : Option (Int32) :=
  if 64 ≤ x2_2 then (
  some x1_1)
  else (
  zb1 (fX3_misses μ x0 x2_2) fun v8 =>
  zb1 (zm_gI μ 3 x0 0) fun v9 =>
  zb1 (if v9 < v8 then (
  some x1_1)
  else (
  some (x1_1 + 1)) : Option (Int32)) fun (x1_11 : Int32) =>
  F3 x1_11 (x2_2 + 1))
noncomputable def fX3_fits (μ : zM) (x0 : Nat) : Option (Int32) := zgd (zm_ck μ 3 x0) <|
  zb1 (zf2 (fX3_fits_l4 μ x0) zfu 0 0 : Option (Int32)) fun (x1_5 : Int32) =>
  some x1_5
theorem fX3_fits_ck {μ : zM} {x0 : Nat} {z : Int32} (h : fX3_fits μ x0 = some z) : zm_ck μ 3 x0 = true := (zgd_s h).1
set_option maxHeartbeats 4000000 in
set_option maxRecDepth 100000 in
theorem cX3_fits_ok {μ : zM} {x0 : Nat} {r : Int32} (hf : fX3_fits μ x0 = some r) : zC yX3_fits cX3_fits 3 (some .int) 2 0 0 [.ref x0] μ (some (.int r)) μ := by
  replace hf := (zgd_s hf).2
  refine zC.of (by decide) (Nat.le_of_ble_eq_true rfl) (fun K hin => ?_)
  clear hin
  show zz K cX3_fits (3, RX3, some .int, 2, 0, 0, some (.int r), μ) 0 0 0 [(0, .ref x0)] [] μ
  refine zr_iconst 0 dX3_fits_0 (by decide) ?_
  refine zr_istore_n [(1, .int 0), (0, .ref x0)] dX3_fits_1 (Nat.le_of_ble_eq_true rfl) rfl ?_
  refine zr_iconst 0 dX3_fits_2 (by decide) ?_
  refine zr_istore_n [(2, .int 0), (1, .int 0), (0, .ref x0)] dX3_fits_3 (Nat.le_of_ble_eq_true rfl) rfl ?_
  replace hf := zb1_s hf
  obtain ⟨x1_5, hg, hf⟩ := hf
  have hj6 : zz K cX3_fits (3, RX3, some .int, 2, 0, 0, some (.int r), μ) 0 0 31 [(1, .int x1_5)] [] μ := by
    refine zr_iload_n 0 dX3_fits_31 rfl ?_
    cases hf
    exact zr_iret dX3_fits_32
  clear hf
  have hf := hg
  clear hg
  have hL13 : ∀ (n : Nat) (x1_1 : Int32) (x2_2 : Int32), zf2 (fX3_fits_l4 μ x0) n x1_1 x2_2 = some x1_5 → zz K cX3_fits (3, RX3, some .int, 2, 0, 0, some (.int r), μ) 0 0 4 [(0, .ref x0), (1, .int x1_1), (2, .int x2_2)] [] μ := by
    intro n
    induction n with
    | zero => intro x1_1 x2_2 hf; cases hf
    | succ n ih4 =>
      intro x1_1 x2_2 hf
      replace hf := zf2_s hf
      generalize zf2 (fX3_fits_l4 μ x0) n = F3 at hf ih4
      unfold fX3_fits_l4 at hf
      refine zr_iload_n 2 dX3_fits_4 rfl ?_
      refine zr_bipush 64 dX3_fits_5 (by decide) ?_
      refine zr_icmp_ge 31 dX3_fits_7 (by decide) (fun hc => ?_) (fun hc => ?_)
      · rw [if_pos hc] at hf
        cases hf
        exact zr_lv [1] rfl hj6
      · rw [if_neg hc] at hf
        refine zr_aload_n 0 dX3_fits_10 rfl ?_
        refine zr_iload_n 2 dX3_fits_11 rfl ?_
        replace hf := zb1_s hf
        obtain ⟨v8, h7, hf⟩ := hf
        refine zr_callV (ci := 3) [.int x2_2] (cX3_misses_ok h7) zvs_X3_misses zl_212 zl_213 (fX3_misses_ck h7) rfl rfl zl_211 rfl (Nat.le_of_ble_eq_true rfl) (Nat.le_of_ble_eq_true rfl) (Nat.le_of_ble_eq_true rfl) (Nat.le_of_ble_eq_true rfl) dX3_fits_12 rfl ?_
        refine zr_aload_n 0 dX3_fits_15 rfl ?_
        replace hf := zb1_s hf
        obtain ⟨v9, h10, hf⟩ := hf
        refine zr_get (zm_gI_g h10) zk3 (by decide) zl_203 dX3_fits_16 ?_
        replace hf := zb1_s hf
        obtain ⟨x1_11, hg, hf⟩ := hf
        have hj12 : zz K cX3_fits (3, RX3, some .int, 2, 0, 0, some (.int r), μ) 0 0 25 [(0, .ref x0), (1, .int x1_11), (2, .int x2_2)] [] μ := by
          refine zr_iinc (j := 2) (x2_2 + 1) [(2, .int (x2_2 + 1)), (0, .ref x0), (1, .int x1_11)] dX3_fits_25 rfl rfl (Nat.le_of_ble_eq_true rfl) rfl ?_
          refine zr_goto 4 dX3_fits_28 (by decide) ?_
          exact zr_lv [1, 2, 0] rfl (ih4 x1_11 (x2_2 + 1) hf)
        clear hf
        have hf := hg
        clear hg
        refine zr_icmp_gt 25 dX3_fits_19 (by decide) (fun hc => ?_) (fun hc => ?_)
        · rw [if_pos hc] at hf
          cases hf
          exact zr_lv [0, 1, 2] rfl hj12
        · rw [if_neg hc] at hf
          refine zr_iinc (j := 1) (x1_1 + 1) [(1, .int (x1_1 + 1)), (0, .ref x0), (2, .int x2_2)] dX3_fits_22 rfl rfl (Nat.le_of_ble_eq_true rfl) rfl ?_
          cases hf
          exact zr_lv [1, 0, 2] rfl hj12
  exact zr_lv [2, 1, 0] rfl (hL13 _ 0 0 hf)
theorem dX3_bestRule_0 : decode cX3_bestRule 0 = .ok (.iconst 0, 1) := by decide +kernel
theorem dX3_bestRule_1 : decode cX3_bestRule 1 = .ok (.istore_n 1, 1) := by decide +kernel
theorem dX3_bestRule_2 : decode cX3_bestRule 2 = .ok (.iconst 1, 1) := by decide +kernel
theorem dX3_bestRule_3 : decode cX3_bestRule 3 = .ok (.istore_n 2, 1) := by decide +kernel
theorem dX3_bestRule_4 : decode cX3_bestRule 4 = .ok (.iload_n 2, 1) := by decide +kernel
theorem dX3_bestRule_5 : decode cX3_bestRule 5 = .ok (.bipush 64, 2) := by decide +kernel
theorem dX3_bestRule_7 : decode cX3_bestRule 7 = .ok (.if_icmp .ge 24, 3) := by decide +kernel
theorem dX3_bestRule_10 : decode cX3_bestRule 10 = .ok (.aload_n 0, 1) := by decide +kernel
theorem dX3_bestRule_11 : decode cX3_bestRule 11 = .ok (.iload_n 2, 1) := by decide +kernel
theorem dX3_bestRule_12 : decode cX3_bestRule 12 = .ok (.invokevirtual 35, 3) := by decide +kernel
theorem dX3_bestRule_15 : decode cX3_bestRule 15 = .ok (.aload_n 0, 1) := by decide +kernel
theorem dX3_bestRule_16 : decode cX3_bestRule 16 = .ok (.iload_n 1, 1) := by decide +kernel
theorem dX3_bestRule_17 : decode cX3_bestRule 17 = .ok (.invokevirtual 35, 3) := by decide +kernel
theorem dX3_bestRule_20 : decode cX3_bestRule 20 = .ok (.if_icmp .ge 5, 3) := by decide +kernel
theorem dX3_bestRule_23 : decode cX3_bestRule 23 = .ok (.iload_n 2, 1) := by decide +kernel
theorem dX3_bestRule_24 : decode cX3_bestRule 24 = .ok (.istore_n 1, 1) := by decide +kernel
theorem dX3_bestRule_25 : decode cX3_bestRule 25 = .ok (.iinc 2 1, 3) := by decide +kernel
theorem dX3_bestRule_28 : decode cX3_bestRule 28 = .ok (.goto (-24), 3) := by decide +kernel
theorem dX3_bestRule_31 : decode cX3_bestRule 31 = .ok (.iload_n 1, 1) := by decide +kernel
theorem dX3_bestRule_32 : decode cX3_bestRule 32 = .ok (.ireturn, 1) := by decide +kernel
noncomputable def fX3_bestRule_l4 (μ : zM) (x0 : Nat) (F3 : Int32 → Int32 → Option (Int32)) (x1_1 : Int32) (x2_2 : Int32) : Option (Int32) :=
  if 64 ≤ x2_2 then (
  some x1_1)
  else (
  zb1 (fX3_misses μ x0 x2_2) fun v8 =>
  zb1 (fX3_misses μ x0 x1_1) fun v10 =>
  zb1 (if v10 ≤ v8 then (
  some x1_1)
  else (
  some x2_2) : Option (Int32)) fun (x1_11 : Int32) =>
  F3 x1_11 (x2_2 + 1))
noncomputable def fX3_bestRule (μ : zM) (x0 : Nat) : Option (Int32) := zgd (zm_ck μ 3 x0) <|
  zb1 (zf2 (fX3_bestRule_l4 μ x0) zfu 0 1 : Option (Int32)) fun (x1_5 : Int32) =>
  some x1_5
theorem fX3_bestRule_ck {μ : zM} {x0 : Nat} {z : Int32} (h : fX3_bestRule μ x0 = some z) : zm_ck μ 3 x0 = true := (zgd_s h).1
set_option maxHeartbeats 4000000 in
set_option maxRecDepth 100000 in
theorem cX3_bestRule_ok {μ : zM} {x0 : Nat} {r : Int32} (hf : fX3_bestRule μ x0 = some r) : zC yX3_bestRule cX3_bestRule 3 (some .int) 2 0 0 [.ref x0] μ (some (.int r)) μ := by
  replace hf := (zgd_s hf).2
  refine zC.of (by decide) (Nat.le_of_ble_eq_true rfl) (fun K hin => ?_)
  clear hin
  show zz K cX3_bestRule (3, RX3, some .int, 2, 0, 0, some (.int r), μ) 0 0 0 [(0, .ref x0)] [] μ
  refine zr_iconst 0 dX3_bestRule_0 (by decide) ?_
  refine zr_istore_n [(1, .int 0), (0, .ref x0)] dX3_bestRule_1 (Nat.le_of_ble_eq_true rfl) rfl ?_
  refine zr_iconst 1 dX3_bestRule_2 (by decide) ?_
  refine zr_istore_n [(2, .int 1), (1, .int 0), (0, .ref x0)] dX3_bestRule_3 (Nat.le_of_ble_eq_true rfl) rfl ?_
  replace hf := zb1_s hf
  obtain ⟨x1_5, hg, hf⟩ := hf
  have hj6 : zz K cX3_bestRule (3, RX3, some .int, 2, 0, 0, some (.int r), μ) 0 0 31 [(1, .int x1_5)] [] μ := by
    refine zr_iload_n 0 dX3_bestRule_31 rfl ?_
    cases hf
    exact zr_iret dX3_bestRule_32
  clear hf
  have hf := hg
  clear hg
  have hL13 : ∀ (n : Nat) (x1_1 : Int32) (x2_2 : Int32), zf2 (fX3_bestRule_l4 μ x0) n x1_1 x2_2 = some x1_5 → zz K cX3_bestRule (3, RX3, some .int, 2, 0, 0, some (.int r), μ) 0 0 4 [(0, .ref x0), (1, .int x1_1), (2, .int x2_2)] [] μ := by
    intro n
    induction n with
    | zero => intro x1_1 x2_2 hf; cases hf
    | succ n ih4 =>
      intro x1_1 x2_2 hf
      replace hf := zf2_s hf
      generalize zf2 (fX3_bestRule_l4 μ x0) n = F3 at hf ih4
      unfold fX3_bestRule_l4 at hf
      refine zr_iload_n 2 dX3_bestRule_4 rfl ?_
      refine zr_bipush 64 dX3_bestRule_5 (by decide) ?_
      refine zr_icmp_ge 31 dX3_bestRule_7 (by decide) (fun hc => ?_) (fun hc => ?_)
      · rw [if_pos hc] at hf
        cases hf
        exact zr_lv [1] rfl hj6
      · rw [if_neg hc] at hf
        refine zr_aload_n 0 dX3_bestRule_10 rfl ?_
        refine zr_iload_n 2 dX3_bestRule_11 rfl ?_
        replace hf := zb1_s hf
        obtain ⟨v8, h7, hf⟩ := hf
        refine zr_callV (ci := 3) [.int x2_2] (cX3_misses_ok h7) zvs_X3_misses zl_212 zl_213 (fX3_misses_ck h7) rfl rfl zl_211 rfl (Nat.le_of_ble_eq_true rfl) (Nat.le_of_ble_eq_true rfl) (Nat.le_of_ble_eq_true rfl) (Nat.le_of_ble_eq_true rfl) dX3_bestRule_12 rfl ?_
        refine zr_aload_n 0 dX3_bestRule_15 rfl ?_
        refine zr_iload_n 1 dX3_bestRule_16 rfl ?_
        replace hf := zb1_s hf
        obtain ⟨v10, h9, hf⟩ := hf
        refine zr_callV (ci := 3) [.int x1_1] (cX3_misses_ok h9) zvs_X3_misses zl_212 zl_213 (fX3_misses_ck h9) rfl rfl zl_211 rfl (Nat.le_of_ble_eq_true rfl) (Nat.le_of_ble_eq_true rfl) (Nat.le_of_ble_eq_true rfl) (Nat.le_of_ble_eq_true rfl) dX3_bestRule_17 rfl ?_
        replace hf := zb1_s hf
        obtain ⟨x1_11, hg, hf⟩ := hf
        have hj12 : zz K cX3_bestRule (3, RX3, some .int, 2, 0, 0, some (.int r), μ) 0 0 25 [(0, .ref x0), (1, .int x1_11), (2, .int x2_2)] [] μ := by
          refine zr_iinc (j := 2) (x2_2 + 1) [(2, .int (x2_2 + 1)), (0, .ref x0), (1, .int x1_11)] dX3_bestRule_25 rfl rfl (Nat.le_of_ble_eq_true rfl) rfl ?_
          refine zr_goto 4 dX3_bestRule_28 (by decide) ?_
          exact zr_lv [1, 2, 0] rfl (ih4 x1_11 (x2_2 + 1) hf)
        clear hf
        have hf := hg
        clear hg
        refine zr_icmp_ge 25 dX3_bestRule_20 (by decide) (fun hc => ?_) (fun hc => ?_)
        · rw [if_pos hc] at hf
          cases hf
          exact zr_lv [0, 1, 2] rfl hj12
        · rw [if_neg hc] at hf
          refine zr_iload_n 2 dX3_bestRule_23 rfl ?_
          refine zr_istore_n [(1, .int x2_2), (0, .ref x0), (2, .int x2_2)] dX3_bestRule_24 (Nat.le_of_ble_eq_true rfl) rfl ?_
          cases hf
          exact zr_lv [1, 0, 2] rfl hj12
  exact zr_lv [2, 1, 0] rfl (hL13 _ 0 1 hf)
theorem dX3_surelyComes_0 : decode cX3_surelyComes 0 = .ok (.iconst (-1), 1) := by decide +kernel
theorem dX3_surelyComes_1 : decode cX3_surelyComes 1 = .ok (.istore_n 2, 1) := by decide +kernel
theorem dX3_surelyComes_2 : decode cX3_surelyComes 2 = .ok (.iconst 0, 1) := by decide +kernel
theorem dX3_surelyComes_3 : decode cX3_surelyComes 3 = .ok (.istore_n 3, 1) := by decide +kernel
theorem dX3_surelyComes_4 : decode cX3_surelyComes 4 = .ok (.iload_n 3, 1) := by decide +kernel
theorem dX3_surelyComes_5 : decode cX3_surelyComes 5 = .ok (.bipush 64, 2) := by decide +kernel
theorem dX3_surelyComes_7 : decode cX3_surelyComes 7 = .ok (.if_icmp .ge 47, 3) := by decide +kernel
theorem dX3_surelyComes_10 : decode cX3_surelyComes 10 = .ok (.aload_n 0, 1) := by decide +kernel
theorem dX3_surelyComes_11 : decode cX3_surelyComes 11 = .ok (.iload_n 3, 1) := by decide +kernel
theorem dX3_surelyComes_12 : decode cX3_surelyComes 12 = .ok (.invokevirtual 35, 3) := by decide +kernel
theorem dX3_surelyComes_15 : decode cX3_surelyComes 15 = .ok (.aload_n 0, 1) := by decide +kernel
theorem dX3_surelyComes_16 : decode cX3_surelyComes 16 = .ok (.getfield 18, 3) := by decide +kernel
theorem dX3_surelyComes_19 : decode cX3_surelyComes 19 = .ok (.if_icmp .le 6, 3) := by decide +kernel
theorem dX3_surelyComes_22 : decode cX3_surelyComes 22 = .ok (.goto 26, 3) := by decide +kernel
theorem dX3_surelyComes_25 : decode cX3_surelyComes 25 = .ok (.iload_n 3, 1) := by decide +kernel
theorem dX3_surelyComes_26 : decode cX3_surelyComes 26 = .ok (.iload_n 1, 1) := by decide +kernel
theorem dX3_surelyComes_27 : decode cX3_surelyComes 27 = .ok (.invokestatic 31, 3) := by decide +kernel
theorem dX3_surelyComes_30 : decode cX3_surelyComes 30 = .ok (.istore 4, 2) := by decide +kernel
theorem dX3_surelyComes_32 : decode cX3_surelyComes 32 = .ok (.iload_n 2, 1) := by decide +kernel
theorem dX3_surelyComes_33 : decode cX3_surelyComes 33 = .ok (.iconst (-1), 1) := by decide +kernel
theorem dX3_surelyComes_34 : decode cX3_surelyComes 34 = .ok (.if_icmp .eq 11, 3) := by decide +kernel
theorem dX3_surelyComes_37 : decode cX3_surelyComes 37 = .ok (.iload_n 2, 1) := by decide +kernel
theorem dX3_surelyComes_38 : decode cX3_surelyComes 38 = .ok (.iload 4, 2) := by decide +kernel
theorem dX3_surelyComes_40 : decode cX3_surelyComes 40 = .ok (.if_icmp .eq 5, 3) := by decide +kernel
theorem dX3_surelyComes_43 : decode cX3_surelyComes 43 = .ok (.iconst (-1), 1) := by decide +kernel
theorem dX3_surelyComes_44 : decode cX3_surelyComes 44 = .ok (.ireturn, 1) := by decide +kernel
theorem dX3_surelyComes_45 : decode cX3_surelyComes 45 = .ok (.iload 4, 2) := by decide +kernel
theorem dX3_surelyComes_47 : decode cX3_surelyComes 47 = .ok (.istore_n 2, 1) := by decide +kernel
theorem dX3_surelyComes_48 : decode cX3_surelyComes 48 = .ok (.iinc 3 1, 3) := by decide +kernel
theorem dX3_surelyComes_51 : decode cX3_surelyComes 51 = .ok (.goto (-47), 3) := by decide +kernel
theorem dX3_surelyComes_54 : decode cX3_surelyComes 54 = .ok (.iload_n 2, 1) := by decide +kernel
theorem dX3_surelyComes_55 : decode cX3_surelyComes 55 = .ok (.ireturn, 1) := by decide +kernel
noncomputable def fX3_surelyComes_l4 (μ : zM) (x0 : Nat) (x1 : Int32) (F3 : Int32 → Int32 → Option (Int32)) (x2_1 : Int32) (x3_2 : Int32) : Option (Int32) :=
  if 64 ≤ x3_2 then (
  some x2_1)
  else (
  zb1 (fX3_misses μ x0 x3_2) fun v6 =>
  zb1 (zm_gI μ 3 x0 0) fun v7 =>
  if v6 ≤ v7 then (
  zb1 (fX3_comes μ x3_2 x1) fun v10 =>
  if x2_1 = (-1) then (
  F3 v10 (x3_2 + 1))
  else (
  if x2_1 = v10 then (
  F3 v10 (x3_2 + 1))
  else (
  some (-1))))
  else (
  F3 x2_1 (x3_2 + 1)))
noncomputable def fX3_surelyComes (μ : zM) (x0 : Nat) (x1 : Int32) : Option (Int32) := zgd (zm_ck μ 3 x0) <|
  zf2 (fX3_surelyComes_l4 μ x0 x1) zfu (-1) 0
theorem fX3_surelyComes_ck {μ : zM} {x0 : Nat} {x1 : Int32} {z : Int32} (h : fX3_surelyComes μ x0 x1 = some z) : zm_ck μ 3 x0 = true := (zgd_s h).1
set_option maxHeartbeats 4000000 in
set_option maxRecDepth 100000 in
theorem cX3_surelyComes_ok {μ : zM} {x0 : Nat} {x1 : Int32} {r : Int32} (hf : fX3_surelyComes μ x0 x1 = some r) : zC yX3_surelyComes cX3_surelyComes 5 (some .int) 2 0 0 [.ref x0, .int x1] μ (some (.int r)) μ := by
  replace hf := (zgd_s hf).2
  refine zC.of (by decide) (Nat.le_of_ble_eq_true rfl) (fun K hin => ?_)
  clear hin
  show zz K cX3_surelyComes (5, RX3, some .int, 2, 0, 0, some (.int r), μ) 0 0 0 [(0, .ref x0), (1, .int x1)] [] μ
  refine zr_iconst (-1) dX3_surelyComes_0 (by decide) ?_
  refine zr_istore_n [(2, .int (-1)), (0, .ref x0), (1, .int x1)] dX3_surelyComes_1 (Nat.le_of_ble_eq_true rfl) rfl ?_
  refine zr_iconst 0 dX3_surelyComes_2 (by decide) ?_
  refine zr_istore_n [(3, .int 0), (2, .int (-1)), (0, .ref x0), (1, .int x1)] dX3_surelyComes_3 (Nat.le_of_ble_eq_true rfl) rfl ?_
  have hL11 : ∀ (n : Nat) (x2_1 : Int32) (x3_2 : Int32), zf2 (fX3_surelyComes_l4 μ x0 x1) n x2_1 x3_2 = some r → zz K cX3_surelyComes (5, RX3, some .int, 2, 0, 0, some (.int r), μ) 0 0 4 [(0, .ref x0), (1, .int x1), (2, .int x2_1), (3, .int x3_2)] [] μ := by
    intro n
    induction n with
    | zero => intro x2_1 x3_2 hf; cases hf
    | succ n ih4 =>
      intro x2_1 x3_2 hf
      replace hf := zf2_s hf
      generalize zf2 (fX3_surelyComes_l4 μ x0 x1) n = F3 at hf ih4
      unfold fX3_surelyComes_l4 at hf
      refine zr_iload_n 3 dX3_surelyComes_4 rfl ?_
      refine zr_bipush 64 dX3_surelyComes_5 (by decide) ?_
      refine zr_icmp_ge 54 dX3_surelyComes_7 (by decide) (fun hc => ?_) (fun hc => ?_)
      · rw [if_pos hc] at hf
        refine zr_iload_n 2 dX3_surelyComes_54 rfl ?_
        cases hf
        exact zr_iret dX3_surelyComes_55
      · rw [if_neg hc] at hf
        refine zr_aload_n 0 dX3_surelyComes_10 rfl ?_
        refine zr_iload_n 3 dX3_surelyComes_11 rfl ?_
        replace hf := zb1_s hf
        obtain ⟨v6, h5, hf⟩ := hf
        refine zr_callV (ci := 3) [.int x3_2] (cX3_misses_ok h5) zvs_X3_misses zl_212 zl_213 (fX3_misses_ck h5) rfl rfl zl_211 rfl (Nat.le_of_ble_eq_true rfl) (Nat.le_of_ble_eq_true rfl) (Nat.le_of_ble_eq_true rfl) (Nat.le_of_ble_eq_true rfl) dX3_surelyComes_12 rfl ?_
        refine zr_aload_n 0 dX3_surelyComes_15 rfl ?_
        replace hf := zb1_s hf
        obtain ⟨v7, h8, hf⟩ := hf
        refine zr_get (zm_gI_g h8) zk3 (by decide) zl_203 dX3_surelyComes_16 ?_
        refine zr_icmp_le 25 dX3_surelyComes_19 (by decide) (fun hc => ?_) (fun hc => ?_)
        · rw [if_pos hc] at hf
          refine zr_iload_n 3 dX3_surelyComes_25 rfl ?_
          refine zr_iload_n 1 dX3_surelyComes_26 rfl ?_
          replace hf := zb1_s hf
          obtain ⟨v10, h9, hf⟩ := hf
          refine zr_callS [.int x3_2, .int x1] (cX3_comes_ok h9) zvs_X3_comes zl_209 zl_208 rfl (Nat.le_of_ble_eq_true rfl) (Nat.le_of_ble_eq_true rfl) (Nat.le_of_ble_eq_true rfl) (Nat.le_of_ble_eq_true rfl) dX3_surelyComes_27 rfl ?_
          refine zr_istore [(4, .int v10), (0, .ref x0), (1, .int x1), (2, .int x2_1), (3, .int x3_2)] dX3_surelyComes_30 (Nat.le_of_ble_eq_true rfl) rfl ?_
          refine zr_iload_n 3 dX3_surelyComes_32 rfl ?_
          refine zr_iconst (-1) dX3_surelyComes_33 (by decide) ?_
          refine zr_icmp_eq 45 dX3_surelyComes_34 (by decide) (fun hc => ?_) (fun hc => ?_)
          · rw [if_pos hc] at hf
            refine zr_iload 0 dX3_surelyComes_45 rfl ?_
            refine zr_istore_n [(2, .int v10), (4, .int v10), (0, .ref x0), (1, .int x1), (3, .int x3_2)] dX3_surelyComes_47 (Nat.le_of_ble_eq_true rfl) rfl ?_
            refine zr_iinc (j := 4) (x3_2 + 1) [(3, .int (x3_2 + 1)), (2, .int v10), (4, .int v10), (0, .ref x0), (1, .int x1)] dX3_surelyComes_48 rfl rfl (Nat.le_of_ble_eq_true rfl) rfl ?_
            refine zr_goto 4 dX3_surelyComes_51 (by decide) ?_
            exact zr_lv [3, 4, 1, 0] rfl (ih4 v10 (x3_2 + 1) hf)
          · rw [if_neg hc] at hf
            refine zr_iload_n 3 dX3_surelyComes_37 rfl ?_
            refine zr_iload 0 dX3_surelyComes_38 rfl ?_
            refine zr_icmp_eq 45 dX3_surelyComes_40 (by decide) (fun hc => ?_) (fun hc => ?_)
            · rw [if_pos hc] at hf
              refine zr_iload 0 dX3_surelyComes_45 rfl ?_
              refine zr_istore_n [(2, .int v10), (4, .int v10), (0, .ref x0), (1, .int x1), (3, .int x3_2)] dX3_surelyComes_47 (Nat.le_of_ble_eq_true rfl) rfl ?_
              refine zr_iinc (j := 4) (x3_2 + 1) [(3, .int (x3_2 + 1)), (2, .int v10), (4, .int v10), (0, .ref x0), (1, .int x1)] dX3_surelyComes_48 rfl rfl (Nat.le_of_ble_eq_true rfl) rfl ?_
              refine zr_goto 4 dX3_surelyComes_51 (by decide) ?_
              exact zr_lv [3, 4, 1, 0] rfl (ih4 v10 (x3_2 + 1) hf)
            · rw [if_neg hc] at hf
              refine zr_iconst (-1) dX3_surelyComes_43 (by decide) ?_
              cases hf
              exact zr_iret dX3_surelyComes_44
        · rw [if_neg hc] at hf
          refine zr_goto 48 dX3_surelyComes_22 (by decide) ?_
          refine zr_iinc (j := 3) (x3_2 + 1) [(3, .int (x3_2 + 1)), (0, .ref x0), (1, .int x1), (2, .int x2_1)] dX3_surelyComes_48 rfl rfl (Nat.le_of_ble_eq_true rfl) rfl ?_
          refine zr_goto 4 dX3_surelyComes_51 (by decide) ?_
          exact zr_lv [1, 2, 3, 0] rfl (ih4 x2_1 (x3_2 + 1) hf)
  exact zr_lv [2, 3, 1, 0] rfl (hL11 _ (-1) 0 hf)
theorem dX3_left_0 : decode cX3_left 0 = .ok (.iconst 0, 1) := by decide +kernel
theorem dX3_left_1 : decode cX3_left 1 = .ok (.istore_n 3, 1) := by decide +kernel
theorem dX3_left_2 : decode cX3_left 2 = .ok (.iconst 0, 1) := by decide +kernel
theorem dX3_left_3 : decode cX3_left 3 = .ok (.istore 4, 2) := by decide +kernel
theorem dX3_left_5 : decode cX3_left 5 = .ok (.iload 4, 2) := by decide +kernel
theorem dX3_left_7 : decode cX3_left 7 = .ok (.bipush 64, 2) := by decide +kernel
theorem dX3_left_9 : decode cX3_left 9 = .ok (.if_icmp .ge 35, 3) := by decide +kernel
theorem dX3_left_12 : decode cX3_left 12 = .ok (.iload 4, 2) := by decide +kernel
theorem dX3_left_14 : decode cX3_left 14 = .ok (.iload_n 1, 1) := by decide +kernel
theorem dX3_left_15 : decode cX3_left 15 = .ok (.invokestatic 31, 3) := by decide +kernel
theorem dX3_left_18 : decode cX3_left 18 = .ok (.iload_n 2, 1) := by decide +kernel
theorem dX3_left_19 : decode cX3_left 19 = .ok (.if_icmp .ne 19, 3) := by decide +kernel
theorem dX3_left_22 : decode cX3_left 22 = .ok (.aload_n 0, 1) := by decide +kernel
theorem dX3_left_23 : decode cX3_left 23 = .ok (.iload 4, 2) := by decide +kernel
theorem dX3_left_25 : decode cX3_left 25 = .ok (.invokevirtual 35, 3) := by decide +kernel
theorem dX3_left_28 : decode cX3_left 28 = .ok (.aload_n 0, 1) := by decide +kernel
theorem dX3_left_29 : decode cX3_left 29 = .ok (.getfield 18, 3) := by decide +kernel
theorem dX3_left_32 : decode cX3_left 32 = .ok (.if_icmp .gt 6, 3) := by decide +kernel
theorem dX3_left_35 : decode cX3_left 35 = .ok (.iinc 3 1, 3) := by decide +kernel
theorem dX3_left_38 : decode cX3_left 38 = .ok (.iinc 4 1, 3) := by decide +kernel
theorem dX3_left_41 : decode cX3_left 41 = .ok (.goto (-36), 3) := by decide +kernel
theorem dX3_left_44 : decode cX3_left 44 = .ok (.iload_n 3, 1) := by decide +kernel
theorem dX3_left_45 : decode cX3_left 45 = .ok (.ireturn, 1) := by decide +kernel
noncomputable def fX3_left_l5 (μ : zM) (x1 : Int32) (x2 : Int32) (x0 : Nat) (F3 : Int32 → Int32 → Option (Int32)) (x3_1 : Int32) (x4_2 : Int32) : Option (Int32) :=
  if 64 ≤ x4_2 then (
  some x3_1)
  else (
  zb1 (fX3_comes μ x4_2 x1) fun v8 =>
  zb1 (if v8 = x2 then (
  zb1 (fX3_misses μ x0 x4_2) fun v12 =>
  zb1 (zm_gI μ 3 x0 0) fun v13 =>
  if v13 < v12 then (
  some x3_1)
  else (
  some (x3_1 + 1)))
  else (
  some x3_1) : Option (Int32)) fun (x3_9 : Int32) =>
  F3 x3_9 (x4_2 + 1))
noncomputable def fX3_left (μ : zM) (x0 : Nat) (x1 : Int32) (x2 : Int32) : Option (Int32) := zgd (zm_ck μ 3 x0) <|
  zb1 (zf2 (fX3_left_l5 μ x1 x2 x0) zfu 0 0 : Option (Int32)) fun (x3_5 : Int32) =>
  some x3_5
theorem fX3_left_ck {μ : zM} {x0 : Nat} {x1 : Int32} {x2 : Int32} {z : Int32} (h : fX3_left μ x0 x1 x2 = some z) : zm_ck μ 3 x0 = true := (zgd_s h).1
set_option maxHeartbeats 4000000 in
set_option maxRecDepth 100000 in
theorem cX3_left_ok {μ : zM} {x0 : Nat} {x1 : Int32} {x2 : Int32} {r : Int32} (hf : fX3_left μ x0 x1 x2 = some r) : zC yX3_left cX3_left 5 (some .int) 2 0 0 [.ref x0, .int x1, .int x2] μ (some (.int r)) μ := by
  replace hf := (zgd_s hf).2
  refine zC.of (by decide) (Nat.le_of_ble_eq_true rfl) (fun K hin => ?_)
  clear hin
  show zz K cX3_left (5, RX3, some .int, 2, 0, 0, some (.int r), μ) 0 0 0 [(0, .ref x0), (1, .int x1), (2, .int x2)] [] μ
  refine zr_iconst 0 dX3_left_0 (by decide) ?_
  refine zr_istore_n [(3, .int 0), (0, .ref x0), (1, .int x1), (2, .int x2)] dX3_left_1 (Nat.le_of_ble_eq_true rfl) rfl ?_
  refine zr_iconst 0 dX3_left_2 (by decide) ?_
  refine zr_istore [(4, .int 0), (3, .int 0), (0, .ref x0), (1, .int x1), (2, .int x2)] dX3_left_3 (Nat.le_of_ble_eq_true rfl) rfl ?_
  replace hf := zb1_s hf
  obtain ⟨x3_5, hg, hf⟩ := hf
  have hj6 : zz K cX3_left (5, RX3, some .int, 2, 0, 0, some (.int r), μ) 0 0 44 [(3, .int x3_5)] [] μ := by
    refine zr_iload_n 0 dX3_left_44 rfl ?_
    cases hf
    exact zr_iret dX3_left_45
  clear hf
  have hf := hg
  clear hg
  have hL15 : ∀ (n : Nat) (x3_1 : Int32) (x4_2 : Int32), zf2 (fX3_left_l5 μ x1 x2 x0) n x3_1 x4_2 = some x3_5 → zz K cX3_left (5, RX3, some .int, 2, 0, 0, some (.int r), μ) 0 0 5 [(0, .ref x0), (1, .int x1), (2, .int x2), (3, .int x3_1), (4, .int x4_2)] [] μ := by
    intro n
    induction n with
    | zero => intro x3_1 x4_2 hf; cases hf
    | succ n ih4 =>
      intro x3_1 x4_2 hf
      replace hf := zf2_s hf
      generalize zf2 (fX3_left_l5 μ x1 x2 x0) n = F3 at hf ih4
      unfold fX3_left_l5 at hf
      refine zr_iload 4 dX3_left_5 rfl ?_
      refine zr_bipush 64 dX3_left_7 (by decide) ?_
      refine zr_icmp_ge 44 dX3_left_9 (by decide) (fun hc => ?_) (fun hc => ?_)
      · rw [if_pos hc] at hf
        cases hf
        exact zr_lv [3] rfl hj6
      · rw [if_neg hc] at hf
        refine zr_iload 4 dX3_left_12 rfl ?_
        refine zr_iload_n 1 dX3_left_14 rfl ?_
        replace hf := zb1_s hf
        obtain ⟨v8, h7, hf⟩ := hf
        refine zr_callS [.int x4_2, .int x1] (cX3_comes_ok h7) zvs_X3_comes zl_209 zl_208 rfl (Nat.le_of_ble_eq_true rfl) (Nat.le_of_ble_eq_true rfl) (Nat.le_of_ble_eq_true rfl) (Nat.le_of_ble_eq_true rfl) dX3_left_15 rfl ?_
        refine zr_iload_n 2 dX3_left_18 rfl ?_
        replace hf := zb1_s hf
        obtain ⟨x3_9, hg, hf⟩ := hf
        have hj10 : zz K cX3_left (5, RX3, some .int, 2, 0, 0, some (.int r), μ) 0 0 38 [(0, .ref x0), (1, .int x1), (2, .int x2), (3, .int x3_9), (4, .int x4_2)] [] μ := by
          refine zr_iinc (j := 4) (x4_2 + 1) [(4, .int (x4_2 + 1)), (0, .ref x0), (1, .int x1), (2, .int x2), (3, .int x3_9)] dX3_left_38 rfl rfl (Nat.le_of_ble_eq_true rfl) rfl ?_
          refine zr_goto 5 dX3_left_41 (by decide) ?_
          exact zr_lv [1, 2, 3, 4, 0] rfl (ih4 x3_9 (x4_2 + 1) hf)
        clear hf
        have hf := hg
        clear hg
        refine zr_icmp_ne 38 dX3_left_19 (by decide) (fun hc => ?_) (fun hc => ?_)
        · rw [if_neg hc] at hf
          cases hf
          exact zr_lv [0, 1, 2, 3, 4] rfl hj10
        · rw [if_pos hc] at hf
          refine zr_aload_n 0 dX3_left_22 rfl ?_
          refine zr_iload 4 dX3_left_23 rfl ?_
          replace hf := zb1_s hf
          obtain ⟨v12, h11, hf⟩ := hf
          refine zr_callV (ci := 3) [.int x4_2] (cX3_misses_ok h11) zvs_X3_misses zl_212 zl_213 (fX3_misses_ck h11) rfl rfl zl_211 rfl (Nat.le_of_ble_eq_true rfl) (Nat.le_of_ble_eq_true rfl) (Nat.le_of_ble_eq_true rfl) (Nat.le_of_ble_eq_true rfl) dX3_left_25 rfl ?_
          refine zr_aload_n 0 dX3_left_28 rfl ?_
          replace hf := zb1_s hf
          obtain ⟨v13, h14, hf⟩ := hf
          refine zr_get (zm_gI_g h14) zk3 (by decide) zl_203 dX3_left_29 ?_
          refine zr_icmp_gt 38 dX3_left_32 (by decide) (fun hc => ?_) (fun hc => ?_)
          · rw [if_pos hc] at hf
            cases hf
            exact zr_lv [0, 1, 2, 3, 4] rfl hj10
          · rw [if_neg hc] at hf
            refine zr_iinc (j := 3) (x3_1 + 1) [(3, .int (x3_1 + 1)), (0, .ref x0), (1, .int x1), (2, .int x2), (4, .int x4_2)] dX3_left_35 rfl rfl (Nat.le_of_ble_eq_true rfl) rfl ?_
            cases hf
            exact zr_lv [1, 2, 3, 0, 4] rfl hj10
  exact zr_lv [2, 3, 4, 1, 0] rfl (hL15 _ 0 0 hf)
theorem zl_214 : Cond.code yX3_left cX3_left 5 (some .int) ∈ zt := zt_at 1085 (by decide +kernel)
theorem zvs_X3_left : zvS yX3_left cX3_left 5 (some .int) 2 := ⟨zl_214, zl_207, ⟨by decide +kernel, by decide +kernel, by decide +kernel⟩, by decide⟩
theorem zl_215 : Cond.methodLink RX3 46 yX3_left ∈ zt := zt_at 1082 (by decide +kernel)
theorem zl_216 : Cond.instanceMethod yX3_left ∈ zt := zt_at 1084 (by decide +kernel)
theorem zl_217 : Cond.selects RX3 yX3_left yX3_left ∈ zt := zt_at 36 (by decide +kernel)
theorem zl_218 : Cond.methodLink RX3 49 Lib.Math.max.name ∈ zt := zt_at 1086 (by decide +kernel)
theorem dX3_mostLeft_0 : decode cX3_mostLeft 0 = .ok (.iconst 0, 1) := by decide +kernel
theorem dX3_mostLeft_1 : decode cX3_mostLeft 1 = .ok (.istore_n 2, 1) := by decide +kernel
theorem dX3_mostLeft_2 : decode cX3_mostLeft 2 = .ok (.iconst 0, 1) := by decide +kernel
theorem dX3_mostLeft_3 : decode cX3_mostLeft 3 = .ok (.istore_n 3, 1) := by decide +kernel
theorem dX3_mostLeft_4 : decode cX3_mostLeft 4 = .ok (.iload_n 3, 1) := by decide +kernel
theorem dX3_mostLeft_5 : decode cX3_mostLeft 5 = .ok (.bipush 8, 2) := by decide +kernel
theorem dX3_mostLeft_7 : decode cX3_mostLeft 7 = .ok (.if_icmp .ge 20, 3) := by decide +kernel
theorem dX3_mostLeft_10 : decode cX3_mostLeft 10 = .ok (.iload_n 2, 1) := by decide +kernel
theorem dX3_mostLeft_11 : decode cX3_mostLeft 11 = .ok (.aload_n 0, 1) := by decide +kernel
theorem dX3_mostLeft_12 : decode cX3_mostLeft 12 = .ok (.iload_n 1, 1) := by decide +kernel
theorem dX3_mostLeft_13 : decode cX3_mostLeft 13 = .ok (.iload_n 3, 1) := by decide +kernel
theorem dX3_mostLeft_14 : decode cX3_mostLeft 14 = .ok (.invokevirtual 46, 3) := by decide +kernel
theorem dX3_mostLeft_17 : decode cX3_mostLeft 17 = .ok (.invokestatic 49, 3) := by decide +kernel
theorem dX3_mostLeft_20 : decode cX3_mostLeft 20 = .ok (.istore_n 2, 1) := by decide +kernel
theorem dX3_mostLeft_21 : decode cX3_mostLeft 21 = .ok (.iinc 3 1, 3) := by decide +kernel
theorem dX3_mostLeft_24 : decode cX3_mostLeft 24 = .ok (.goto (-20), 3) := by decide +kernel
theorem dX3_mostLeft_27 : decode cX3_mostLeft 27 = .ok (.iload_n 2, 1) := by decide +kernel
theorem dX3_mostLeft_28 : decode cX3_mostLeft 28 = .ok (.ireturn, 1) := by decide +kernel
noncomputable def fX3_mostLeft_l4 (μ : zM) (x0 : Nat) (x1 : Int32) (F3 : Int32 → Int32 → Option (Int32)) (x2_1 : Int32) (x3_2 : Int32) : Option (Int32) :=
  if 8 ≤ x3_2 then (
  some x2_1)
  else (
  zb1 (fX3_left μ x0 x1 x3_2) fun v8 =>
  F3 (if x2_1 < v8 then v8 else x2_1 : Int32) (x3_2 + 1))
noncomputable def fX3_mostLeft (μ : zM) (x0 : Nat) (x1 : Int32) : Option (Int32) := zgd (zm_ck μ 3 x0) <|
  zb1 (zf2 (fX3_mostLeft_l4 μ x0 x1) zfu 0 0 : Option (Int32)) fun (x2_5 : Int32) =>
  some x2_5
theorem fX3_mostLeft_ck {μ : zM} {x0 : Nat} {x1 : Int32} {z : Int32} (h : fX3_mostLeft μ x0 x1 = some z) : zm_ck μ 3 x0 = true := (zgd_s h).1
set_option maxHeartbeats 4000000 in
set_option maxRecDepth 100000 in
theorem cX3_mostLeft_ok {μ : zM} {x0 : Nat} {x1 : Int32} {r : Int32} (hf : fX3_mostLeft μ x0 x1 = some r) : zC yX3_mostLeft cX3_mostLeft 4 (some .int) 3 0 0 [.ref x0, .int x1] μ (some (.int r)) μ := by
  replace hf := (zgd_s hf).2
  refine zC.of (by decide) (Nat.le_of_ble_eq_true rfl) (fun K hin => ?_)
  clear hin
  show zz K cX3_mostLeft (4, RX3, some .int, 3, 0, 0, some (.int r), μ) 0 0 0 [(0, .ref x0), (1, .int x1)] [] μ
  refine zr_iconst 0 dX3_mostLeft_0 (by decide) ?_
  refine zr_istore_n [(2, .int 0), (0, .ref x0), (1, .int x1)] dX3_mostLeft_1 (Nat.le_of_ble_eq_true rfl) rfl ?_
  refine zr_iconst 0 dX3_mostLeft_2 (by decide) ?_
  refine zr_istore_n [(3, .int 0), (2, .int 0), (0, .ref x0), (1, .int x1)] dX3_mostLeft_3 (Nat.le_of_ble_eq_true rfl) rfl ?_
  replace hf := zb1_s hf
  obtain ⟨x2_5, hg, hf⟩ := hf
  have hj6 : zz K cX3_mostLeft (4, RX3, some .int, 3, 0, 0, some (.int r), μ) 0 0 27 [(2, .int x2_5)] [] μ := by
    refine zr_iload_n 0 dX3_mostLeft_27 rfl ?_
    cases hf
    exact zr_iret dX3_mostLeft_28
  clear hf
  have hf := hg
  clear hg
  have hL9 : ∀ (n : Nat) (x2_1 : Int32) (x3_2 : Int32), zf2 (fX3_mostLeft_l4 μ x0 x1) n x2_1 x3_2 = some x2_5 → zz K cX3_mostLeft (4, RX3, some .int, 3, 0, 0, some (.int r), μ) 0 0 4 [(0, .ref x0), (1, .int x1), (2, .int x2_1), (3, .int x3_2)] [] μ := by
    intro n
    induction n with
    | zero => intro x2_1 x3_2 hf; cases hf
    | succ n ih4 =>
      intro x2_1 x3_2 hf
      replace hf := zf2_s hf
      generalize zf2 (fX3_mostLeft_l4 μ x0 x1) n = F3 at hf ih4
      unfold fX3_mostLeft_l4 at hf
      refine zr_iload_n 3 dX3_mostLeft_4 rfl ?_
      refine zr_bipush 8 dX3_mostLeft_5 (by decide) ?_
      refine zr_icmp_ge 27 dX3_mostLeft_7 (by decide) (fun hc => ?_) (fun hc => ?_)
      · rw [if_pos hc] at hf
        cases hf
        exact zr_lv [2] rfl hj6
      · rw [if_neg hc] at hf
        refine zr_iload_n 2 dX3_mostLeft_10 rfl ?_
        refine zr_aload_n 0 dX3_mostLeft_11 rfl ?_
        refine zr_iload_n 1 dX3_mostLeft_12 rfl ?_
        refine zr_iload_n 3 dX3_mostLeft_13 rfl ?_
        replace hf := zb1_s hf
        obtain ⟨v8, h7, hf⟩ := hf
        refine zr_callV (ci := 3) [.int x1, .int x3_2] (cX3_left_ok h7) zvs_X3_left zl_216 zl_217 (fX3_left_ck h7) rfl rfl zl_215 rfl (Nat.le_of_ble_eq_true rfl) (Nat.le_of_ble_eq_true rfl) (Nat.le_of_ble_eq_true rfl) (Nat.le_of_ble_eq_true rfl) dX3_mostLeft_14 rfl ?_
        refine zr_mmax zl_218 zl_55 zl_11 zl_56 (Nat.le_of_ble_eq_true rfl) (Nat.le_of_ble_eq_true rfl) (Nat.le_of_ble_eq_true rfl) (Nat.le_of_ble_eq_true rfl) dX3_mostLeft_17 ?_
        refine zr_istore_n [(2, .int (if x2_1 < v8 then v8 else x2_1 : Int32)), (0, .ref x0), (1, .int x1), (3, .int x3_2)] dX3_mostLeft_20 (Nat.le_of_ble_eq_true rfl) rfl ?_
        refine zr_iinc (j := 3) (x3_2 + 1) [(3, .int (x3_2 + 1)), (2, .int (if x2_1 < v8 then v8 else x2_1 : Int32)), (0, .ref x0), (1, .int x1)] dX3_mostLeft_21 rfl rfl (Nat.le_of_ble_eq_true rfl) rfl ?_
        refine zr_goto 4 dX3_mostLeft_24 (by decide) ?_
        exact zr_lv [2, 3, 1, 0] rfl (ih4 (if x2_1 < v8 then v8 else x2_1 : Int32) (x3_2 + 1) hf)
  exact zr_lv [2, 3, 1, 0] rfl (hL9 _ 0 0 hf)
theorem zl_219 : Cond.code yX3_fits cX3_fits 3 (some .int) ∈ zt := zt_at 1060 (by decide +kernel)
theorem zvs_X3_fits : zvS yX3_fits cX3_fits 3 (some .int) 0 := ⟨zl_219, zl_207, ⟨by decide +kernel, by decide +kernel, by decide +kernel⟩, by decide⟩
theorem zl_220 : Cond.methodLink RX3 39 yX3_fits ∈ zt := zt_at 1077 (by decide +kernel)
theorem zl_221 : Cond.instanceMethod yX3_fits ∈ zt := zt_at 1058 (by decide +kernel)
theorem zl_222 : Cond.selects RX3 yX3_fits yX3_fits ∈ zt := zt_at 1059 (by decide +kernel)
theorem zl_223 : Cond.code yX3_mostLeft cX3_mostLeft 4 (some .int) ∈ zt := zt_at 1081 (by decide +kernel)
theorem zvs_X3_mostLeft : zvS yX3_mostLeft cX3_mostLeft 4 (some .int) 1 := ⟨zl_223, zl_207, ⟨by decide +kernel, by decide +kernel, by decide +kernel⟩, by decide⟩
theorem zl_224 : Cond.methodLink RX3 43 yX3_mostLeft ∈ zt := zt_at 1078 (by decide +kernel)
theorem zl_225 : Cond.instanceMethod yX3_mostLeft ∈ zt := zt_at 1080 (by decide +kernel)
theorem zl_226 : Cond.selects RX3 yX3_mostLeft yX3_mostLeft ∈ zt := zt_at 35 (by decide +kernel)
theorem dX3_wordToCall_0 : decode cX3_wordToCall 0 = .ok (.iconst (-1), 1) := by decide +kernel
theorem dX3_wordToCall_1 : decode cX3_wordToCall 1 = .ok (.istore_n 1, 1) := by decide +kernel
theorem dX3_wordToCall_2 : decode cX3_wordToCall 2 = .ok (.bipush 65, 2) := by decide +kernel
theorem dX3_wordToCall_4 : decode cX3_wordToCall 4 = .ok (.istore_n 2, 1) := by decide +kernel
theorem dX3_wordToCall_5 : decode cX3_wordToCall 5 = .ok (.iconst 0, 1) := by decide +kernel
theorem dX3_wordToCall_6 : decode cX3_wordToCall 6 = .ok (.istore_n 3, 1) := by decide +kernel
theorem dX3_wordToCall_7 : decode cX3_wordToCall 7 = .ok (.iload_n 3, 1) := by decide +kernel
theorem dX3_wordToCall_8 : decode cX3_wordToCall 8 = .ok (.bipush 8, 2) := by decide +kernel
theorem dX3_wordToCall_10 : decode cX3_wordToCall 10 = .ok (.if_icmp .ge 34, 3) := by decide +kernel
theorem dX3_wordToCall_13 : decode cX3_wordToCall 13 = .ok (.aload_n 0, 1) := by decide +kernel
theorem dX3_wordToCall_14 : decode cX3_wordToCall 14 = .ok (.invokevirtual 39, 3) := by decide +kernel
theorem dX3_wordToCall_17 : decode cX3_wordToCall 17 = .ok (.ifCond .le 27, 3) := by decide +kernel
theorem dX3_wordToCall_20 : decode cX3_wordToCall 20 = .ok (.aload_n 0, 1) := by decide +kernel
theorem dX3_wordToCall_21 : decode cX3_wordToCall 21 = .ok (.iload_n 3, 1) := by decide +kernel
theorem dX3_wordToCall_22 : decode cX3_wordToCall 22 = .ok (.invokevirtual 43, 3) := by decide +kernel
theorem dX3_wordToCall_25 : decode cX3_wordToCall 25 = .ok (.istore 4, 2) := by decide +kernel
theorem dX3_wordToCall_27 : decode cX3_wordToCall 27 = .ok (.iload 4, 2) := by decide +kernel
theorem dX3_wordToCall_29 : decode cX3_wordToCall 29 = .ok (.iload_n 2, 1) := by decide +kernel
theorem dX3_wordToCall_30 : decode cX3_wordToCall 30 = .ok (.if_icmp .ge 8, 3) := by decide +kernel
theorem dX3_wordToCall_33 : decode cX3_wordToCall 33 = .ok (.iload 4, 2) := by decide +kernel
theorem dX3_wordToCall_35 : decode cX3_wordToCall 35 = .ok (.istore_n 2, 1) := by decide +kernel
theorem dX3_wordToCall_36 : decode cX3_wordToCall 36 = .ok (.iload_n 3, 1) := by decide +kernel
theorem dX3_wordToCall_37 : decode cX3_wordToCall 37 = .ok (.istore_n 1, 1) := by decide +kernel
theorem dX3_wordToCall_38 : decode cX3_wordToCall 38 = .ok (.iinc 3 1, 3) := by decide +kernel
theorem dX3_wordToCall_41 : decode cX3_wordToCall 41 = .ok (.goto (-34), 3) := by decide +kernel
theorem dX3_wordToCall_44 : decode cX3_wordToCall 44 = .ok (.iload_n 1, 1) := by decide +kernel
theorem dX3_wordToCall_45 : decode cX3_wordToCall 45 = .ok (.ireturn, 1) := by decide +kernel
noncomputable def fX3_wordToCall_l7 (μ : zM) (x0 : Nat) (F4 : Int32 → Int32 → Int32 → Option (Int32)) (x1_1 : Int32) (x2_2 : Int32) (x3_3 : Int32) : Option (Int32) :=
  if 8 ≤ x3_3 then (
  some x1_1)
  else (
  zb1 (fX3_fits μ x0) fun v9 =>
  if v9 ≤ 0 then (
  some x1_1)
  else (
  zb1 (fX3_mostLeft μ x0 x3_3) fun v11 =>
  zb2 (if x2_2 ≤ v11 then (
  some (x1_1, x2_2))
  else (
  some (x3_3, v11)) : Option (Int32 × Int32)) fun (x1_12 : Int32) (x2_13 : Int32) =>
  F4 x1_12 x2_13 (x3_3 + 1)))
noncomputable def fX3_wordToCall (μ : zM) (x0 : Nat) : Option (Int32) := zgd (zm_ck μ 3 x0) <|
  zb1 (zf3 (fX3_wordToCall_l7 μ x0) zfu (-1) 65 0 : Option (Int32)) fun (x1_6 : Int32) =>
  some x1_6
theorem fX3_wordToCall_ck {μ : zM} {x0 : Nat} {z : Int32} (h : fX3_wordToCall μ x0 = some z) : zm_ck μ 3 x0 = true := (zgd_s h).1
set_option maxHeartbeats 4000000 in
set_option maxRecDepth 100000 in
theorem cX3_wordToCall_ok {μ : zM} {x0 : Nat} {r : Int32} (hf : fX3_wordToCall μ x0 = some r) : zC yX3_wordToCall cX3_wordToCall 5 (some .int) 4 0 0 [.ref x0] μ (some (.int r)) μ := by
  replace hf := (zgd_s hf).2
  refine zC.of (by decide) (Nat.le_of_ble_eq_true rfl) (fun K hin => ?_)
  clear hin
  show zz K cX3_wordToCall (5, RX3, some .int, 4, 0, 0, some (.int r), μ) 0 0 0 [(0, .ref x0)] [] μ
  refine zr_iconst (-1) dX3_wordToCall_0 (by decide) ?_
  refine zr_istore_n [(1, .int (-1)), (0, .ref x0)] dX3_wordToCall_1 (Nat.le_of_ble_eq_true rfl) rfl ?_
  refine zr_bipush 65 dX3_wordToCall_2 (by decide) ?_
  refine zr_istore_n [(2, .int 65), (1, .int (-1)), (0, .ref x0)] dX3_wordToCall_4 (Nat.le_of_ble_eq_true rfl) rfl ?_
  refine zr_iconst 0 dX3_wordToCall_5 (by decide) ?_
  refine zr_istore_n [(3, .int 0), (2, .int 65), (1, .int (-1)), (0, .ref x0)] dX3_wordToCall_6 (Nat.le_of_ble_eq_true rfl) rfl ?_
  replace hf := zb1_s hf
  obtain ⟨x1_6, hg, hf⟩ := hf
  have hj7 : zz K cX3_wordToCall (5, RX3, some .int, 4, 0, 0, some (.int r), μ) 0 0 44 [(1, .int x1_6)] [] μ := by
    refine zr_iload_n 0 dX3_wordToCall_44 rfl ?_
    cases hf
    exact zr_iret dX3_wordToCall_45
  clear hf
  have hf := hg
  clear hg
  have hL15 : ∀ (n : Nat) (x1_1 : Int32) (x2_2 : Int32) (x3_3 : Int32), zf3 (fX3_wordToCall_l7 μ x0) n x1_1 x2_2 x3_3 = some x1_6 → zz K cX3_wordToCall (5, RX3, some .int, 4, 0, 0, some (.int r), μ) 0 0 7 [(0, .ref x0), (1, .int x1_1), (2, .int x2_2), (3, .int x3_3)] [] μ := by
    intro n
    induction n with
    | zero => intro x1_1 x2_2 x3_3 hf; cases hf
    | succ n ih5 =>
      intro x1_1 x2_2 x3_3 hf
      replace hf := zf3_s hf
      generalize zf3 (fX3_wordToCall_l7 μ x0) n = F4 at hf ih5
      unfold fX3_wordToCall_l7 at hf
      refine zr_iload_n 3 dX3_wordToCall_7 rfl ?_
      refine zr_bipush 8 dX3_wordToCall_8 (by decide) ?_
      refine zr_icmp_ge 44 dX3_wordToCall_10 (by decide) (fun hc => ?_) (fun hc => ?_)
      · rw [if_pos hc] at hf
        cases hf
        exact zr_lv [1] rfl hj7
      · rw [if_neg hc] at hf
        refine zr_aload_n 0 dX3_wordToCall_13 rfl ?_
        replace hf := zb1_s hf
        obtain ⟨v9, h8, hf⟩ := hf
        refine zr_callV (ci := 3) [] (cX3_fits_ok h8) zvs_X3_fits zl_221 zl_222 (fX3_fits_ck h8) rfl rfl zl_220 rfl (Nat.le_of_ble_eq_true rfl) (Nat.le_of_ble_eq_true rfl) (Nat.le_of_ble_eq_true rfl) (Nat.le_of_ble_eq_true rfl) dX3_wordToCall_14 rfl ?_
        refine zr_if_le 44 dX3_wordToCall_17 (by decide) (fun hc => ?_) (fun hc => ?_)
        · rw [if_pos hc] at hf
          cases hf
          exact zr_lv [1] rfl hj7
        · rw [if_neg hc] at hf
          refine zr_aload_n 0 dX3_wordToCall_20 rfl ?_
          refine zr_iload_n 3 dX3_wordToCall_21 rfl ?_
          replace hf := zb1_s hf
          obtain ⟨v11, h10, hf⟩ := hf
          refine zr_callV (ci := 3) [.int x3_3] (cX3_mostLeft_ok h10) zvs_X3_mostLeft zl_225 zl_226 (fX3_mostLeft_ck h10) rfl rfl zl_224 rfl (Nat.le_of_ble_eq_true rfl) (Nat.le_of_ble_eq_true rfl) (Nat.le_of_ble_eq_true rfl) (Nat.le_of_ble_eq_true rfl) dX3_wordToCall_22 rfl ?_
          refine zr_istore [(4, .int v11), (0, .ref x0), (1, .int x1_1), (2, .int x2_2), (3, .int x3_3)] dX3_wordToCall_25 (Nat.le_of_ble_eq_true rfl) rfl ?_
          refine zr_iload 0 dX3_wordToCall_27 rfl ?_
          refine zr_iload_n 3 dX3_wordToCall_29 rfl ?_
          replace hf := zb2_s hf
          obtain ⟨x1_12, x2_13, hg, hf⟩ := hf
          have hj14 : zz K cX3_wordToCall (5, RX3, some .int, 4, 0, 0, some (.int r), μ) 0 0 38 [(0, .ref x0), (1, .int x1_12), (2, .int x2_13), (3, .int x3_3)] [] μ := by
            refine zr_iinc (j := 3) (x3_3 + 1) [(3, .int (x3_3 + 1)), (0, .ref x0), (1, .int x1_12), (2, .int x2_13)] dX3_wordToCall_38 rfl rfl (Nat.le_of_ble_eq_true rfl) rfl ?_
            refine zr_goto 7 dX3_wordToCall_41 (by decide) ?_
            exact zr_lv [1, 2, 3, 0] rfl (ih5 x1_12 x2_13 (x3_3 + 1) hf)
          clear hf
          have hf := hg
          clear hg
          refine zr_icmp_ge 38 dX3_wordToCall_30 (by decide) (fun hc => ?_) (fun hc => ?_)
          · rw [if_pos hc] at hf
            cases hf
            exact zr_lv [1, 2, 3, 4] rfl hj14
          · rw [if_neg hc] at hf
            refine zr_iload 0 dX3_wordToCall_33 rfl ?_
            refine zr_istore_n [(2, .int v11), (4, .int v11), (0, .ref x0), (1, .int x1_1), (3, .int x3_3)] dX3_wordToCall_35 (Nat.le_of_ble_eq_true rfl) rfl ?_
            refine zr_iload_n 4 dX3_wordToCall_36 rfl ?_
            refine zr_istore_n [(1, .int x3_3), (2, .int v11), (4, .int v11), (0, .ref x0), (3, .int x3_3)] dX3_wordToCall_37 (Nat.le_of_ble_eq_true rfl) rfl ?_
            cases hf
            exact zr_lv [3, 0, 1, 4] rfl hj14
  exact zr_lv [3, 2, 1, 0] rfl (hL15 _ (-1) 65 0 hf)
