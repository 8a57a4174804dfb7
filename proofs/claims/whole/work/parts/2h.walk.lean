theorem zl_556 : Cond.code yX8_gainOfCouple cX8_gainOfCouple 7 (some .int) ∈ zt := zt_at 978 (by decide +kernel)
theorem zvs_X8_gainOfCouple : zvS yX8_gainOfCouple cX8_gainOfCouple 7 (some .int) 2 := ⟨zl_556, zl_550, ⟨by decide +kernel, by decide +kernel, by decide +kernel⟩, by decide⟩
theorem zl_557 : Cond.methodLink RX8 43 yX8_gainOfCouple ∈ zt := zt_at 976 (by decide +kernel)
theorem zl_558 : Cond.static yX8_gainOfCouple ∈ zt := zt_at 977 (by decide +kernel)
theorem dX8_couples_0 : decode cX8_couples 0 = .ok (.iconst 0, 1) := by decide +kernel
theorem dX8_couples_1 : decode cX8_couples 1 = .ok (.istore_n 1, 1) := by decide +kernel
theorem dX8_couples_2 : decode cX8_couples 2 = .ok (.iload_n 1, 1) := by decide +kernel
theorem dX8_couples_3 : decode cX8_couples 3 = .ok (.bipush 6, 2) := by decide +kernel
theorem dX8_couples_5 : decode cX8_couples 5 = .ok (.if_icmp .ge 18, 3) := by decide +kernel
theorem dX8_couples_8 : decode cX8_couples 8 = .ok (.aload_n 0, 1) := by decide +kernel
theorem dX8_couples_9 : decode cX8_couples 9 = .ok (.iload_n 1, 1) := by decide +kernel
theorem dX8_couples_10 : decode cX8_couples 10 = .ok (.invokestatic 43, 3) := by decide +kernel
theorem dX8_couples_13 : decode cX8_couples 13 = .ok (.iconst (-1), 1) := by decide +kernel
theorem dX8_couples_14 : decode cX8_couples 14 = .ok (.if_icmp .eq 9, 3) := by decide +kernel
theorem dX8_couples_17 : decode cX8_couples 17 = .ok (.iinc 1 1, 3) := by decide +kernel
theorem dX8_couples_20 : decode cX8_couples 20 = .ok (.goto (-18), 3) := by decide +kernel
theorem dX8_couples_23 : decode cX8_couples 23 = .ok (.iload_n 1, 1) := by decide +kernel
theorem dX8_couples_24 : decode cX8_couples 24 = .ok (.ireturn, 1) := by decide +kernel
noncomputable def fX8_couples_l2 (μ : zM) (x0 : Nat) (F2 : Int32 → Option (Int32)) (x1_1 : Int32) : Option (Int32) :=
  if 6 ≤ x1_1 then (
  some x1_1)
  else (
  zb1 (fX8_gainOfCouple μ x0 x1_1) fun v7 =>
  if v7 = (-1) then (
  some x1_1)
  else (
  F2 (x1_1 + 1)))
noncomputable def fX8_couples (μ : zM) (x0 : Nat) : Option (Int32) :=
  zb1 (zf1 (fX8_couples_l2 μ x0) zfu 0 : Option (Int32)) fun (x1_4 : Int32) =>
  some x1_4
set_option maxHeartbeats 4000000 in
set_option maxRecDepth 100000 in
theorem cX8_couples_ok {μ : zM} {x0 : Nat} {r : Int32} (hf : fX8_couples μ x0 = some r) : zC yX8_couples cX8_couples 2 (some .int) 4 0 0 [.ref x0] μ (some (.int r)) μ := by
  unfold fX8_couples at hf
  refine zC.of (by decide) (Nat.le_of_ble_eq_true rfl) (fun K hin => ?_)
  clear hin
  show zz K cX8_couples (2, RX8, some .int, 4, 0, 0, some (.int r), μ) 0 0 0 [(0, .ref x0)] [] μ
  refine zr_iconst 0 dX8_couples_0 (by decide) ?_
  refine zr_istore_n [(1, .int 0), (0, .ref x0)] dX8_couples_1 (Nat.le_of_ble_eq_true rfl) rfl ?_
  replace hf := zb1_s hf
  obtain ⟨x1_4, hg, hf⟩ := hf
  have hj5 : zz K cX8_couples (2, RX8, some .int, 4, 0, 0, some (.int r), μ) 0 0 23 [(1, .int x1_4)] [] μ := by
    refine zr_iload_n 0 dX8_couples_23 rfl ?_
    cases hf
    exact zr_iret dX8_couples_24
  clear hf
  have hf := hg
  clear hg
  have hL8 : ∀ (n : Nat) (x1_1 : Int32), zf1 (fX8_couples_l2 μ x0) n x1_1 = some x1_4 → zz K cX8_couples (2, RX8, some .int, 4, 0, 0, some (.int r), μ) 0 0 2 [(0, .ref x0), (1, .int x1_1)] [] μ := by
    intro n
    induction n with
    | zero => intro x1_1 hf; cases hf
    | succ n ih3 =>
      intro x1_1 hf
      replace hf := zf1_s hf
      generalize zf1 (fX8_couples_l2 μ x0) n = F2 at hf ih3
      unfold fX8_couples_l2 at hf
      refine zr_iload_n 1 dX8_couples_2 rfl ?_
      refine zr_bipush 6 dX8_couples_3 (by decide) ?_
      refine zr_icmp_ge 23 dX8_couples_5 (by decide) (fun hc => ?_) (fun hc => ?_)
      · rw [if_pos hc] at hf
        cases hf
        exact zr_lv [1] rfl hj5
      · rw [if_neg hc] at hf
        refine zr_aload_n 0 dX8_couples_8 rfl ?_
        refine zr_iload_n 1 dX8_couples_9 rfl ?_
        replace hf := zb1_s hf
        obtain ⟨v7, h6, hf⟩ := hf
        refine zr_callS [.ref x0, .int x1_1] (cX8_gainOfCouple_ok h6) zvs_X8_gainOfCouple zl_558 zl_557 rfl (Nat.le_of_ble_eq_true rfl) (Nat.le_of_ble_eq_true rfl) (Nat.le_of_ble_eq_true rfl) (Nat.le_of_ble_eq_true rfl) dX8_couples_10 rfl ?_
        refine zr_iconst (-1) dX8_couples_13 (by decide) ?_
        refine zr_icmp_eq 23 dX8_couples_14 (by decide) (fun hc => ?_) (fun hc => ?_)
        · rw [if_pos hc] at hf
          cases hf
          exact zr_lv [1] rfl hj5
        · rw [if_neg hc] at hf
          refine zr_iinc (j := 1) (x1_1 + 1) [(1, .int (x1_1 + 1)), (0, .ref x0)] dX8_couples_17 rfl rfl (Nat.le_of_ble_eq_true rfl) rfl ?_
          refine zr_goto 2 dX8_couples_20 (by decide) ?_
          exact zr_lv [1, 0] rfl (ih3 (x1_1 + 1) hf)
  exact zr_lv [1, 0] rfl (hL8 _ 0 hf)
theorem zl_559 : Cond.code yX8_couples cX8_couples 2 (some .int) ∈ zt := zt_at 975 (by decide +kernel)
theorem zvs_X8_couples : zvS yX8_couples cX8_couples 2 (some .int) 1 := ⟨zl_559, zl_550, ⟨by decide +kernel, by decide +kernel, by decide +kernel⟩, by decide⟩
theorem zl_560 : Cond.methodLink RX8 39 yX8_couples ∈ zt := zt_at 973 (by decide +kernel)
theorem zl_561 : Cond.static yX8_couples ∈ zt := zt_at 974 (by decide +kernel)
theorem dX8_gain_0 : decode cX8_gain 0 = .ok (.iconst 0, 1) := by decide +kernel
theorem dX8_gain_1 : decode cX8_gain 1 = .ok (.istore_n 1, 1) := by decide +kernel
theorem dX8_gain_2 : decode cX8_gain 2 = .ok (.aload_n 0, 1) := by decide +kernel
theorem dX8_gain_3 : decode cX8_gain 3 = .ok (.invokestatic 39, 3) := by decide +kernel
theorem dX8_gain_6 : decode cX8_gain 6 = .ok (.istore_n 2, 1) := by decide +kernel
theorem dX8_gain_7 : decode cX8_gain 7 = .ok (.iconst 0, 1) := by decide +kernel
theorem dX8_gain_8 : decode cX8_gain 8 = .ok (.istore_n 3, 1) := by decide +kernel
theorem dX8_gain_9 : decode cX8_gain 9 = .ok (.iload_n 3, 1) := by decide +kernel
theorem dX8_gain_10 : decode cX8_gain 10 = .ok (.iload_n 2, 1) := by decide +kernel
theorem dX8_gain_11 : decode cX8_gain 11 = .ok (.if_icmp .ge 17, 3) := by decide +kernel
theorem dX8_gain_14 : decode cX8_gain 14 = .ok (.iload_n 1, 1) := by decide +kernel
theorem dX8_gain_15 : decode cX8_gain 15 = .ok (.aload_n 0, 1) := by decide +kernel
theorem dX8_gain_16 : decode cX8_gain 16 = .ok (.iload_n 3, 1) := by decide +kernel
theorem dX8_gain_17 : decode cX8_gain 17 = .ok (.invokestatic 43, 3) := by decide +kernel
theorem dX8_gain_20 : decode cX8_gain 20 = .ok (.iadd, 1) := by decide +kernel
theorem dX8_gain_21 : decode cX8_gain 21 = .ok (.istore_n 1, 1) := by decide +kernel
theorem dX8_gain_22 : decode cX8_gain 22 = .ok (.iinc 3 1, 3) := by decide +kernel
theorem dX8_gain_25 : decode cX8_gain 25 = .ok (.goto (-16), 3) := by decide +kernel
theorem dX8_gain_28 : decode cX8_gain 28 = .ok (.iload_n 1, 1) := by decide +kernel
theorem dX8_gain_29 : decode cX8_gain 29 = .ok (.ireturn, 1) := by decide +kernel
noncomputable def fX8_gain_l9 (v2 : Int32) (μ : zM) (x0 : Nat) (F5 : Int32 → Int32 → Option (Int32)) (x1_3 : Int32) (x3_4 : Int32) : Option (Int32) :=
  if v2 ≤ x3_4 then (
  some x1_3)
  else (
  zb1 (fX8_gainOfCouple μ x0 x3_4) fun v10 =>
  F5 (x1_3 + v10) (x3_4 + 1))
noncomputable def fX8_gain (μ : zM) (x0 : Nat) : Option (Int32) :=
  zb1 (fX8_couples μ x0) fun v2 =>
  zb1 (zf2 (fX8_gain_l9 v2 μ x0) zfu 0 0 : Option (Int32)) fun (x1_7 : Int32) =>
  some x1_7
set_option maxHeartbeats 4000000 in
set_option maxRecDepth 100000 in
theorem cX8_gain_ok {μ : zM} {x0 : Nat} {r : Int32} (hf : fX8_gain μ x0 = some r) : zC yX8_gain cX8_gain 4 (some .int) 5 0 0 [.ref x0] μ (some (.int r)) μ := by
  unfold fX8_gain at hf
  refine zC.of (by decide) (Nat.le_of_ble_eq_true rfl) (fun K hin => ?_)
  clear hin
  show zz K cX8_gain (4, RX8, some .int, 5, 0, 0, some (.int r), μ) 0 0 0 [(0, .ref x0)] [] μ
  refine zr_iconst 0 dX8_gain_0 (by decide) ?_
  refine zr_istore_n [(1, .int 0), (0, .ref x0)] dX8_gain_1 (Nat.le_of_ble_eq_true rfl) rfl ?_
  refine zr_aload_n 1 dX8_gain_2 rfl ?_
  replace hf := zb1_s hf
  obtain ⟨v2, h1, hf⟩ := hf
  refine zr_callS [.ref x0] (cX8_couples_ok h1) zvs_X8_couples zl_561 zl_560 rfl (Nat.le_of_ble_eq_true rfl) (Nat.le_of_ble_eq_true rfl) (Nat.le_of_ble_eq_true rfl) (Nat.le_of_ble_eq_true rfl) dX8_gain_3 rfl ?_
  refine zr_istore_n [(2, .int v2), (1, .int 0), (0, .ref x0)] dX8_gain_6 (Nat.le_of_ble_eq_true rfl) rfl ?_
  refine zr_iconst 0 dX8_gain_7 (by decide) ?_
  refine zr_istore_n [(3, .int 0), (2, .int v2), (1, .int 0), (0, .ref x0)] dX8_gain_8 (Nat.le_of_ble_eq_true rfl) rfl ?_
  replace hf := zb1_s hf
  obtain ⟨x1_7, hg, hf⟩ := hf
  have hj8 : zz K cX8_gain (4, RX8, some .int, 5, 0, 0, some (.int r), μ) 0 0 28 [(1, .int x1_7)] [] μ := by
    refine zr_iload_n 0 dX8_gain_28 rfl ?_
    cases hf
    exact zr_iret dX8_gain_29
  clear hf
  have hf := hg
  clear hg
  have hL11 : ∀ (n : Nat) (x1_3 : Int32) (x3_4 : Int32), zf2 (fX8_gain_l9 v2 μ x0) n x1_3 x3_4 = some x1_7 → zz K cX8_gain (4, RX8, some .int, 5, 0, 0, some (.int r), μ) 0 0 9 [(0, .ref x0), (1, .int x1_3), (2, .int v2), (3, .int x3_4)] [] μ := by
    intro n
    induction n with
    | zero => intro x1_3 x3_4 hf; cases hf
    | succ n ih6 =>
      intro x1_3 x3_4 hf
      replace hf := zf2_s hf
      generalize zf2 (fX8_gain_l9 v2 μ x0) n = F5 at hf ih6
      unfold fX8_gain_l9 at hf
      refine zr_iload_n 3 dX8_gain_9 rfl ?_
      refine zr_iload_n 2 dX8_gain_10 rfl ?_
      refine zr_icmp_ge 28 dX8_gain_11 (by decide) (fun hc => ?_) (fun hc => ?_)
      · rw [if_pos hc] at hf
        cases hf
        exact zr_lv [1] rfl hj8
      · rw [if_neg hc] at hf
        refine zr_iload_n 1 dX8_gain_14 rfl ?_
        refine zr_aload_n 0 dX8_gain_15 rfl ?_
        refine zr_iload_n 3 dX8_gain_16 rfl ?_
        replace hf := zb1_s hf
        obtain ⟨v10, h9, hf⟩ := hf
        refine zr_callS [.ref x0, .int x3_4] (cX8_gainOfCouple_ok h9) zvs_X8_gainOfCouple zl_558 zl_557 rfl (Nat.le_of_ble_eq_true rfl) (Nat.le_of_ble_eq_true rfl) (Nat.le_of_ble_eq_true rfl) (Nat.le_of_ble_eq_true rfl) dX8_gain_17 rfl ?_
        refine zr_iadd dX8_gain_20 ?_
        refine zr_istore_n [(1, .int (x1_3 + v10)), (0, .ref x0), (2, .int v2), (3, .int x3_4)] dX8_gain_21 (Nat.le_of_ble_eq_true rfl) rfl ?_
        refine zr_iinc (j := 3) (x3_4 + 1) [(3, .int (x3_4 + 1)), (1, .int (x1_3 + v10)), (0, .ref x0), (2, .int v2)] dX8_gain_22 rfl rfl (Nat.le_of_ble_eq_true rfl) rfl ?_
        refine zr_goto 9 dX8_gain_25 (by decide) ?_
        exact zr_lv [2, 1, 3, 0] rfl (ih6 (x1_3 + v10) (x3_4 + 1) hf)
  exact zr_lv [3, 2, 1, 0] rfl (hL11 _ 0 0 hf)
theorem zl_562 : Cond.fieldLink RX8 51 "TwoEchoes$Valley" "kind" "[I" ∈ zt := zt_at 194 (by decide +kernel)
theorem dX8_isFair_0 : decode cX8_isFair 0 = .ok (.iconst 0, 1) := by decide +kernel
theorem dX8_isFair_1 : decode cX8_isFair 1 = .ok (.istore_n 2, 1) := by decide +kernel
theorem dX8_isFair_2 : decode cX8_isFair 2 = .ok (.iconst 0, 1) := by decide +kernel
theorem dX8_isFair_3 : decode cX8_isFair 3 = .ok (.istore_n 3, 1) := by decide +kernel
theorem dX8_isFair_4 : decode cX8_isFair 4 = .ok (.iconst 0, 1) := by decide +kernel
theorem dX8_isFair_5 : decode cX8_isFair 5 = .ok (.istore 4, 2) := by decide +kernel
theorem dX8_isFair_7 : decode cX8_isFair 7 = .ok (.iconst 0, 1) := by decide +kernel
theorem dX8_isFair_8 : decode cX8_isFair 8 = .ok (.istore 5, 2) := by decide +kernel
theorem dX8_isFair_10 : decode cX8_isFair 10 = .ok (.iconst 0, 1) := by decide +kernel
theorem dX8_isFair_11 : decode cX8_isFair 11 = .ok (.istore 6, 2) := by decide +kernel
theorem dX8_isFair_13 : decode cX8_isFair 13 = .ok (.iload 6, 2) := by decide +kernel
theorem dX8_isFair_15 : decode cX8_isFair 15 = .ok (.aload_n 0, 1) := by decide +kernel
theorem dX8_isFair_16 : decode cX8_isFair 16 = .ok (.getfield 27, 3) := by decide +kernel
theorem dX8_isFair_19 : decode cX8_isFair 19 = .ok (.if_icmp .ge 102, 3) := by decide +kernel
theorem dX8_isFair_22 : decode cX8_isFair 22 = .ok (.aload_n 0, 1) := by decide +kernel
theorem dX8_isFair_23 : decode cX8_isFair 23 = .ok (.getfield 22, 3) := by decide +kernel
theorem dX8_isFair_26 : decode cX8_isFair 26 = .ok (.iload 6, 2) := by decide +kernel
theorem dX8_isFair_28 : decode cX8_isFair 28 = .ok (.iaload, 1) := by decide +kernel
theorem dX8_isFair_29 : decode cX8_isFair 29 = .ok (.istore 7, 2) := by decide +kernel
theorem dX8_isFair_31 : decode cX8_isFair 31 = .ok (.aload_n 0, 1) := by decide +kernel
theorem dX8_isFair_32 : decode cX8_isFair 32 = .ok (.getfield 51, 3) := by decide +kernel
theorem dX8_isFair_35 : decode cX8_isFair 35 = .ok (.iload 6, 2) := by decide +kernel
theorem dX8_isFair_37 : decode cX8_isFair 37 = .ok (.iaload, 1) := by decide +kernel
theorem dX8_isFair_38 : decode cX8_isFair 38 = .ok (.ifCond .ne 34, 3) := by decide +kernel
theorem dX8_isFair_41 : decode cX8_isFair 41 = .ok (.iload_n 2, 1) := by decide +kernel
theorem dX8_isFair_42 : decode cX8_isFair 42 = .ok (.iload 7, 2) := by decide +kernel
theorem dX8_isFair_44 : decode cX8_isFair 44 = .ok (.iload_n 1, 1) := by decide +kernel
theorem dX8_isFair_45 : decode cX8_isFair 45 = .ok (.if_icmp .ge 7, 3) := by decide +kernel
theorem dX8_isFair_48 : decode cX8_isFair 48 = .ok (.iconst 1, 1) := by decide +kernel
theorem dX8_isFair_49 : decode cX8_isFair 49 = .ok (.goto 4, 3) := by decide +kernel
theorem dX8_isFair_52 : decode cX8_isFair 52 = .ok (.iconst 0, 1) := by decide +kernel
theorem dX8_isFair_53 : decode cX8_isFair 53 = .ok (.iadd, 1) := by decide +kernel
theorem dX8_isFair_54 : decode cX8_isFair 54 = .ok (.istore_n 2, 1) := by decide +kernel
theorem dX8_isFair_55 : decode cX8_isFair 55 = .ok (.iload_n 3, 1) := by decide +kernel
theorem dX8_isFair_56 : decode cX8_isFair 56 = .ok (.iload 7, 2) := by decide +kernel
theorem dX8_isFair_58 : decode cX8_isFair 58 = .ok (.iload_n 1, 1) := by decide +kernel
theorem dX8_isFair_59 : decode cX8_isFair 59 = .ok (.if_icmp .gt 7, 3) := by decide +kernel
theorem dX8_isFair_62 : decode cX8_isFair 62 = .ok (.iconst 1, 1) := by decide +kernel
theorem dX8_isFair_63 : decode cX8_isFair 63 = .ok (.goto 4, 3) := by decide +kernel
theorem dX8_isFair_66 : decode cX8_isFair 66 = .ok (.iconst 0, 1) := by decide +kernel
theorem dX8_isFair_67 : decode cX8_isFair 67 = .ok (.iadd, 1) := by decide +kernel
theorem dX8_isFair_68 : decode cX8_isFair 68 = .ok (.istore_n 3, 1) := by decide +kernel
theorem dX8_isFair_69 : decode cX8_isFair 69 = .ok (.goto 46, 3) := by decide +kernel
theorem dX8_isFair_72 : decode cX8_isFair 72 = .ok (.aload_n 0, 1) := by decide +kernel
theorem dX8_isFair_73 : decode cX8_isFair 73 = .ok (.getfield 51, 3) := by decide +kernel
theorem dX8_isFair_76 : decode cX8_isFair 76 = .ok (.iload 6, 2) := by decide +kernel
theorem dX8_isFair_78 : decode cX8_isFair 78 = .ok (.iaload, 1) := by decide +kernel
theorem dX8_isFair_79 : decode cX8_isFair 79 = .ok (.iconst 1, 1) := by decide +kernel
theorem dX8_isFair_80 : decode cX8_isFair 80 = .ok (.if_icmp .ne 35, 3) := by decide +kernel
theorem dX8_isFair_83 : decode cX8_isFair 83 = .ok (.iload 4, 2) := by decide +kernel
theorem dX8_isFair_85 : decode cX8_isFair 85 = .ok (.iload 7, 2) := by decide +kernel
theorem dX8_isFair_87 : decode cX8_isFair 87 = .ok (.iload_n 1, 1) := by decide +kernel
theorem dX8_isFair_88 : decode cX8_isFair 88 = .ok (.if_icmp .le 7, 3) := by decide +kernel
theorem dX8_isFair_91 : decode cX8_isFair 91 = .ok (.iconst 1, 1) := by decide +kernel
theorem dX8_isFair_92 : decode cX8_isFair 92 = .ok (.goto 4, 3) := by decide +kernel
theorem dX8_isFair_95 : decode cX8_isFair 95 = .ok (.iconst 0, 1) := by decide +kernel
theorem dX8_isFair_96 : decode cX8_isFair 96 = .ok (.iadd, 1) := by decide +kernel
theorem dX8_isFair_97 : decode cX8_isFair 97 = .ok (.istore 4, 2) := by decide +kernel
theorem dX8_isFair_99 : decode cX8_isFair 99 = .ok (.iload 5, 2) := by decide +kernel
theorem dX8_isFair_101 : decode cX8_isFair 101 = .ok (.iload 7, 2) := by decide +kernel
theorem dX8_isFair_103 : decode cX8_isFair 103 = .ok (.iload_n 1, 1) := by decide +kernel
theorem dX8_isFair_104 : decode cX8_isFair 104 = .ok (.if_icmp .lt 7, 3) := by decide +kernel
theorem dX8_isFair_107 : decode cX8_isFair 107 = .ok (.iconst 1, 1) := by decide +kernel
theorem dX8_isFair_108 : decode cX8_isFair 108 = .ok (.goto 4, 3) := by decide +kernel
theorem dX8_isFair_111 : decode cX8_isFair 111 = .ok (.iconst 0, 1) := by decide +kernel
theorem dX8_isFair_112 : decode cX8_isFair 112 = .ok (.iadd, 1) := by decide +kernel
theorem dX8_isFair_113 : decode cX8_isFair 113 = .ok (.istore 5, 2) := by decide +kernel
theorem dX8_isFair_115 : decode cX8_isFair 115 = .ok (.iinc 6 1, 3) := by decide +kernel
theorem dX8_isFair_118 : decode cX8_isFair 118 = .ok (.goto (-105), 3) := by decide +kernel
theorem dX8_isFair_121 : decode cX8_isFair 121 = .ok (.iload_n 2, 1) := by decide +kernel
theorem dX8_isFair_122 : decode cX8_isFair 122 = .ok (.iload 5, 2) := by decide +kernel
theorem dX8_isFair_124 : decode cX8_isFair 124 = .ok (.if_icmp .gt 13, 3) := by decide +kernel
theorem dX8_isFair_127 : decode cX8_isFair 127 = .ok (.iload 4, 2) := by decide +kernel
theorem dX8_isFair_129 : decode cX8_isFair 129 = .ok (.iload_n 3, 1) := by decide +kernel
theorem dX8_isFair_130 : decode cX8_isFair 130 = .ok (.if_icmp .gt 7, 3) := by decide +kernel
theorem dX8_isFair_133 : decode cX8_isFair 133 = .ok (.iconst 1, 1) := by decide +kernel
theorem dX8_isFair_134 : decode cX8_isFair 134 = .ok (.goto 4, 3) := by decide +kernel
theorem dX8_isFair_137 : decode cX8_isFair 137 = .ok (.iconst 0, 1) := by decide +kernel
theorem dX8_isFair_138 : decode cX8_isFair 138 = .ok (.ireturn, 1) := by decide +kernel
noncomputable def fX8_isFair_l13 (μ : zM) (x0 : Nat) (x1 : Int32) (F6 : Int32 → Int32 → Int32 → Int32 → Int32 → Option (Int32 × Int32 × Int32 × Int32)) (x2_1 : Int32) (x3_2 : Int32) (x4_3 : Int32) (x5_4 : Int32) (x6_5 : Int32) : Option (Int32 × Int32 × Int32 × Int32) :=
  zb1 (zm_gI μ 9 x0 4) fun v13 =>
  if v13 ≤ x6_5 then (
  some (x2_1, x3_2, x4_3, x5_4))
  else (
  zb1 (zm_gR μ 9 x0 7) fun v15 =>
  zb1 (zm_aI μ 0 v15 x6_5) fun v17 =>
  zb1 (zm_gR μ 9 x0 5) fun v19 =>
  zb1 (zm_aI μ 0 v19 x6_5) fun v21 =>
  zb4 (if v21 = 0 then (
  zb1 (if x1 ≤ v17 then (
  some 0)
  else (
  some 1) : Option (Int32)) fun (s36 : Int32) =>
  zb1 (if x1 < v17 then (
  some 0)
  else (
  some 1) : Option (Int32)) fun (s38 : Int32) =>
  some ((x2_1 + s36), (x3_2 + s38), x4_3, x5_4))
  else (
  zb1 (zm_gR μ 9 x0 5) fun v28 =>
  zb1 (zm_aI μ 0 v28 x6_5) fun v30 =>
  if v30 = 1 then (
  zb1 (if v17 ≤ x1 then (
  some 0)
  else (
  some 1) : Option (Int32)) fun (s32 : Int32) =>
  zb1 (if v17 < x1 then (
  some 0)
  else (
  some 1) : Option (Int32)) fun (s34 : Int32) =>
  some (x2_1, x3_2, (x4_3 + s32), (x5_4 + s34)))
  else (
  some (x2_1, x3_2, x4_3, x5_4))) : Option (Int32 × Int32 × Int32 × Int32)) fun (x2_23 : Int32) (x3_24 : Int32) (x4_25 : Int32) (x5_26 : Int32) =>
  F6 x2_23 x3_24 x4_25 x5_26 (x6_5 + 1))
noncomputable def fX8_isFair (μ : zM) (x0 : Nat) (x1 : Int32) : Option (Int32) :=
  zb4 (zf5 (fX8_isFair_l13 μ x0 x1) zfu 0 0 0 0 0 : Option (Int32 × Int32 × Int32 × Int32)) fun (x2_8 : Int32) (x3_9 : Int32) (x4_10 : Int32) (x5_11 : Int32) =>
  zb1 (if x5_11 < x2_8 then (
  some 0)
  else (
  if x3_9 < x4_10 then (
  some 0)
  else (
  some 1)) : Option (Int32)) fun (s41 : Int32) =>
  zb1 (zbz s41) fun v43 =>
  some v43
set_option maxHeartbeats 4000000 in
set_option maxRecDepth 100000 in
theorem cX8_isFair_ok {μ : zM} {x0 : Nat} {x1 : Int32} {r : Int32} (hf : fX8_isFair μ x0 x1 = some r) : zC yX8_isFair cX8_isFair 8 (some .boolean) 0 0 0 [.ref x0, .int x1] μ (some (.int r)) μ := by
  unfold fX8_isFair at hf
  refine zC.of (by decide) (Nat.le_of_ble_eq_true rfl) (fun K hin => ?_)
  clear hin
  show zz K cX8_isFair (8, RX8, some .boolean, 0, 0, 0, some (.int r), μ) 0 0 0 [(0, .ref x0), (1, .int x1)] [] μ
  refine zr_iconst 0 dX8_isFair_0 (by decide) ?_
  refine zr_istore_n [(2, .int 0), (0, .ref x0), (1, .int x1)] dX8_isFair_1 (Nat.le_of_ble_eq_true rfl) rfl ?_
  refine zr_iconst 0 dX8_isFair_2 (by decide) ?_
  refine zr_istore_n [(3, .int 0), (2, .int 0), (0, .ref x0), (1, .int x1)] dX8_isFair_3 (Nat.le_of_ble_eq_true rfl) rfl ?_
  refine zr_iconst 0 dX8_isFair_4 (by decide) ?_
  refine zr_istore [(4, .int 0), (3, .int 0), (2, .int 0), (0, .ref x0), (1, .int x1)] dX8_isFair_5 (Nat.le_of_ble_eq_true rfl) rfl ?_
  refine zr_iconst 0 dX8_isFair_7 (by decide) ?_
  refine zr_istore [(5, .int 0), (4, .int 0), (3, .int 0), (2, .int 0), (0, .ref x0), (1, .int x1)] dX8_isFair_8 (Nat.le_of_ble_eq_true rfl) rfl ?_
  refine zr_iconst 0 dX8_isFair_10 (by decide) ?_
  refine zr_istore [(6, .int 0), (5, .int 0), (4, .int 0), (3, .int 0), (2, .int 0), (0, .ref x0), (1, .int x1)] dX8_isFair_11 (Nat.le_of_ble_eq_true rfl) rfl ?_
  replace hf := zb4_s hf
  obtain ⟨x2_8, x3_9, x4_10, x5_11, hg, hf⟩ := hf
  have hj12 : zz K cX8_isFair (8, RX8, some .boolean, 0, 0, 0, some (.int r), μ) 0 0 121 [(2, .int x2_8), (3, .int x3_9), (4, .int x4_10), (5, .int x5_11)] [] μ := by
    refine zr_iload_n 0 dX8_isFair_121 rfl ?_
    refine zr_iload 3 dX8_isFair_122 rfl ?_
    replace hf := zb1_s hf
    obtain ⟨s41, hg, hf⟩ := hf
    have hj42 : zz K cX8_isFair (8, RX8, some .boolean, 0, 0, 0, some (.int r), μ) 0 0 138 [] [.int s41] μ := by
      replace hf := zb1_s hf
      obtain ⟨v43, hn44, hf⟩ := hf
      replace hn44 := zbz_s hn44
      obtain ⟨hn44, rfl⟩ := hn44
      cases hf
      exact zr_zret hn44 dX8_isFair_138
    clear hf
    have hf := hg
    clear hg
    refine zr_icmp_gt 137 dX8_isFair_124 (by decide) (fun hc => ?_) (fun hc => ?_)
    · rw [if_pos hc] at hf
      refine zr_iconst 0 dX8_isFair_137 (by decide) ?_
      cases hf
      exact zr_lv [] rfl hj42
    · rw [if_neg hc] at hf
      refine zr_iload 2 dX8_isFair_127 rfl ?_
      refine zr_iload_n 1 dX8_isFair_129 rfl ?_
      refine zr_icmp_gt 137 dX8_isFair_130 (by decide) (fun hc => ?_) (fun hc => ?_)
      · rw [if_pos hc] at hf
        refine zr_iconst 0 dX8_isFair_137 (by decide) ?_
        cases hf
        exact zr_lv [] rfl hj42
      · rw [if_neg hc] at hf
        refine zr_iconst 1 dX8_isFair_133 (by decide) ?_
        refine zr_goto 138 dX8_isFair_134 (by decide) ?_
        cases hf
        exact zr_lv [] rfl hj42
  clear hf
  have hf := hg
  clear hg
  have hL40 : ∀ (n : Nat) (x2_1 : Int32) (x3_2 : Int32) (x4_3 : Int32) (x5_4 : Int32) (x6_5 : Int32), zf5 (fX8_isFair_l13 μ x0 x1) n x2_1 x3_2 x4_3 x5_4 x6_5 = some (x2_8, x3_9, x4_10, x5_11) → zz K cX8_isFair (8, RX8, some .boolean, 0, 0, 0, some (.int r), μ) 0 0 13 [(0, .ref x0), (1, .int x1), (2, .int x2_1), (3, .int x3_2), (4, .int x4_3), (5, .int x5_4), (6, .int x6_5)] [] μ := by
    intro n
    induction n with
    | zero => intro x2_1 x3_2 x4_3 x5_4 x6_5 hf; cases hf
    | succ n ih7 =>
      intro x2_1 x3_2 x4_3 x5_4 x6_5 hf
      replace hf := zf5_s hf
      generalize zf5 (fX8_isFair_l13 μ x0 x1) n = F6 at hf ih7
      unfold fX8_isFair_l13 at hf
      refine zr_iload 6 dX8_isFair_13 rfl ?_
      refine zr_aload_n 0 dX8_isFair_15 rfl ?_
      replace hf := zb1_s hf
      obtain ⟨v13, h14, hf⟩ := hf
      refine zr_get (zm_gI_g h14) zk9 (by decide) zl_543 dX8_isFair_16 ?_
      refine zr_icmp_ge 121 dX8_isFair_19 (by decide) (fun hc => ?_) (fun hc => ?_)
      · rw [if_pos hc] at hf
        cases hf
        exact zr_lv [2, 3, 4, 5] rfl hj12
      · rw [if_neg hc] at hf
        refine zr_aload_n 0 dX8_isFair_22 rfl ?_
        replace hf := zb1_s hf
        obtain ⟨v15, h16, hf⟩ := hf
        refine zr_get (zm_gR_g h16) zk9 (by decide) zl_548 dX8_isFair_23 ?_
        refine zr_iload 6 dX8_isFair_26 rfl ?_
        replace hf := zb1_s hf
        obtain ⟨v17, h18, hf⟩ := hf
        refine zr_iald h18 dX8_isFair_28 ?_
        refine zr_istore [(7, .int v17), (0, .ref x0), (1, .int x1), (2, .int x2_1), (3, .int x3_2), (4, .int x4_3), (5, .int x5_4), (6, .int x6_5)] dX8_isFair_29 (Nat.le_of_ble_eq_true rfl) rfl ?_
        refine zr_aload_n 1 dX8_isFair_31 rfl ?_
        replace hf := zb1_s hf
        obtain ⟨v19, h20, hf⟩ := hf
        refine zr_get (zm_gR_g h20) zk9 (by decide) zl_562 dX8_isFair_32 ?_
        refine zr_iload 7 dX8_isFair_35 rfl ?_
        replace hf := zb1_s hf
        obtain ⟨v21, h22, hf⟩ := hf
        refine zr_iald h22 dX8_isFair_37 ?_
        replace hf := zb4_s hf
        obtain ⟨x2_23, x3_24, x4_25, x5_26, hg, hf⟩ := hf
        have hj27 : zz K cX8_isFair (8, RX8, some .boolean, 0, 0, 0, some (.int r), μ) 0 0 115 [(0, .ref x0), (1, .int x1), (2, .int x2_23), (3, .int x3_24), (4, .int x4_25), (5, .int x5_26), (6, .int x6_5)] [] μ := by
          refine zr_iinc (j := 6) (x6_5 + 1) [(6, .int (x6_5 + 1)), (0, .ref x0), (1, .int x1), (2, .int x2_23), (3, .int x3_24), (4, .int x4_25), (5, .int x5_26)] dX8_isFair_115 rfl rfl (Nat.le_of_ble_eq_true rfl) rfl ?_
          refine zr_goto 13 dX8_isFair_118 (by decide) ?_
          exact zr_lv [1, 2, 3, 4, 5, 6, 0] rfl (ih7 x2_23 x3_24 x4_25 x5_26 (x6_5 + 1) hf)
        clear hf
        have hf := hg
        clear hg
        refine zr_if_ne 72 dX8_isFair_38 (by decide) (fun hc => ?_) (fun hc => ?_)
        · rw [if_neg hc] at hf
          refine zr_aload_n 1 dX8_isFair_72 rfl ?_
          replace hf := zb1_s hf
          obtain ⟨v28, h29, hf⟩ := hf
          refine zr_get (zm_gR_g h29) zk9 (by decide) zl_562 dX8_isFair_73 ?_
          refine zr_iload 7 dX8_isFair_76 rfl ?_
          replace hf := zb1_s hf
          obtain ⟨v30, h31, hf⟩ := hf
          refine zr_iald h31 dX8_isFair_78 ?_
          refine zr_iconst 1 dX8_isFair_79 (by decide) ?_
          refine zr_icmp_ne 115 dX8_isFair_80 (by decide) (fun hc => ?_) (fun hc => ?_)
          · rw [if_neg hc] at hf
            cases hf
            exact zr_lv [1, 2, 3, 4, 5, 6, 7] rfl hj27
          · rw [if_pos hc] at hf
            refine zr_iload 5 dX8_isFair_83 rfl ?_
            refine zr_iload 0 dX8_isFair_85 rfl ?_
            refine zr_iload_n 2 dX8_isFair_87 rfl ?_
            replace hf := zb1_s hf
            obtain ⟨s32, hg, hf⟩ := hf
            have hj33 : zz K cX8_isFair (8, RX8, some .boolean, 0, 0, 0, some (.int r), μ) 0 0 96 [(0, .ref x0), (1, .int x1), (2, .int x2_1), (3, .int x3_2), (5, .int x5_4), (6, .int x6_5), (7, .int v17)] [.int s32, .int x4_3] μ := by
              refine zr_iadd dX8_isFair_96 ?_
              refine zr_istore [(4, .int (x4_3 + s32)), (0, .ref x0), (1, .int x1), (2, .int x2_1), (3, .int x3_2), (5, .int x5_4), (6, .int x6_5), (7, .int v17)] dX8_isFair_97 (Nat.le_of_ble_eq_true rfl) rfl ?_
              refine zr_iload 5 dX8_isFair_99 rfl ?_
              refine zr_iload 7 dX8_isFair_101 rfl ?_
              refine zr_iload_n 2 dX8_isFair_103 rfl ?_
              replace hf := zb1_s hf
              obtain ⟨s34, hg, hf⟩ := hf
              have hj35 : zz K cX8_isFair (8, RX8, some .boolean, 0, 0, 0, some (.int r), μ) 0 0 112 [(0, .ref x0), (1, .int x1), (2, .int x2_1), (3, .int x3_2), (4, .int (x4_3 + s32)), (6, .int x6_5)] [.int s34, .int x5_4] μ := by
                refine zr_iadd dX8_isFair_112 ?_
                refine zr_istore [(5, .int (x5_4 + s34)), (0, .ref x0), (1, .int x1), (2, .int x2_1), (3, .int x3_2), (4, .int (x4_3 + s32)), (6, .int x6_5)] dX8_isFair_113 (Nat.le_of_ble_eq_true rfl) rfl ?_
                cases hf
                exact zr_lv [1, 2, 3, 4, 5, 0, 6] rfl hj27
              clear hf
              have hf := hg
              clear hg
              refine zr_icmp_lt 111 dX8_isFair_104 (by decide) (fun hc => ?_) (fun hc => ?_)
              · rw [if_pos hc] at hf
                refine zr_iconst 0 dX8_isFair_111 (by decide) ?_
                cases hf
                exact zr_lv [1, 2, 3, 4, 0, 6] rfl hj35
              · rw [if_neg hc] at hf
                refine zr_iconst 1 dX8_isFair_107 (by decide) ?_
                refine zr_goto 112 dX8_isFair_108 (by decide) ?_
                cases hf
                exact zr_lv [1, 2, 3, 4, 0, 6] rfl hj35
            clear hf
            have hf := hg
            clear hg
            refine zr_icmp_le 95 dX8_isFair_88 (by decide) (fun hc => ?_) (fun hc => ?_)
            · rw [if_pos hc] at hf
              refine zr_iconst 0 dX8_isFair_95 (by decide) ?_
              cases hf
              exact zr_lv [1, 2, 3, 4, 6, 7, 0] rfl hj33
            · rw [if_neg hc] at hf
              refine zr_iconst 1 dX8_isFair_91 (by decide) ?_
              refine zr_goto 96 dX8_isFair_92 (by decide) ?_
              cases hf
              exact zr_lv [1, 2, 3, 4, 6, 7, 0] rfl hj33
        · rw [if_pos hc] at hf
          refine zr_iload_n 3 dX8_isFair_41 rfl ?_
          refine zr_iload 0 dX8_isFair_42 rfl ?_
          refine zr_iload_n 2 dX8_isFair_44 rfl ?_
          replace hf := zb1_s hf
          obtain ⟨s36, hg, hf⟩ := hf
          have hj37 : zz K cX8_isFair (8, RX8, some .boolean, 0, 0, 0, some (.int r), μ) 0 0 53 [(0, .ref x0), (1, .int x1), (3, .int x3_2), (4, .int x4_3), (5, .int x5_4), (6, .int x6_5), (7, .int v17)] [.int s36, .int x2_1] μ := by
            refine zr_iadd dX8_isFair_53 ?_
            refine zr_istore_n [(2, .int (x2_1 + s36)), (0, .ref x0), (1, .int x1), (3, .int x3_2), (4, .int x4_3), (5, .int x5_4), (6, .int x6_5), (7, .int v17)] dX8_isFair_54 (Nat.le_of_ble_eq_true rfl) rfl ?_
            refine zr_iload_n 3 dX8_isFair_55 rfl ?_
            refine zr_iload 7 dX8_isFair_56 rfl ?_
            refine zr_iload_n 2 dX8_isFair_58 rfl ?_
            replace hf := zb1_s hf
            obtain ⟨s38, hg, hf⟩ := hf
            have hj39 : zz K cX8_isFair (8, RX8, some .boolean, 0, 0, 0, some (.int r), μ) 0 0 67 [(0, .ref x0), (1, .int x1), (2, .int (x2_1 + s36)), (4, .int x4_3), (5, .int x5_4), (6, .int x6_5)] [.int s38, .int x3_2] μ := by
              refine zr_iadd dX8_isFair_67 ?_
              refine zr_istore_n [(3, .int (x3_2 + s38)), (0, .ref x0), (1, .int x1), (2, .int (x2_1 + s36)), (4, .int x4_3), (5, .int x5_4), (6, .int x6_5)] dX8_isFair_68 (Nat.le_of_ble_eq_true rfl) rfl ?_
              refine zr_goto 115 dX8_isFair_69 (by decide) ?_
              cases hf
              exact zr_lv [1, 2, 3, 0, 4, 5, 6] rfl hj27
            clear hf
            have hf := hg
            clear hg
            refine zr_icmp_gt 66 dX8_isFair_59 (by decide) (fun hc => ?_) (fun hc => ?_)
            · rw [if_pos hc] at hf
              refine zr_iconst 0 dX8_isFair_66 (by decide) ?_
              cases hf
              exact zr_lv [1, 2, 0, 4, 5, 6] rfl hj39
            · rw [if_neg hc] at hf
              refine zr_iconst 1 dX8_isFair_62 (by decide) ?_
              refine zr_goto 67 dX8_isFair_63 (by decide) ?_
              cases hf
              exact zr_lv [1, 2, 0, 4, 5, 6] rfl hj39
          clear hf
          have hf := hg
          clear hg
          refine zr_icmp_ge 52 dX8_isFair_45 (by decide) (fun hc => ?_) (fun hc => ?_)
          · rw [if_pos hc] at hf
            refine zr_iconst 0 dX8_isFair_52 (by decide) ?_
            cases hf
            exact zr_lv [1, 2, 4, 5, 6, 7, 0] rfl hj37
          · rw [if_neg hc] at hf
            refine zr_iconst 1 dX8_isFair_48 (by decide) ?_
            refine zr_goto 53 dX8_isFair_49 (by decide) ?_
            cases hf
            exact zr_lv [1, 2, 4, 5, 6, 7, 0] rfl hj37
  exact zr_lv [5, 6, 4, 3, 2, 1, 0] rfl (hL40 _ 0 0 0 0 0 hf)
theorem zl_563 : Cond.code yX8_isFair cX8_isFair 8 (some .boolean) ∈ zt := zt_at 995 (by decide +kernel)
theorem zvs_X8_isFair : zvS yX8_isFair cX8_isFair 8 (some .boolean) 2 := ⟨zl_563, zl_550, ⟨by decide +kernel, by decide +kernel, by decide +kernel⟩, by decide⟩
theorem zl_564 : Cond.methodLink RX8 47 yX8_isFair ∈ zt := zt_at 993 (by decide +kernel)
theorem zl_565 : Cond.static yX8_isFair ∈ zt := zt_at 994 (by decide +kernel)
theorem dX8_leastPrice_0 : decode cX8_leastPrice 0 = .ok (.iconst 0, 1) := by decide +kernel
theorem dX8_leastPrice_1 : decode cX8_leastPrice 1 = .ok (.istore_n 1, 1) := by decide +kernel
theorem dX8_leastPrice_2 : decode cX8_leastPrice 2 = .ok (.iload_n 1, 1) := by decide +kernel
theorem dX8_leastPrice_3 : decode cX8_leastPrice 3 = .ok (.bipush 100, 2) := by decide +kernel
theorem dX8_leastPrice_5 : decode cX8_leastPrice 5 = .ok (.if_icmp .ge 19, 3) := by decide +kernel
theorem dX8_leastPrice_8 : decode cX8_leastPrice 8 = .ok (.aload_n 0, 1) := by decide +kernel
theorem dX8_leastPrice_9 : decode cX8_leastPrice 9 = .ok (.iload_n 1, 1) := by decide +kernel
theorem dX8_leastPrice_10 : decode cX8_leastPrice 10 = .ok (.invokestatic 47, 3) := by decide +kernel
theorem dX8_leastPrice_13 : decode cX8_leastPrice 13 = .ok (.ifCond .eq 5, 3) := by decide +kernel
theorem dX8_leastPrice_16 : decode cX8_leastPrice 16 = .ok (.iload_n 1, 1) := by decide +kernel
theorem dX8_leastPrice_17 : decode cX8_leastPrice 17 = .ok (.ireturn, 1) := by decide +kernel
theorem dX8_leastPrice_18 : decode cX8_leastPrice 18 = .ok (.iinc 1 1, 3) := by decide +kernel
theorem dX8_leastPrice_21 : decode cX8_leastPrice 21 = .ok (.goto (-19), 3) := by decide +kernel
theorem dX8_leastPrice_24 : decode cX8_leastPrice 24 = .ok (.iconst (-1), 1) := by decide +kernel
theorem dX8_leastPrice_25 : decode cX8_leastPrice 25 = .ok (.ireturn, 1) := by decide +kernel
noncomputable def fX8_leastPrice_l2 (μ : zM) (x0 : Nat) (F2 : Int32 → Option (Int32)) (x1_1 : Int32) : Option (Int32) :=
  if 100 ≤ x1_1 then (
  some (-1))
  else (
  zb1 (fX8_isFair μ x0 x1_1) fun v5 =>
  if v5 = 0 then (
  F2 (x1_1 + 1))
  else (
  some x1_1))
noncomputable def fX8_leastPrice (μ : zM) (x0 : Nat) : Option (Int32) :=
  zf1 (fX8_leastPrice_l2 μ x0) zfu 0
set_option maxHeartbeats 4000000 in
set_option maxRecDepth 100000 in
theorem cX8_leastPrice_ok {μ : zM} {x0 : Nat} {r : Int32} (hf : fX8_leastPrice μ x0 = some r) : zC yX8_leastPrice cX8_leastPrice 2 (some .int) 1 0 0 [.ref x0] μ (some (.int r)) μ := by
  unfold fX8_leastPrice at hf
  refine zC.of (by decide) (Nat.le_of_ble_eq_true rfl) (fun K hin => ?_)
  clear hin
  show zz K cX8_leastPrice (2, RX8, some .int, 1, 0, 0, some (.int r), μ) 0 0 0 [(0, .ref x0)] [] μ
  refine zr_iconst 0 dX8_leastPrice_0 (by decide) ?_
  refine zr_istore_n [(1, .int 0), (0, .ref x0)] dX8_leastPrice_1 (Nat.le_of_ble_eq_true rfl) rfl ?_
  have hL6 : ∀ (n : Nat) (x1_1 : Int32), zf1 (fX8_leastPrice_l2 μ x0) n x1_1 = some r → zz K cX8_leastPrice (2, RX8, some .int, 1, 0, 0, some (.int r), μ) 0 0 2 [(0, .ref x0), (1, .int x1_1)] [] μ := by
    intro n
    induction n with
    | zero => intro x1_1 hf; cases hf
    | succ n ih3 =>
      intro x1_1 hf
      replace hf := zf1_s hf
      generalize zf1 (fX8_leastPrice_l2 μ x0) n = F2 at hf ih3
      unfold fX8_leastPrice_l2 at hf
      refine zr_iload_n 1 dX8_leastPrice_2 rfl ?_
      refine zr_bipush 100 dX8_leastPrice_3 (by decide) ?_
      refine zr_icmp_ge 24 dX8_leastPrice_5 (by decide) (fun hc => ?_) (fun hc => ?_)
      · rw [if_pos hc] at hf
        refine zr_iconst (-1) dX8_leastPrice_24 (by decide) ?_
        cases hf
        exact zr_iret dX8_leastPrice_25
      · rw [if_neg hc] at hf
        refine zr_aload_n 0 dX8_leastPrice_8 rfl ?_
        refine zr_iload_n 1 dX8_leastPrice_9 rfl ?_
        replace hf := zb1_s hf
        obtain ⟨v5, h4, hf⟩ := hf
        refine zr_callS [.ref x0, .int x1_1] (cX8_isFair_ok h4) zvs_X8_isFair zl_565 zl_564 rfl (Nat.le_of_ble_eq_true rfl) (Nat.le_of_ble_eq_true rfl) (Nat.le_of_ble_eq_true rfl) (Nat.le_of_ble_eq_true rfl) dX8_leastPrice_10 rfl ?_
        refine zr_if_eq 18 dX8_leastPrice_13 (by decide) (fun hc => ?_) (fun hc => ?_)
        · rw [if_pos hc] at hf
          refine zr_iinc (j := 1) (x1_1 + 1) [(1, .int (x1_1 + 1)), (0, .ref x0)] dX8_leastPrice_18 rfl rfl (Nat.le_of_ble_eq_true rfl) rfl ?_
          refine zr_goto 2 dX8_leastPrice_21 (by decide) ?_
          exact zr_lv [1, 0] rfl (ih3 (x1_1 + 1) hf)
        · rw [if_neg hc] at hf
          refine zr_iload_n 1 dX8_leastPrice_16 rfl ?_
          cases hf
          exact zr_iret dX8_leastPrice_17
  exact zr_lv [1, 0] rfl (hL6 _ 0 hf)
theorem dX8_greatestPrice_0 : decode cX8_greatestPrice 0 = .ok (.bipush 99, 2) := by decide +kernel
theorem dX8_greatestPrice_2 : decode cX8_greatestPrice 2 = .ok (.istore_n 1, 1) := by decide +kernel
theorem dX8_greatestPrice_3 : decode cX8_greatestPrice 3 = .ok (.iload_n 1, 1) := by decide +kernel
theorem dX8_greatestPrice_4 : decode cX8_greatestPrice 4 = .ok (.ifCond .lt 19, 3) := by decide +kernel
theorem dX8_greatestPrice_7 : decode cX8_greatestPrice 7 = .ok (.aload_n 0, 1) := by decide +kernel
theorem dX8_greatestPrice_8 : decode cX8_greatestPrice 8 = .ok (.iload_n 1, 1) := by decide +kernel
theorem dX8_greatestPrice_9 : decode cX8_greatestPrice 9 = .ok (.invokestatic 47, 3) := by decide +kernel
theorem dX8_greatestPrice_12 : decode cX8_greatestPrice 12 = .ok (.ifCond .eq 5, 3) := by decide +kernel
theorem dX8_greatestPrice_15 : decode cX8_greatestPrice 15 = .ok (.iload_n 1, 1) := by decide +kernel
theorem dX8_greatestPrice_16 : decode cX8_greatestPrice 16 = .ok (.ireturn, 1) := by decide +kernel
theorem dX8_greatestPrice_17 : decode cX8_greatestPrice 17 = .ok (.iinc 1 (-1), 3) := by decide +kernel
theorem dX8_greatestPrice_20 : decode cX8_greatestPrice 20 = .ok (.goto (-17), 3) := by decide +kernel
theorem dX8_greatestPrice_23 : decode cX8_greatestPrice 23 = .ok (.iconst (-1), 1) := by decide +kernel
theorem dX8_greatestPrice_24 : decode cX8_greatestPrice 24 = .ok (.ireturn, 1) := by decide +kernel
noncomputable def fX8_greatestPrice_l3 (μ : zM) (x0 : Nat) (F2 : Int32 → Option (Int32)) (x1_1 : Int32) : Option (Int32) :=
  if x1_1 < 0 then (
  some (-1))
  else (
  zb1 (fX8_isFair μ x0 x1_1) fun v5 =>
  if v5 = 0 then (
  F2 (x1_1 + (-1)))
  else (
  some x1_1))
noncomputable def fX8_greatestPrice (μ : zM) (x0 : Nat) : Option (Int32) :=
  zf1 (fX8_greatestPrice_l3 μ x0) zfu 99
set_option maxHeartbeats 4000000 in
set_option maxRecDepth 100000 in
theorem cX8_greatestPrice_ok {μ : zM} {x0 : Nat} {r : Int32} (hf : fX8_greatestPrice μ x0 = some r) : zC yX8_greatestPrice cX8_greatestPrice 2 (some .int) 1 0 0 [.ref x0] μ (some (.int r)) μ := by
  unfold fX8_greatestPrice at hf
  refine zC.of (by decide) (Nat.le_of_ble_eq_true rfl) (fun K hin => ?_)
  clear hin
  show zz K cX8_greatestPrice (2, RX8, some .int, 1, 0, 0, some (.int r), μ) 0 0 0 [(0, .ref x0)] [] μ
  refine zr_bipush 99 dX8_greatestPrice_0 (by decide) ?_
  refine zr_istore_n [(1, .int 99), (0, .ref x0)] dX8_greatestPrice_2 (Nat.le_of_ble_eq_true rfl) rfl ?_
  have hL6 : ∀ (n : Nat) (x1_1 : Int32), zf1 (fX8_greatestPrice_l3 μ x0) n x1_1 = some r → zz K cX8_greatestPrice (2, RX8, some .int, 1, 0, 0, some (.int r), μ) 0 0 3 [(0, .ref x0), (1, .int x1_1)] [] μ := by
    intro n
    induction n with
    | zero => intro x1_1 hf; cases hf
    | succ n ih3 =>
      intro x1_1 hf
      replace hf := zf1_s hf
      generalize zf1 (fX8_greatestPrice_l3 μ x0) n = F2 at hf ih3
      unfold fX8_greatestPrice_l3 at hf
      refine zr_iload_n 1 dX8_greatestPrice_3 rfl ?_
      refine zr_if_lt 23 dX8_greatestPrice_4 (by decide) (fun hc => ?_) (fun hc => ?_)
      · rw [if_pos hc] at hf
        refine zr_iconst (-1) dX8_greatestPrice_23 (by decide) ?_
        cases hf
        exact zr_iret dX8_greatestPrice_24
      · rw [if_neg hc] at hf
        refine zr_aload_n 0 dX8_greatestPrice_7 rfl ?_
        refine zr_iload_n 1 dX8_greatestPrice_8 rfl ?_
        replace hf := zb1_s hf
        obtain ⟨v5, h4, hf⟩ := hf
        refine zr_callS [.ref x0, .int x1_1] (cX8_isFair_ok h4) zvs_X8_isFair zl_565 zl_564 rfl (Nat.le_of_ble_eq_true rfl) (Nat.le_of_ble_eq_true rfl) (Nat.le_of_ble_eq_true rfl) (Nat.le_of_ble_eq_true rfl) dX8_greatestPrice_9 rfl ?_
        refine zr_if_eq 17 dX8_greatestPrice_12 (by decide) (fun hc => ?_) (fun hc => ?_)
        · rw [if_pos hc] at hf
          refine zr_iinc (j := 1) (x1_1 + (-1)) [(1, .int (x1_1 + (-1))), (0, .ref x0)] dX8_greatestPrice_17 rfl rfl (Nat.le_of_ble_eq_true rfl) rfl ?_
          refine zr_goto 3 dX8_greatestPrice_20 (by decide) ?_
          exact zr_lv [1, 0] rfl (ih3 (x1_1 + (-1)) hf)
        · rw [if_neg hc] at hf
          refine zr_iload_n 1 dX8_greatestPrice_15 rfl ?_
          cases hf
          exact zr_iret dX8_greatestPrice_16
  exact zr_lv [1, 0] rfl (hL6 _ 99 hf)
theorem dX8_sellerGain_0 : decode cX8_sellerGain 0 = .ok (.iload_n 1, 1) := by decide +kernel
theorem dX8_sellerGain_1 : decode cX8_sellerGain 1 = .ok (.iload_n 0, 1) := by decide +kernel
theorem dX8_sellerGain_2 : decode cX8_sellerGain 2 = .ok (.if_icmp .lt 13, 3) := by decide +kernel
theorem dX8_sellerGain_5 : decode cX8_sellerGain 5 = .ok (.iload_n 0, 1) := by decide +kernel
theorem dX8_sellerGain_6 : decode cX8_sellerGain 6 = .ok (.iload_n 1, 1) := by decide +kernel
theorem dX8_sellerGain_7 : decode cX8_sellerGain 7 = .ok (.iadd, 1) := by decide +kernel
theorem dX8_sellerGain_8 : decode cX8_sellerGain 8 = .ok (.iconst 2, 1) := by decide +kernel
theorem dX8_sellerGain_9 : decode cX8_sellerGain 9 = .ok (.idiv, 1) := by decide +kernel
theorem dX8_sellerGain_10 : decode cX8_sellerGain 10 = .ok (.iload_n 2, 1) := by decide +kernel
theorem dX8_sellerGain_11 : decode cX8_sellerGain 11 = .ok (.isub, 1) := by decide +kernel
theorem dX8_sellerGain_12 : decode cX8_sellerGain 12 = .ok (.goto 4, 3) := by decide +kernel
theorem dX8_sellerGain_15 : decode cX8_sellerGain 15 = .ok (.iconst 0, 1) := by decide +kernel
theorem dX8_sellerGain_16 : decode cX8_sellerGain 16 = .ok (.ireturn, 1) := by decide +kernel
noncomputable def fX8_sellerGain (μ : zM) (x0 : Int32) (x1 : Int32) (x2 : Int32) : Option (Int32) :=
  zb1 (if x1 < x0 then (
  some 0)
  else (
  some (((x0 + x1) / 2) - x2)) : Option (Int32)) fun (s1 : Int32) =>
  some s1
set_option maxHeartbeats 4000000 in
set_option maxRecDepth 100000 in
theorem cX8_sellerGain_ok {μ : zM} {x0 : Int32} {x1 : Int32} {x2 : Int32} {r : Int32} (hf : fX8_sellerGain μ x0 x1 x2 = some r) : zC yX8_sellerGain cX8_sellerGain 3 (some .int) 0 0 0 [.int x0, .int x1, .int x2] μ (some (.int r)) μ := by
  unfold fX8_sellerGain at hf
  refine zC.of (by decide) (Nat.le_of_ble_eq_true rfl) (fun K hin => ?_)
  clear hin
  show zz K cX8_sellerGain (3, RX8, some .int, 0, 0, 0, some (.int r), μ) 0 0 0 [(0, .int x0), (1, .int x1), (2, .int x2)] [] μ
  refine zr_iload_n 1 dX8_sellerGain_0 rfl ?_
  refine zr_iload_n 0 dX8_sellerGain_1 rfl ?_
  replace hf := zb1_s hf
  obtain ⟨s1, hg, hf⟩ := hf
  have hj2 : zz K cX8_sellerGain (3, RX8, some .int, 0, 0, 0, some (.int r), μ) 0 0 16 [] [.int s1] μ := by
    cases hf
    exact zr_iret dX8_sellerGain_16
  clear hf
  have hf := hg
  clear hg
  refine zr_icmp_lt 15 dX8_sellerGain_2 (by decide) (fun hc => ?_) (fun hc => ?_)
  · rw [if_pos hc] at hf
    refine zr_iconst 0 dX8_sellerGain_15 (by decide) ?_
    cases hf
    exact zr_lv [] rfl hj2
  · rw [if_neg hc] at hf
    refine zr_iload_n 0 dX8_sellerGain_5 rfl ?_
    refine zr_iload_n 1 dX8_sellerGain_6 rfl ?_
    refine zr_iadd dX8_sellerGain_7 ?_
    refine zr_iconst 2 dX8_sellerGain_8 (by decide) ?_
    refine zr_idiv dX8_sellerGain_9 (by decide) ?_
    refine zr_iload_n 2 dX8_sellerGain_10 rfl ?_
    refine zr_isub dX8_sellerGain_11 ?_
    refine zr_goto 16 dX8_sellerGain_12 (by decide) ?_
    cases hf
    exact zr_lv [] rfl hj2
theorem dX8_buyerGain_0 : decode cX8_buyerGain 0 = .ok (.iload_n 1, 1) := by decide +kernel
theorem dX8_buyerGain_1 : decode cX8_buyerGain 1 = .ok (.iload_n 0, 1) := by decide +kernel
theorem dX8_buyerGain_2 : decode cX8_buyerGain 2 = .ok (.if_icmp .lt 13, 3) := by decide +kernel
theorem dX8_buyerGain_5 : decode cX8_buyerGain 5 = .ok (.iload_n 2, 1) := by decide +kernel
theorem dX8_buyerGain_6 : decode cX8_buyerGain 6 = .ok (.iload_n 0, 1) := by decide +kernel
theorem dX8_buyerGain_7 : decode cX8_buyerGain 7 = .ok (.iload_n 1, 1) := by decide +kernel
theorem dX8_buyerGain_8 : decode cX8_buyerGain 8 = .ok (.iadd, 1) := by decide +kernel
theorem dX8_buyerGain_9 : decode cX8_buyerGain 9 = .ok (.iconst 2, 1) := by decide +kernel
theorem dX8_buyerGain_10 : decode cX8_buyerGain 10 = .ok (.idiv, 1) := by decide +kernel
theorem dX8_buyerGain_11 : decode cX8_buyerGain 11 = .ok (.isub, 1) := by decide +kernel
theorem dX8_buyerGain_12 : decode cX8_buyerGain 12 = .ok (.goto 4, 3) := by decide +kernel
theorem dX8_buyerGain_15 : decode cX8_buyerGain 15 = .ok (.iconst 0, 1) := by decide +kernel
theorem dX8_buyerGain_16 : decode cX8_buyerGain 16 = .ok (.ireturn, 1) := by decide +kernel
noncomputable def fX8_buyerGain (μ : zM) (x0 : Int32) (x1 : Int32) (x2 : Int32) : Option (Int32) :=
  zb1 (if x1 < x0 then (
  some 0)
  else (
  some (x2 - ((x0 + x1) / 2))) : Option (Int32)) fun (s1 : Int32) =>
  some s1
set_option maxHeartbeats 4000000 in
set_option maxRecDepth 100000 in
theorem cX8_buyerGain_ok {μ : zM} {x0 : Int32} {x1 : Int32} {x2 : Int32} {r : Int32} (hf : fX8_buyerGain μ x0 x1 x2 = some r) : zC yX8_buyerGain cX8_buyerGain 3 (some .int) 0 0 0 [.int x0, .int x1, .int x2] μ (some (.int r)) μ := by
  unfold fX8_buyerGain at hf
  refine zC.of (by decide) (Nat.le_of_ble_eq_true rfl) (fun K hin => ?_)
  clear hin
  show zz K cX8_buyerGain (3, RX8, some .int, 0, 0, 0, some (.int r), μ) 0 0 0 [(0, .int x0), (1, .int x1), (2, .int x2)] [] μ
  refine zr_iload_n 1 dX8_buyerGain_0 rfl ?_
  refine zr_iload_n 0 dX8_buyerGain_1 rfl ?_
  replace hf := zb1_s hf
  obtain ⟨s1, hg, hf⟩ := hf
  have hj2 : zz K cX8_buyerGain (3, RX8, some .int, 0, 0, 0, some (.int r), μ) 0 0 16 [] [.int s1] μ := by
    cases hf
    exact zr_iret dX8_buyerGain_16
  clear hf
  have hf := hg
  clear hg
  refine zr_icmp_lt 15 dX8_buyerGain_2 (by decide) (fun hc => ?_) (fun hc => ?_)
  · rw [if_pos hc] at hf
    refine zr_iconst 0 dX8_buyerGain_15 (by decide) ?_
    cases hf
    exact zr_lv [] rfl hj2
  · rw [if_neg hc] at hf
    refine zr_iload_n 2 dX8_buyerGain_5 rfl ?_
    refine zr_iload_n 0 dX8_buyerGain_6 rfl ?_
    refine zr_iload_n 1 dX8_buyerGain_7 rfl ?_
    refine zr_iadd dX8_buyerGain_8 ?_
    refine zr_iconst 2 dX8_buyerGain_9 (by decide) ?_
    refine zr_idiv dX8_buyerGain_10 (by decide) ?_
    refine zr_isub dX8_buyerGain_11 ?_
    refine zr_goto 16 dX8_buyerGain_12 (by decide) ?_
    cases hf
    exact zr_lv [] rfl hj2
theorem zl_566 : Cond.code yX8_sellerGain cX8_sellerGain 3 (some .int) ∈ zt := zt_at 1014 (by decide +kernel)
theorem zvs_X8_sellerGain : zvS yX8_sellerGain cX8_sellerGain 3 (some .int) 3 := ⟨zl_566, zl_550, ⟨by decide +kernel, by decide +kernel, by decide +kernel⟩, by decide⟩
theorem zl_567 : Cond.methodLink RX8 58 yX8_sellerGain ∈ zt := zt_at 1012 (by decide +kernel)
theorem zl_568 : Cond.static yX8_sellerGain ∈ zt := zt_at 1013 (by decide +kernel)
theorem zl_569 : Cond.code yX8_buyerGain cX8_buyerGain 3 (some .int) ∈ zt := zt_at 1017 (by decide +kernel)
theorem zvs_X8_buyerGain : zvS yX8_buyerGain cX8_buyerGain 3 (some .int) 3 := ⟨zl_569, zl_550, ⟨by decide +kernel, by decide +kernel, by decide +kernel⟩, by decide⟩
theorem zl_570 : Cond.methodLink RX8 62 yX8_buyerGain ∈ zt := zt_at 1015 (by decide +kernel)
theorem zl_571 : Cond.static yX8_buyerGain ∈ zt := zt_at 1016 (by decide +kernel)
theorem zl_572 : Cond.methodLink RX8 65 Lib.Math.max.name ∈ zt := zt_at 1018 (by decide +kernel)
theorem dX8_findBest_0 : decode cX8_findBest 0 = .ok (.iconst 0, 1) := by decide +kernel
theorem dX8_findBest_1 : decode cX8_findBest 1 = .ok (.istore_n 3, 1) := by decide +kernel
theorem dX8_findBest_2 : decode cX8_findBest 2 = .ok (.iload_n 3, 1) := by decide +kernel
theorem dX8_findBest_3 : decode cX8_findBest 3 = .ok (.bipush 100, 2) := by decide +kernel
theorem dX8_findBest_5 : decode cX8_findBest 5 = .ok (.if_icmp .ge 85, 3) := by decide +kernel
theorem dX8_findBest_8 : decode cX8_findBest 8 = .ok (.iconst 0, 1) := by decide +kernel
theorem dX8_findBest_9 : decode cX8_findBest 9 = .ok (.iload_n 3, 1) := by decide +kernel
theorem dX8_findBest_10 : decode cX8_findBest 10 = .ok (.iload_n 1, 1) := by decide +kernel
theorem dX8_findBest_11 : decode cX8_findBest 11 = .ok (.invokestatic 58, 3) := by decide +kernel
theorem dX8_findBest_14 : decode cX8_findBest 14 = .ok (.istore 4, 2) := by decide +kernel
theorem dX8_findBest_16 : decode cX8_findBest 16 = .ok (.iload_n 3, 1) := by decide +kernel
theorem dX8_findBest_17 : decode cX8_findBest 17 = .ok (.iconst 0, 1) := by decide +kernel
theorem dX8_findBest_18 : decode cX8_findBest 18 = .ok (.iload_n 2, 1) := by decide +kernel
theorem dX8_findBest_19 : decode cX8_findBest 19 = .ok (.invokestatic 62, 3) := by decide +kernel
theorem dX8_findBest_22 : decode cX8_findBest 22 = .ok (.istore 5, 2) := by decide +kernel
theorem dX8_findBest_24 : decode cX8_findBest 24 = .ok (.iconst 1, 1) := by decide +kernel
theorem dX8_findBest_25 : decode cX8_findBest 25 = .ok (.istore 6, 2) := by decide +kernel
theorem dX8_findBest_27 : decode cX8_findBest 27 = .ok (.iload 6, 2) := by decide +kernel
theorem dX8_findBest_29 : decode cX8_findBest 29 = .ok (.bipush 100, 2) := by decide +kernel
theorem dX8_findBest_31 : decode cX8_findBest 31 = .ok (.if_icmp .ge 37, 3) := by decide +kernel
theorem dX8_findBest_34 : decode cX8_findBest 34 = .ok (.iload 4, 2) := by decide +kernel
theorem dX8_findBest_36 : decode cX8_findBest 36 = .ok (.iload 6, 2) := by decide +kernel
theorem dX8_findBest_38 : decode cX8_findBest 38 = .ok (.iload_n 3, 1) := by decide +kernel
theorem dX8_findBest_39 : decode cX8_findBest 39 = .ok (.iload_n 1, 1) := by decide +kernel
theorem dX8_findBest_40 : decode cX8_findBest 40 = .ok (.invokestatic 58, 3) := by decide +kernel
theorem dX8_findBest_43 : decode cX8_findBest 43 = .ok (.invokestatic 65, 3) := by decide +kernel
theorem dX8_findBest_46 : decode cX8_findBest 46 = .ok (.istore 4, 2) := by decide +kernel
theorem dX8_findBest_48 : decode cX8_findBest 48 = .ok (.iload 5, 2) := by decide +kernel
theorem dX8_findBest_50 : decode cX8_findBest 50 = .ok (.iload_n 3, 1) := by decide +kernel
theorem dX8_findBest_51 : decode cX8_findBest 51 = .ok (.iload 6, 2) := by decide +kernel
theorem dX8_findBest_53 : decode cX8_findBest 53 = .ok (.iload_n 2, 1) := by decide +kernel
theorem dX8_findBest_54 : decode cX8_findBest 54 = .ok (.invokestatic 62, 3) := by decide +kernel
theorem dX8_findBest_57 : decode cX8_findBest 57 = .ok (.invokestatic 65, 3) := by decide +kernel
theorem dX8_findBest_60 : decode cX8_findBest 60 = .ok (.istore 5, 2) := by decide +kernel
theorem dX8_findBest_62 : decode cX8_findBest 62 = .ok (.iinc 6 1, 3) := by decide +kernel
theorem dX8_findBest_65 : decode cX8_findBest 65 = .ok (.goto (-38), 3) := by decide +kernel
theorem dX8_findBest_68 : decode cX8_findBest 68 = .ok (.aload_n 0, 1) := by decide +kernel
theorem dX8_findBest_69 : decode cX8_findBest 69 = .ok (.getfield 9, 3) := by decide +kernel
theorem dX8_findBest_72 : decode cX8_findBest 72 = .ok (.iload_n 3, 1) := by decide +kernel
theorem dX8_findBest_73 : decode cX8_findBest 73 = .ok (.iload 4, 2) := by decide +kernel
theorem dX8_findBest_75 : decode cX8_findBest 75 = .ok (.iastore, 1) := by decide +kernel
theorem dX8_findBest_76 : decode cX8_findBest 76 = .ok (.aload_n 0, 1) := by decide +kernel
theorem dX8_findBest_77 : decode cX8_findBest 77 = .ok (.getfield 15, 3) := by decide +kernel
theorem dX8_findBest_80 : decode cX8_findBest 80 = .ok (.iload_n 3, 1) := by decide +kernel
theorem dX8_findBest_81 : decode cX8_findBest 81 = .ok (.iload 5, 2) := by decide +kernel
theorem dX8_findBest_83 : decode cX8_findBest 83 = .ok (.iastore, 1) := by decide +kernel
theorem dX8_findBest_84 : decode cX8_findBest 84 = .ok (.iinc 3 1, 3) := by decide +kernel
theorem dX8_findBest_87 : decode cX8_findBest 87 = .ok (.goto (-85), 3) := by decide +kernel
theorem dX8_findBest_90 : decode cX8_findBest 90 = .ok (.return_, 1) := by decide +kernel
noncomputable def fX8_findBest_l27 (m2 : zM) (x3_1 : Int32) (x1 : Int32) (x2 : Int32) (F14 : Int32 → Int32 → Int32 → Option (Int32 × Int32)) (x4_11 : Int32) (x5_12 : Int32) (x6_13 : Int32) : Option (Int32 × Int32) :=
  if 100 ≤ x6_13 then (
  some (x4_11, x5_12))
  else (
  zb1 (fX8_sellerGain m2 x6_13 x3_1 x1) fun v20 =>
  zb1 (fX8_buyerGain m2 x3_1 x6_13 x2) fun v22 =>
  F14 (if x4_11 < v20 then v20 else x4_11 : Int32) (if x5_12 < v22 then v22 else x5_12 : Int32) (x6_13 + 1))
noncomputable def fX8_findBest_l2 (x1 : Int32) (x2 : Int32) (x0 : Nat) (F3 : Int32 → zM → Option (zM)) (x3_1 : Int32) (m2 : zM) : Option (zM) :=
  if 100 ≤ x3_1 then (
  some m2)
  else (
  zb1 (fX8_sellerGain m2 0 x3_1 x1) fun v8 =>
  zb1 (fX8_buyerGain m2 x3_1 0 x2) fun v10 =>
  zb2 (zf3 (fX8_findBest_l27 m2 x3_1 x1 x2) zfu v8 v10 1 : Option (Int32 × Int32)) fun (x4_16 : Int32) (x5_17 : Int32) =>
  zb1 (zm_gR m2 8 x0 0) fun v24 =>
  zb1 (zm_sI m2 0 v24 x3_1 x4_16) fun m26 =>
  zb1 (zm_gR m26 8 x0 1) fun v28 =>
  zb1 (zm_sI m26 0 v28 x3_1 x5_17) fun m30 =>
  F3 (x3_1 + 1) m30)
noncomputable def fX8_findBest (μ : zM) (x0 : Nat) (x1 : Int32) (x2 : Int32) : Option (zM) := zgd (zm_ck μ 8 x0) <|
  zb1 (zf2 (fX8_findBest_l2 x1 x2 x0) zfu 0 μ : Option (zM)) fun (m5 : zM) =>
  some m5
theorem fX8_findBest_ck {μ : zM} {x0 : Nat} {x1 : Int32} {x2 : Int32} {z : zM} (h : fX8_findBest μ x0 x1 x2 = some z) : zm_ck μ 8 x0 = true := (zgd_s h).1
set_option maxHeartbeats 4000000 in
set_option maxRecDepth 100000 in
theorem cX8_findBest_ok {μ : zM} {x0 : Nat} {x1 : Int32} {x2 : Int32} {mo : zM} (hf : fX8_findBest μ x0 x1 x2 = some mo) : zC yX8_findBest cX8_findBest 7 (none) 1 0 0 [.ref x0, .int x1, .int x2] μ (none) mo := by
  replace hf := (zgd_s hf).2
  refine zC.of (by decide) (Nat.le_of_ble_eq_true rfl) (fun K hin => ?_)
  clear hin
  show zz K cX8_findBest (7, RX8, none, 1, 0, 0, none, mo) 0 0 0 [(0, .ref x0), (1, .int x1), (2, .int x2)] [] μ
  refine zr_iconst 0 dX8_findBest_0 (by decide) ?_
  refine zr_istore_n [(3, .int 0), (0, .ref x0), (1, .int x1), (2, .int x2)] dX8_findBest_1 (Nat.le_of_ble_eq_true rfl) rfl ?_
  replace hf := zb1_s hf
  obtain ⟨m5, hg, hf⟩ := hf
  have hj6 : zz K cX8_findBest (7, RX8, none, 1, 0, 0, none, mo) 0 0 90 [] [] m5 := by
    cases hf
    exact zr_vret dX8_findBest_90
  clear hf
  have hf := hg
  clear hg
  have hL32 : ∀ (n : Nat) (x3_1 : Int32) (m2 : zM), zf2 (fX8_findBest_l2 x1 x2 x0) n x3_1 m2 = some m5 → zz K cX8_findBest (7, RX8, none, 1, 0, 0, none, mo) 0 0 2 [(0, .ref x0), (1, .int x1), (2, .int x2), (3, .int x3_1)] [] m2 := by
    intro n
    induction n with
    | zero => intro x3_1 m2 hf; cases hf
    | succ n ih4 =>
      intro x3_1 m2 hf
      replace hf := zf2_s hf
      generalize zf2 (fX8_findBest_l2 x1 x2 x0) n = F3 at hf ih4
      unfold fX8_findBest_l2 at hf
      refine zr_iload_n 3 dX8_findBest_2 rfl ?_
      refine zr_bipush 100 dX8_findBest_3 (by decide) ?_
      refine zr_icmp_ge 90 dX8_findBest_5 (by decide) (fun hc => ?_) (fun hc => ?_)
      · rw [if_pos hc] at hf
        cases hf
        exact zr_lv [] rfl hj6
      · rw [if_neg hc] at hf
        refine zr_iconst 0 dX8_findBest_8 (by decide) ?_
        refine zr_iload_n 3 dX8_findBest_9 rfl ?_
        refine zr_iload_n 1 dX8_findBest_10 rfl ?_
        replace hf := zb1_s hf
        obtain ⟨v8, h7, hf⟩ := hf
        refine zr_callS [.int 0, .int x3_1, .int x1] (cX8_sellerGain_ok h7) zvs_X8_sellerGain zl_568 zl_567 rfl (Nat.le_of_ble_eq_true rfl) (Nat.le_of_ble_eq_true rfl) (Nat.le_of_ble_eq_true rfl) (Nat.le_of_ble_eq_true rfl) dX8_findBest_11 rfl ?_
        refine zr_istore [(4, .int v8), (0, .ref x0), (1, .int x1), (2, .int x2), (3, .int x3_1)] dX8_findBest_14 (Nat.le_of_ble_eq_true rfl) rfl ?_
        refine zr_iload_n 4 dX8_findBest_16 rfl ?_
        refine zr_iconst 0 dX8_findBest_17 (by decide) ?_
        refine zr_iload_n 3 dX8_findBest_18 rfl ?_
        replace hf := zb1_s hf
        obtain ⟨v10, h9, hf⟩ := hf
        refine zr_callS [.int x3_1, .int 0, .int x2] (cX8_buyerGain_ok h9) zvs_X8_buyerGain zl_571 zl_570 rfl (Nat.le_of_ble_eq_true rfl) (Nat.le_of_ble_eq_true rfl) (Nat.le_of_ble_eq_true rfl) (Nat.le_of_ble_eq_true rfl) dX8_findBest_19 rfl ?_
        refine zr_istore [(5, .int v10), (4, .int v8), (0, .ref x0), (1, .int x1), (2, .int x2), (3, .int x3_1)] dX8_findBest_22 (Nat.le_of_ble_eq_true rfl) rfl ?_
        refine zr_iconst 1 dX8_findBest_24 (by decide) ?_
        refine zr_istore [(6, .int 1), (5, .int v10), (4, .int v8), (0, .ref x0), (1, .int x1), (2, .int x2), (3, .int x3_1)] dX8_findBest_25 (Nat.le_of_ble_eq_true rfl) rfl ?_
        replace hf := zb2_s hf
        obtain ⟨x4_16, x5_17, hg, hf⟩ := hf
        have hj18 : zz K cX8_findBest (7, RX8, none, 1, 0, 0, none, mo) 0 0 68 [(0, .ref x0), (1, .int x1), (2, .int x2), (3, .int x3_1), (4, .int x4_16), (5, .int x5_17)] [] m2 := by
          refine zr_aload_n 0 dX8_findBest_68 rfl ?_
          replace hf := zb1_s hf
          obtain ⟨v24, h25, hf⟩ := hf
          refine zr_get (zm_gR_g h25) zk8 (by decide) zl_540 dX8_findBest_69 ?_
          refine zr_iload_n 3 dX8_findBest_72 rfl ?_
          refine zr_iload 4 dX8_findBest_73 rfl ?_
          replace hf := zb1_s hf
          obtain ⟨m26, h27, hf⟩ := hf
          refine zr_iast h27 dX8_findBest_75 ?_
          refine zr_aload_n 0 dX8_findBest_76 rfl ?_
          replace hf := zb1_s hf
          obtain ⟨v28, h29, hf⟩ := hf
          refine zr_get (zm_gR_g h29) zk8 (by decide) zl_541 dX8_findBest_77 ?_
          refine zr_iload_n 3 dX8_findBest_80 rfl ?_
          refine zr_iload 5 dX8_findBest_81 rfl ?_
          replace hf := zb1_s hf
          obtain ⟨m30, h31, hf⟩ := hf
          refine zr_iast h31 dX8_findBest_83 ?_
          refine zr_iinc (j := 3) (x3_1 + 1) [(3, .int (x3_1 + 1)), (0, .ref x0), (1, .int x1), (2, .int x2), (4, .int x4_16), (5, .int x5_17)] dX8_findBest_84 rfl rfl (Nat.le_of_ble_eq_true rfl) rfl ?_
          refine zr_goto 2 dX8_findBest_87 (by decide) ?_
          exact zr_lv [1, 2, 3, 0] rfl (ih4 (x3_1 + 1) m30 hf)
        clear hf
        have hf := hg
        clear hg
        have hL23 : ∀ (n : Nat) (x4_11 : Int32) (x5_12 : Int32) (x6_13 : Int32), zf3 (fX8_findBest_l27 m2 x3_1 x1 x2) n x4_11 x5_12 x6_13 = some (x4_16, x5_17) → zz K cX8_findBest (7, RX8, none, 1, 0, 0, none, mo) 0 0 27 [(0, .ref x0), (1, .int x1), (2, .int x2), (3, .int x3_1), (4, .int x4_11), (5, .int x5_12), (6, .int x6_13)] [] m2 := by
          intro n
          induction n with
          | zero => intro x4_11 x5_12 x6_13 hf; cases hf
          | succ n ih15 =>
            intro x4_11 x5_12 x6_13 hf
            replace hf := zf3_s hf
            generalize zf3 (fX8_findBest_l27 m2 x3_1 x1 x2) n = F14 at hf ih15
            unfold fX8_findBest_l27 at hf
            refine zr_iload 6 dX8_findBest_27 rfl ?_
            refine zr_bipush 100 dX8_findBest_29 (by decide) ?_
            refine zr_icmp_ge 68 dX8_findBest_31 (by decide) (fun hc => ?_) (fun hc => ?_)
            · rw [if_pos hc] at hf
              cases hf
              exact zr_lv [0, 1, 2, 3, 4, 5] rfl hj18
            · rw [if_neg hc] at hf
              refine zr_iload 4 dX8_findBest_34 rfl ?_
              refine zr_iload 6 dX8_findBest_36 rfl ?_
              refine zr_iload_n 3 dX8_findBest_38 rfl ?_
              refine zr_iload_n 1 dX8_findBest_39 rfl ?_
              replace hf := zb1_s hf
              obtain ⟨v20, h19, hf⟩ := hf
              refine zr_callS [.int x6_13, .int x3_1, .int x1] (cX8_sellerGain_ok h19) zvs_X8_sellerGain zl_568 zl_567 rfl (Nat.le_of_ble_eq_true rfl) (Nat.le_of_ble_eq_true rfl) (Nat.le_of_ble_eq_true rfl) (Nat.le_of_ble_eq_true rfl) dX8_findBest_40 rfl ?_
              refine zr_mmax zl_572 zl_55 zl_11 zl_56 (Nat.le_of_ble_eq_true rfl) (Nat.le_of_ble_eq_true rfl) (Nat.le_of_ble_eq_true rfl) (Nat.le_of_ble_eq_true rfl) dX8_findBest_43 ?_
              refine zr_istore [(4, .int (if x4_11 < v20 then v20 else x4_11 : Int32)), (0, .ref x0), (1, .int x1), (2, .int x2), (3, .int x3_1), (5, .int x5_12), (6, .int x6_13)] dX8_findBest_46 (Nat.le_of_ble_eq_true rfl) rfl ?_
              refine zr_iload 5 dX8_findBest_48 rfl ?_
              refine zr_iload_n 4 dX8_findBest_50 rfl ?_
              refine zr_iload 6 dX8_findBest_51 rfl ?_
              refine zr_iload_n 3 dX8_findBest_53 rfl ?_
              replace hf := zb1_s hf
              obtain ⟨v22, h21, hf⟩ := hf
              refine zr_callS [.int x3_1, .int x6_13, .int x2] (cX8_buyerGain_ok h21) zvs_X8_buyerGain zl_571 zl_570 rfl (Nat.le_of_ble_eq_true rfl) (Nat.le_of_ble_eq_true rfl) (Nat.le_of_ble_eq_true rfl) (Nat.le_of_ble_eq_true rfl) dX8_findBest_54 rfl ?_
              refine zr_mmax zl_572 zl_55 zl_11 zl_56 (Nat.le_of_ble_eq_true rfl) (Nat.le_of_ble_eq_true rfl) (Nat.le_of_ble_eq_true rfl) (Nat.le_of_ble_eq_true rfl) dX8_findBest_57 ?_
              refine zr_istore [(5, .int (if x5_12 < v22 then v22 else x5_12 : Int32)), (4, .int (if x4_11 < v20 then v20 else x4_11 : Int32)), (0, .ref x0), (1, .int x1), (2, .int x2), (3, .int x3_1), (6, .int x6_13)] dX8_findBest_60 (Nat.le_of_ble_eq_true rfl) rfl ?_
              refine zr_iinc (j := 6) (x6_13 + 1) [(6, .int (x6_13 + 1)), (5, .int (if x5_12 < v22 then v22 else x5_12 : Int32)), (4, .int (if x4_11 < v20 then v20 else x4_11 : Int32)), (0, .ref x0), (1, .int x1), (2, .int x2), (3, .int x3_1)] dX8_findBest_62 rfl rfl (Nat.le_of_ble_eq_true rfl) rfl ?_
              refine zr_goto 27 dX8_findBest_65 (by decide) ?_
              exact zr_lv [3, 4, 5, 6, 2, 1, 0] rfl (ih15 (if x4_11 < v20 then v20 else x4_11 : Int32) (if x5_12 < v22 then v22 else x5_12 : Int32) (x6_13 + 1) hf)
        exact zr_lv [3, 4, 5, 6, 2, 1, 0] rfl (hL23 _ v8 v10 1 hf)
  exact zr_lv [1, 2, 3, 0] rfl (hL32 _ 0 μ hf)
theorem zl_573 : Cond.code yX8_findBest cX8_findBest 7 (none) ∈ zt := zt_at 1011 (by decide +kernel)
theorem zvs_X8_findBest : zvS yX8_findBest cX8_findBest 7 (none) 2 := ⟨zl_573, zl_550, ⟨by decide +kernel, by decide +kernel, by decide +kernel⟩, by decide⟩
theorem zl_574 : Cond.methodLink RX8 54 yX8_findBest ∈ zt := zt_at 1008 (by decide +kernel)
theorem zl_575 : Cond.instanceMethod yX8_findBest ∈ zt := zt_at 1010 (by decide +kernel)
theorem zl_576 : Cond.selects RX8 yX8_findBest yX8_findBest ∈ zt := zt_at 33 (by decide +kernel)
theorem dX8_rests_0 : decode cX8_rests 0 = .ok (.aload_n 0, 1) := by decide +kernel
theorem dX8_rests_1 : decode cX8_rests 1 = .ok (.iload_n 1, 1) := by decide +kernel
theorem dX8_rests_2 : decode cX8_rests 2 = .ok (.iload_n 2, 1) := by decide +kernel
theorem dX8_rests_3 : decode cX8_rests 3 = .ok (.invokevirtual 54, 3) := by decide +kernel
theorem dX8_rests_6 : decode cX8_rests 6 = .ok (.iconst 0, 1) := by decide +kernel
theorem dX8_rests_7 : decode cX8_rests 7 = .ok (.istore 4, 2) := by decide +kernel
theorem dX8_rests_9 : decode cX8_rests 9 = .ok (.iconst 0, 1) := by decide +kernel
theorem dX8_rests_10 : decode cX8_rests 10 = .ok (.istore 5, 2) := by decide +kernel
theorem dX8_rests_12 : decode cX8_rests 12 = .ok (.iload 5, 2) := by decide +kernel
theorem dX8_rests_14 : decode cX8_rests 14 = .ok (.bipush 100, 2) := by decide +kernel
theorem dX8_rests_16 : decode cX8_rests 16 = .ok (.if_icmp .ge 73, 3) := by decide +kernel
theorem dX8_rests_19 : decode cX8_rests 19 = .ok (.iload_n 3, 1) := by decide +kernel
theorem dX8_rests_20 : decode cX8_rests 20 = .ok (.ifCond .eq 8, 3) := by decide +kernel
theorem dX8_rests_23 : decode cX8_rests 23 = .ok (.iload 5, 2) := by decide +kernel
theorem dX8_rests_25 : decode cX8_rests 25 = .ok (.goto 4, 3) := by decide +kernel
theorem dX8_rests_28 : decode cX8_rests 28 = .ok (.iconst 0, 1) := by decide +kernel
theorem dX8_rests_29 : decode cX8_rests 29 = .ok (.istore 6, 2) := by decide +kernel
theorem dX8_rests_31 : decode cX8_rests 31 = .ok (.iload 6, 2) := by decide +kernel
theorem dX8_rests_33 : decode cX8_rests 33 = .ok (.bipush 100, 2) := by decide +kernel
theorem dX8_rests_35 : decode cX8_rests 35 = .ok (.if_icmp .ge 48, 3) := by decide +kernel
theorem dX8_rests_38 : decode cX8_rests 38 = .ok (.iload 5, 2) := by decide +kernel
theorem dX8_rests_40 : decode cX8_rests 40 = .ok (.iload 6, 2) := by decide +kernel
theorem dX8_rests_42 : decode cX8_rests 42 = .ok (.iload_n 1, 1) := by decide +kernel
theorem dX8_rests_43 : decode cX8_rests 43 = .ok (.invokestatic 58, 3) := by decide +kernel
theorem dX8_rests_46 : decode cX8_rests 46 = .ok (.aload_n 0, 1) := by decide +kernel
theorem dX8_rests_47 : decode cX8_rests 47 = .ok (.getfield 9, 3) := by decide +kernel
theorem dX8_rests_50 : decode cX8_rests 50 = .ok (.iload 6, 2) := by decide +kernel
theorem dX8_rests_52 : decode cX8_rests 52 = .ok (.iaload, 1) := by decide +kernel
theorem dX8_rests_53 : decode cX8_rests 53 = .ok (.if_icmp .ne 24, 3) := by decide +kernel
theorem dX8_rests_56 : decode cX8_rests 56 = .ok (.iload 5, 2) := by decide +kernel
theorem dX8_rests_58 : decode cX8_rests 58 = .ok (.iload 6, 2) := by decide +kernel
theorem dX8_rests_60 : decode cX8_rests 60 = .ok (.iload_n 2, 1) := by decide +kernel
theorem dX8_rests_61 : decode cX8_rests 61 = .ok (.invokestatic 62, 3) := by decide +kernel
theorem dX8_rests_64 : decode cX8_rests 64 = .ok (.aload_n 0, 1) := by decide +kernel
theorem dX8_rests_65 : decode cX8_rests 65 = .ok (.getfield 15, 3) := by decide +kernel
theorem dX8_rests_68 : decode cX8_rests 68 = .ok (.iload 5, 2) := by decide +kernel
theorem dX8_rests_70 : decode cX8_rests 70 = .ok (.iaload, 1) := by decide +kernel
theorem dX8_rests_71 : decode cX8_rests 71 = .ok (.if_icmp .ne 6, 3) := by decide +kernel
theorem dX8_rests_74 : decode cX8_rests 74 = .ok (.iinc 4 1, 3) := by decide +kernel
theorem dX8_rests_77 : decode cX8_rests 77 = .ok (.iinc 6 1, 3) := by decide +kernel
theorem dX8_rests_80 : decode cX8_rests 80 = .ok (.goto (-49), 3) := by decide +kernel
theorem dX8_rests_83 : decode cX8_rests 83 = .ok (.iinc 5 1, 3) := by decide +kernel
theorem dX8_rests_86 : decode cX8_rests 86 = .ok (.goto (-74), 3) := by decide +kernel
theorem dX8_rests_89 : decode cX8_rests 89 = .ok (.iload 4, 2) := by decide +kernel
theorem dX8_rests_91 : decode cX8_rests 91 = .ok (.ireturn, 1) := by decide +kernel
noncomputable def fX8_rests_l31 (m2 : zM) (x5_4 : Int32) (x1 : Int32) (x0 : Nat) (x2 : Int32) (F13 : Int32 → Int32 → Option (Int32)) (x4_11 : Int32) (x6_12 : Int32) : Option (Int32) :=
  if 100 ≤ x6_12 then (
  some x4_11)
  else (
  zb1 (fX8_sellerGain m2 x5_4 x6_12 x1) fun v18 =>
  zb1 (zm_gR m2 8 x0 0) fun v19 =>
  zb1 (zm_aI m2 0 v19 x6_12) fun v21 =>
  zb1 (if v18 = v21 then (
  zb1 (fX8_buyerGain m2 x5_4 x6_12 x2) fun v26 =>
  zb1 (zm_gR m2 8 x0 1) fun v27 =>
  zb1 (zm_aI m2 0 v27 x5_4) fun v29 =>
  if v26 = v29 then (
  some (x4_11 + 1))
  else (
  some x4_11))
  else (
  some x4_11) : Option (Int32)) fun (x4_23 : Int32) =>
  F13 x4_23 (x6_12 + 1))
noncomputable def fX8_rests_l12 (x3 : Int32) (m2 : zM) (x1 : Int32) (x0 : Nat) (x2 : Int32) (F5 : Int32 → Int32 → Option (Int32)) (x4_3 : Int32) (x5_4 : Int32) : Option (Int32) :=
  if 100 ≤ x5_4 then (
  some x4_3)
  else (
  zb1 (if x3 = 0 then (
  some 0)
  else (
  some x5_4) : Option (Int32)) fun (s9 : Int32) =>
  zb1 (zf2 (fX8_rests_l31 m2 x5_4 x1 x0 x2) zfu x4_3 s9 : Option (Int32)) fun (x4_15 : Int32) =>
  F5 x4_15 (x5_4 + 1))
noncomputable def fX8_rests (μ : zM) (x0 : Nat) (x1 : Int32) (x2 : Int32) (x3 : Int32) : Option (Int32 × zM) := zgd (zm_ck μ 8 x0) <|
  zb1 (fX8_findBest μ x0 x1 x2) fun m2 =>
  zb1 (zf2 (fX8_rests_l12 x3 m2 x1 x0 x2) zfu 0 0 : Option (Int32)) fun (x4_7 : Int32) =>
  some (x4_7, m2)
theorem fX8_rests_ck {μ : zM} {x0 : Nat} {x1 : Int32} {x2 : Int32} {x3 : Int32} {z : Int32 × zM} (h : fX8_rests μ x0 x1 x2 x3 = some z) : zm_ck μ 8 x0 = true := (zgd_s h).1
set_option maxHeartbeats 4000000 in
set_option maxRecDepth 100000 in
theorem cX8_rests_ok {μ : zM} {x0 : Nat} {x1 : Int32} {x2 : Int32} {x3 : Int32} {r : Int32} {mo : zM} (hf : fX8_rests μ x0 x1 x2 x3 = some (r, mo)) : zC yX8_rests cX8_rests 7 (some .int) 2 0 0 [.ref x0, .int x1, .int x2, .int x3] μ (some (.int r)) mo := by
  replace hf := (zgd_s hf).2
  refine zC.of (by decide) (Nat.le_of_ble_eq_true rfl) (fun K hin => ?_)
  clear hin
  show zz K cX8_rests (7, RX8, some .int, 2, 0, 0, some (.int r), mo) 0 0 0 [(0, .ref x0), (1, .int x1), (2, .int x2), (3, .int x3)] [] μ
  refine zr_aload_n 0 dX8_rests_0 rfl ?_
  refine zr_iload_n 1 dX8_rests_1 rfl ?_
  refine zr_iload_n 2 dX8_rests_2 rfl ?_
  replace hf := zb1_s hf
  obtain ⟨m2, h1, hf⟩ := hf
  refine zr_callV (ci := 8) [.int x1, .int x2] (cX8_findBest_ok h1) zvs_X8_findBest zl_575 zl_576 (fX8_findBest_ck h1) rfl rfl zl_574 rfl (Nat.le_of_ble_eq_true rfl) (Nat.le_of_ble_eq_true rfl) (Nat.le_of_ble_eq_true rfl) (Nat.le_of_ble_eq_true rfl) dX8_rests_3 rfl ?_
  refine zr_iconst 0 dX8_rests_6 (by decide) ?_
  refine zr_istore [(4, .int 0), (0, .ref x0), (1, .int x1), (2, .int x2), (3, .int x3)] dX8_rests_7 (Nat.le_of_ble_eq_true rfl) rfl ?_
  refine zr_iconst 0 dX8_rests_9 (by decide) ?_
  refine zr_istore [(5, .int 0), (4, .int 0), (0, .ref x0), (1, .int x1), (2, .int x2), (3, .int x3)] dX8_rests_10 (Nat.le_of_ble_eq_true rfl) rfl ?_
  replace hf := zb1_s hf
  obtain ⟨x4_7, hg, hf⟩ := hf
  have hj8 : zz K cX8_rests (7, RX8, some .int, 2, 0, 0, some (.int r), mo) 0 0 89 [(4, .int x4_7)] [] m2 := by
    refine zr_iload 0 dX8_rests_89 rfl ?_
    cases hf
    exact zr_iret dX8_rests_91
  clear hf
  have hf := hg
  clear hg
  have hL32 : ∀ (n : Nat) (x4_3 : Int32) (x5_4 : Int32), zf2 (fX8_rests_l12 x3 m2 x1 x0 x2) n x4_3 x5_4 = some x4_7 → zz K cX8_rests (7, RX8, some .int, 2, 0, 0, some (.int r), mo) 0 0 12 [(0, .ref x0), (1, .int x1), (2, .int x2), (3, .int x3), (4, .int x4_3), (5, .int x5_4)] [] m2 := by
    intro n
    induction n with
    | zero => intro x4_3 x5_4 hf; cases hf
    | succ n ih6 =>
      intro x4_3 x5_4 hf
      replace hf := zf2_s hf
      generalize zf2 (fX8_rests_l12 x3 m2 x1 x0 x2) n = F5 at hf ih6
      unfold fX8_rests_l12 at hf
      refine zr_iload 5 dX8_rests_12 rfl ?_
      refine zr_bipush 100 dX8_rests_14 (by decide) ?_
      refine zr_icmp_ge 89 dX8_rests_16 (by decide) (fun hc => ?_) (fun hc => ?_)
      · rw [if_pos hc] at hf
        cases hf
        exact zr_lv [4] rfl hj8
      · rw [if_neg hc] at hf
        refine zr_iload_n 3 dX8_rests_19 rfl ?_
        replace hf := zb1_s hf
        obtain ⟨s9, hg, hf⟩ := hf
        have hj10 : zz K cX8_rests (7, RX8, some .int, 2, 0, 0, some (.int r), mo) 0 0 29 [(0, .ref x0), (1, .int x1), (2, .int x2), (3, .int x3), (4, .int x4_3), (5, .int x5_4)] [.int s9] m2 := by
          refine zr_istore [(6, .int s9), (0, .ref x0), (1, .int x1), (2, .int x2), (3, .int x3), (4, .int x4_3), (5, .int x5_4)] dX8_rests_29 (Nat.le_of_ble_eq_true rfl) rfl ?_
          replace hf := zb1_s hf
          obtain ⟨x4_15, hg, hf⟩ := hf
          have hj16 : zz K cX8_rests (7, RX8, some .int, 2, 0, 0, some (.int r), mo) 0 0 83 [(0, .ref x0), (1, .int x1), (2, .int x2), (3, .int x3), (4, .int x4_15), (5, .int x5_4)] [] m2 := by
            refine zr_iinc (j := 5) (x5_4 + 1) [(5, .int (x5_4 + 1)), (0, .ref x0), (1, .int x1), (2, .int x2), (3, .int x3), (4, .int x4_15)] dX8_rests_83 rfl rfl (Nat.le_of_ble_eq_true rfl) rfl ?_
            refine zr_goto 12 dX8_rests_86 (by decide) ?_
            exact zr_lv [1, 2, 3, 4, 5, 0] rfl (ih6 x4_15 (x5_4 + 1) hf)
          clear hf
          have hf := hg
          clear hg
          have hL31 : ∀ (n : Nat) (x4_11 : Int32) (x6_12 : Int32), zf2 (fX8_rests_l31 m2 x5_4 x1 x0 x2) n x4_11 x6_12 = some x4_15 → zz K cX8_rests (7, RX8, some .int, 2, 0, 0, some (.int r), mo) 0 0 31 [(0, .ref x0), (1, .int x1), (2, .int x2), (3, .int x3), (4, .int x4_11), (5, .int x5_4), (6, .int x6_12)] [] m2 := by
            intro n
            induction n with
            | zero => intro x4_11 x6_12 hf; cases hf
            | succ n ih14 =>
              intro x4_11 x6_12 hf
              replace hf := zf2_s hf
              generalize zf2 (fX8_rests_l31 m2 x5_4 x1 x0 x2) n = F13 at hf ih14
              unfold fX8_rests_l31 at hf
              refine zr_iload 6 dX8_rests_31 rfl ?_
              refine zr_bipush 100 dX8_rests_33 (by decide) ?_
              refine zr_icmp_ge 83 dX8_rests_35 (by decide) (fun hc => ?_) (fun hc => ?_)
              · rw [if_pos hc] at hf
                cases hf
                exact zr_lv [0, 1, 2, 3, 4, 5] rfl hj16
              · rw [if_neg hc] at hf
                refine zr_iload 5 dX8_rests_38 rfl ?_
                refine zr_iload 6 dX8_rests_40 rfl ?_
                refine zr_iload_n 1 dX8_rests_42 rfl ?_
                replace hf := zb1_s hf
                obtain ⟨v18, h17, hf⟩ := hf
                refine zr_callS [.int x5_4, .int x6_12, .int x1] (cX8_sellerGain_ok h17) zvs_X8_sellerGain zl_568 zl_567 rfl (Nat.le_of_ble_eq_true rfl) (Nat.le_of_ble_eq_true rfl) (Nat.le_of_ble_eq_true rfl) (Nat.le_of_ble_eq_true rfl) dX8_rests_43 rfl ?_
                refine zr_aload_n 0 dX8_rests_46 rfl ?_
                replace hf := zb1_s hf
                obtain ⟨v19, h20, hf⟩ := hf
                refine zr_get (zm_gR_g h20) zk8 (by decide) zl_540 dX8_rests_47 ?_
                refine zr_iload 6 dX8_rests_50 rfl ?_
                replace hf := zb1_s hf
                obtain ⟨v21, h22, hf⟩ := hf
                refine zr_iald h22 dX8_rests_52 ?_
                replace hf := zb1_s hf
                obtain ⟨x4_23, hg, hf⟩ := hf
                have hj24 : zz K cX8_rests (7, RX8, some .int, 2, 0, 0, some (.int r), mo) 0 0 77 [(0, .ref x0), (1, .int x1), (2, .int x2), (3, .int x3), (4, .int x4_23), (5, .int x5_4), (6, .int x6_12)] [] m2 := by
                  refine zr_iinc (j := 6) (x6_12 + 1) [(6, .int (x6_12 + 1)), (0, .ref x0), (1, .int x1), (2, .int x2), (3, .int x3), (4, .int x4_23), (5, .int x5_4)] dX8_rests_77 rfl rfl (Nat.le_of_ble_eq_true rfl) rfl ?_
                  refine zr_goto 31 dX8_rests_80 (by decide) ?_
                  exact zr_lv [1, 2, 3, 4, 5, 6, 0] rfl (ih14 x4_23 (x6_12 + 1) hf)
                clear hf
                have hf := hg
                clear hg
                refine zr_icmp_ne 77 dX8_rests_53 (by decide) (fun hc => ?_) (fun hc => ?_)
                · rw [if_neg hc] at hf
                  cases hf
                  exact zr_lv [0, 1, 2, 3, 4, 5, 6] rfl hj24
                · rw [if_pos hc] at hf
                  refine zr_iload 5 dX8_rests_56 rfl ?_
                  refine zr_iload 6 dX8_rests_58 rfl ?_
                  refine zr_iload_n 2 dX8_rests_60 rfl ?_
                  replace hf := zb1_s hf
                  obtain ⟨v26, h25, hf⟩ := hf
                  refine zr_callS [.int x5_4, .int x6_12, .int x2] (cX8_buyerGain_ok h25) zvs_X8_buyerGain zl_571 zl_570 rfl (Nat.le_of_ble_eq_true rfl) (Nat.le_of_ble_eq_true rfl) (Nat.le_of_ble_eq_true rfl) (Nat.le_of_ble_eq_true rfl) dX8_rests_61 rfl ?_
                  refine zr_aload_n 0 dX8_rests_64 rfl ?_
                  replace hf := zb1_s hf
                  obtain ⟨v27, h28, hf⟩ := hf
                  refine zr_get (zm_gR_g h28) zk8 (by decide) zl_541 dX8_rests_65 ?_
                  refine zr_iload 5 dX8_rests_68 rfl ?_
                  replace hf := zb1_s hf
                  obtain ⟨v29, h30, hf⟩ := hf
                  refine zr_iald h30 dX8_rests_70 ?_
                  refine zr_icmp_ne 77 dX8_rests_71 (by decide) (fun hc => ?_) (fun hc => ?_)
                  · rw [if_neg hc] at hf
                    cases hf
                    exact zr_lv [0, 1, 2, 3, 4, 5, 6] rfl hj24
                  · rw [if_pos hc] at hf
                    refine zr_iinc (j := 4) (x4_11 + 1) [(4, .int (x4_11 + 1)), (0, .ref x0), (1, .int x1), (2, .int x2), (3, .int x3), (5, .int x5_4), (6, .int x6_12)] dX8_rests_74 rfl rfl (Nat.le_of_ble_eq_true rfl) rfl ?_
                    cases hf
                    exact zr_lv [1, 2, 3, 4, 0, 5, 6] rfl hj24
          exact zr_lv [1, 2, 3, 4, 5, 6, 0] rfl (hL31 _ x4_3 s9 hf)
        clear hf
        have hf := hg
        clear hg
        refine zr_if_eq 28 dX8_rests_20 (by decide) (fun hc => ?_) (fun hc => ?_)
        · rw [if_pos hc] at hf
          refine zr_iconst 0 dX8_rests_28 (by decide) ?_
          cases hf
          exact zr_lv [0, 1, 2, 3, 4, 5] rfl hj10
        · rw [if_neg hc] at hf
          refine zr_iload 5 dX8_rests_23 rfl ?_
          refine zr_goto 29 dX8_rests_25 (by decide) ?_
          cases hf
          exact zr_lv [0, 1, 2, 3, 4, 5] rfl hj10
  exact zr_lv [2, 3, 4, 5, 1, 0] rfl (hL32 _ 0 0 hf)
theorem dX8_greatestBuyer_0 : decode cX8_greatestBuyer 0 = .ok (.aload_n 0, 1) := by decide +kernel
theorem dX8_greatestBuyer_1 : decode cX8_greatestBuyer 1 = .ok (.iconst 1, 1) := by decide +kernel
theorem dX8_greatestBuyer_2 : decode cX8_greatestBuyer 2 = .ok (.iload_n 1, 1) := by decide +kernel
theorem dX8_greatestBuyer_3 : decode cX8_greatestBuyer 3 = .ok (.iconst (-1), 1) := by decide +kernel
theorem dX8_greatestBuyer_4 : decode cX8_greatestBuyer 4 = .ok (.if_icmp .ne 7, 3) := by decide +kernel
theorem dX8_greatestBuyer_7 : decode cX8_greatestBuyer 7 = .ok (.iconst 0, 1) := by decide +kernel
theorem dX8_greatestBuyer_8 : decode cX8_greatestBuyer 8 = .ok (.goto 6, 3) := by decide +kernel
theorem dX8_greatestBuyer_11 : decode cX8_greatestBuyer 11 = .ok (.iconst 1, 1) := by decide +kernel
theorem dX8_greatestBuyer_12 : decode cX8_greatestBuyer 12 = .ok (.iload_n 1, 1) := by decide +kernel
theorem dX8_greatestBuyer_13 : decode cX8_greatestBuyer 13 = .ok (.ishl, 1) := by decide +kernel
theorem dX8_greatestBuyer_14 : decode cX8_greatestBuyer 14 = .ok (.invokestatic 18, 3) := by decide +kernel
theorem dX8_greatestBuyer_17 : decode cX8_greatestBuyer 17 = .ok (.ireturn, 1) := by decide +kernel
noncomputable def fX8_greatestBuyer (μ : zM) (x0 : Nat) (x1 : Int32) : Option (Int32) :=
  zb1 (if x1 = (-1) then (
  some 0)
  else (
  some (1 <<< (x1 &&& 31))) : Option (Int32)) fun (s1 : Int32) =>
  zb1 (fX8_bestLeft μ x0 1 s1) fun v4 =>
  some v4
set_option maxHeartbeats 4000000 in
set_option maxRecDepth 100000 in
theorem cX8_greatestBuyer_ok {μ : zM} {x0 : Nat} {x1 : Int32} {r : Int32} (hf : fX8_greatestBuyer μ x0 x1 = some r) : zC yX8_greatestBuyer cX8_greatestBuyer 2 (some .int) 3 0 0 [.ref x0, .int x1] μ (some (.int r)) μ := by
  unfold fX8_greatestBuyer at hf
  refine zC.of (by decide) (Nat.le_of_ble_eq_true rfl) (fun K hin => ?_)
  clear hin
  show zz K cX8_greatestBuyer (2, RX8, some .int, 3, 0, 0, some (.int r), μ) 0 0 0 [(0, .ref x0), (1, .int x1)] [] μ
  refine zr_aload_n 0 dX8_greatestBuyer_0 rfl ?_
  refine zr_iconst 1 dX8_greatestBuyer_1 (by decide) ?_
  refine zr_iload_n 1 dX8_greatestBuyer_2 rfl ?_
  refine zr_iconst (-1) dX8_greatestBuyer_3 (by decide) ?_
  replace hf := zb1_s hf
  obtain ⟨s1, hg, hf⟩ := hf
  have hj2 : zz K cX8_greatestBuyer (2, RX8, some .int, 3, 0, 0, some (.int r), μ) 0 0 14 [] [.int s1, .int 1, .ref x0] μ := by
    replace hf := zb1_s hf
    obtain ⟨v4, h3, hf⟩ := hf
    refine zr_callS [.ref x0, .int 1, .int s1] (cX8_bestLeft_ok h3) zvs_X8_bestLeft zl_555 zl_554 rfl (Nat.le_of_ble_eq_true rfl) (Nat.le_of_ble_eq_true rfl) (Nat.le_of_ble_eq_true rfl) (Nat.le_of_ble_eq_true rfl) dX8_greatestBuyer_14 rfl ?_
    cases hf
    exact zr_iret dX8_greatestBuyer_17
  clear hf
  have hf := hg
  clear hg
  refine zr_icmp_ne 11 dX8_greatestBuyer_4 (by decide) (fun hc => ?_) (fun hc => ?_)
  · rw [if_neg hc] at hf
    refine zr_iconst 1 dX8_greatestBuyer_11 (by decide) ?_
    refine zr_iload_n 1 dX8_greatestBuyer_12 rfl ?_
    refine zr_ishl dX8_greatestBuyer_13 ?_
    cases hf
    exact zr_lv [] rfl hj2
  · rw [if_pos hc] at hf
    refine zr_iconst 0 dX8_greatestBuyer_7 (by decide) ?_
    refine zr_goto 14 dX8_greatestBuyer_8 (by decide) ?_
    cases hf
    exact zr_lv [] rfl hj2
theorem zl_577 : Cond.code yX8_greatestBuyer cX8_greatestBuyer 2 (some .int) ∈ zt := zt_at 1277 (by decide +kernel)
theorem zvs_X8_greatestBuyer : zvS yX8_greatestBuyer cX8_greatestBuyer 2 (some .int) 2 := ⟨zl_577, zl_550, ⟨by decide +kernel, by decide +kernel, by decide +kernel⟩, by decide⟩
theorem zl_578 : Cond.methodLink RX8 71 yX8_greatestBuyer ∈ zt := zt_at 1281 (by decide +kernel)
theorem zl_579 : Cond.static yX8_greatestBuyer ∈ zt := zt_at 1276 (by decide +kernel)
theorem dX8_priceFor_0 : decode cX8_priceFor 0 = .ok (.aload_n 0, 1) := by decide +kernel
theorem dX8_priceFor_1 : decode cX8_priceFor 1 = .ok (.iload_n 2, 1) := by decide +kernel
theorem dX8_priceFor_2 : decode cX8_priceFor 2 = .ok (.invokestatic 71, 3) := by decide +kernel
theorem dX8_priceFor_5 : decode cX8_priceFor 5 = .ok (.istore_n 3, 1) := by decide +kernel
theorem dX8_priceFor_6 : decode cX8_priceFor 6 = .ok (.iload_n 3, 1) := by decide +kernel
theorem dX8_priceFor_7 : decode cX8_priceFor 7 = .ok (.iconst (-1), 1) := by decide +kernel
theorem dX8_priceFor_8 : decode cX8_priceFor 8 = .ok (.if_icmp .ne 12, 3) := by decide +kernel
theorem dX8_priceFor_11 : decode cX8_priceFor 11 = .ok (.aload_n 0, 1) := by decide +kernel
theorem dX8_priceFor_12 : decode cX8_priceFor 12 = .ok (.getfield 22, 3) := by decide +kernel
theorem dX8_priceFor_15 : decode cX8_priceFor 15 = .ok (.iload_n 1, 1) := by decide +kernel
theorem dX8_priceFor_16 : decode cX8_priceFor 16 = .ok (.iaload, 1) := by decide +kernel
theorem dX8_priceFor_17 : decode cX8_priceFor 17 = .ok (.goto 18, 3) := by decide +kernel
theorem dX8_priceFor_20 : decode cX8_priceFor 20 = .ok (.aload_n 0, 1) := by decide +kernel
theorem dX8_priceFor_21 : decode cX8_priceFor 21 = .ok (.getfield 22, 3) := by decide +kernel
theorem dX8_priceFor_24 : decode cX8_priceFor 24 = .ok (.iload_n 1, 1) := by decide +kernel
theorem dX8_priceFor_25 : decode cX8_priceFor 25 = .ok (.iaload, 1) := by decide +kernel
theorem dX8_priceFor_26 : decode cX8_priceFor 26 = .ok (.aload_n 0, 1) := by decide +kernel
theorem dX8_priceFor_27 : decode cX8_priceFor 27 = .ok (.getfield 22, 3) := by decide +kernel
theorem dX8_priceFor_30 : decode cX8_priceFor 30 = .ok (.iload_n 3, 1) := by decide +kernel
theorem dX8_priceFor_31 : decode cX8_priceFor 31 = .ok (.iaload, 1) := by decide +kernel
theorem dX8_priceFor_32 : decode cX8_priceFor 32 = .ok (.invokestatic 65, 3) := by decide +kernel
theorem dX8_priceFor_35 : decode cX8_priceFor 35 = .ok (.ireturn, 1) := by decide +kernel
noncomputable def fX8_priceFor (μ : zM) (x0 : Nat) (x1 : Int32) (x2 : Int32) : Option (Int32) :=
  zb1 (fX8_greatestBuyer μ x0 x2) fun v2 =>
  zb1 (if v2 = (-1) then (
  zb1 (zm_gR μ 9 x0 7) fun v13 =>
  zb1 (zm_aI μ 0 v13 x1) fun v15 =>
  some v15)
  else (
  zb1 (zm_gR μ 9 x0 7) fun v5 =>
  zb1 (zm_aI μ 0 v5 x1) fun v7 =>
  zb1 (zm_gR μ 9 x0 7) fun v9 =>
  zb1 (zm_aI μ 0 v9 v2) fun v11 =>
  some (if v7 < v11 then v11 else v7 : Int32)) : Option (Int32)) fun (s3 : Int32) =>
  some s3
set_option maxHeartbeats 4000000 in
set_option maxRecDepth 100000 in
theorem cX8_priceFor_ok {μ : zM} {x0 : Nat} {x1 : Int32} {x2 : Int32} {r : Int32} (hf : fX8_priceFor μ x0 x1 x2 = some r) : zC yX8_priceFor cX8_priceFor 4 (some .int) 4 0 0 [.ref x0, .int x1, .int x2] μ (some (.int r)) μ := by
  unfold fX8_priceFor at hf
  refine zC.of (by decide) (Nat.le_of_ble_eq_true rfl) (fun K hin => ?_)
  clear hin
  show zz K cX8_priceFor (4, RX8, some .int, 4, 0, 0, some (.int r), μ) 0 0 0 [(0, .ref x0), (1, .int x1), (2, .int x2)] [] μ
  refine zr_aload_n 0 dX8_priceFor_0 rfl ?_
  refine zr_iload_n 2 dX8_priceFor_1 rfl ?_
  replace hf := zb1_s hf
  obtain ⟨v2, h1, hf⟩ := hf
  refine zr_callS [.ref x0, .int x2] (cX8_greatestBuyer_ok h1) zvs_X8_greatestBuyer zl_579 zl_578 rfl (Nat.le_of_ble_eq_true rfl) (Nat.le_of_ble_eq_true rfl) (Nat.le_of_ble_eq_true rfl) (Nat.le_of_ble_eq_true rfl) dX8_priceFor_2 rfl ?_
  refine zr_istore_n [(3, .int v2), (0, .ref x0), (1, .int x1), (2, .int x2)] dX8_priceFor_5 (Nat.le_of_ble_eq_true rfl) rfl ?_
  refine zr_iload_n 0 dX8_priceFor_6 rfl ?_
  refine zr_iconst (-1) dX8_priceFor_7 (by decide) ?_
  replace hf := zb1_s hf
  obtain ⟨s3, hg, hf⟩ := hf
  have hj4 : zz K cX8_priceFor (4, RX8, some .int, 4, 0, 0, some (.int r), μ) 0 0 35 [] [.int s3] μ := by
    cases hf
    exact zr_iret dX8_priceFor_35
  clear hf
  have hf := hg
  clear hg
  refine zr_icmp_ne 20 dX8_priceFor_8 (by decide) (fun hc => ?_) (fun hc => ?_)
  · rw [if_neg hc] at hf
    refine zr_aload_n 1 dX8_priceFor_20 rfl ?_
    replace hf := zb1_s hf
    obtain ⟨v5, h6, hf⟩ := hf
    refine zr_get (zm_gR_g h6) zk9 (by decide) zl_548 dX8_priceFor_21 ?_
    refine zr_iload_n 2 dX8_priceFor_24 rfl ?_
    replace hf := zb1_s hf
    obtain ⟨v7, h8, hf⟩ := hf
    refine zr_iald h8 dX8_priceFor_25 ?_
    refine zr_aload_n 1 dX8_priceFor_26 rfl ?_
    replace hf := zb1_s hf
    obtain ⟨v9, h10, hf⟩ := hf
    refine zr_get (zm_gR_g h10) zk9 (by decide) zl_548 dX8_priceFor_27 ?_
    refine zr_iload_n 0 dX8_priceFor_30 rfl ?_
    replace hf := zb1_s hf
    obtain ⟨v11, h12, hf⟩ := hf
    refine zr_iald h12 dX8_priceFor_31 ?_
    refine zr_mmax zl_572 zl_55 zl_11 zl_56 (Nat.le_of_ble_eq_true rfl) (Nat.le_of_ble_eq_true rfl) (Nat.le_of_ble_eq_true rfl) (Nat.le_of_ble_eq_true rfl) dX8_priceFor_32 ?_
    cases hf
    exact zr_lv [] rfl hj4
  · rw [if_pos hc] at hf
    refine zr_aload_n 1 dX8_priceFor_11 rfl ?_
    replace hf := zb1_s hf
    obtain ⟨v13, h14, hf⟩ := hf
    refine zr_get (zm_gR_g h14) zk9 (by decide) zl_548 dX8_priceFor_12 ?_
    refine zr_iload_n 2 dX8_priceFor_15 rfl ?_
    replace hf := zb1_s hf
    obtain ⟨v15, h16, hf⟩ := hf
    refine zr_iald h16 dX8_priceFor_16 ?_
    refine zr_goto 35 dX8_priceFor_17 (by decide) ?_
    cases hf
    exact zr_lv [] rfl hj4
theorem dX9_tellWord_0 : decode cX9_tellWord 0 = .ok (.iload_n 1, 1) := by decide +kernel
theorem dX9_tellWord_1 : decode cX9_tellWord 1 = .ok (.iconst 1, 1) := by decide +kernel
theorem dX9_tellWord_2 : decode cX9_tellWord 2 = .ok (.if_icmp .ne 12, 3) := by decide +kernel
theorem dX9_tellWord_5 : decode cX9_tellWord 5 = .ok (.aload_n 0, 1) := by decide +kernel
theorem dX9_tellWord_6 : decode cX9_tellWord 6 = .ok (.getfield 9, 3) := by decide +kernel
theorem dX9_tellWord_9 : decode cX9_tellWord 9 = .ok (.iload_n 2, 1) := by decide +kernel
theorem dX9_tellWord_10 : decode cX9_tellWord 10 = .ok (.iaload, 1) := by decide +kernel
theorem dX9_tellWord_11 : decode cX9_tellWord 11 = .ok (.goto 23, 3) := by decide +kernel
theorem dX9_tellWord_14 : decode cX9_tellWord 14 = .ok (.iload_n 1, 1) := by decide +kernel
theorem dX9_tellWord_15 : decode cX9_tellWord 15 = .ok (.iconst 2, 1) := by decide +kernel
theorem dX9_tellWord_16 : decode cX9_tellWord 16 = .ok (.if_icmp .ne 12, 3) := by decide +kernel
theorem dX9_tellWord_19 : decode cX9_tellWord 19 = .ok (.aload_n 0, 1) := by decide +kernel
theorem dX9_tellWord_20 : decode cX9_tellWord 20 = .ok (.getfield 15, 3) := by decide +kernel
theorem dX9_tellWord_23 : decode cX9_tellWord 23 = .ok (.iload_n 2, 1) := by decide +kernel
theorem dX9_tellWord_24 : decode cX9_tellWord 24 = .ok (.iaload, 1) := by decide +kernel
theorem dX9_tellWord_25 : decode cX9_tellWord 25 = .ok (.goto 9, 3) := by decide +kernel
theorem dX9_tellWord_28 : decode cX9_tellWord 28 = .ok (.aload_n 0, 1) := by decide +kernel
theorem dX9_tellWord_29 : decode cX9_tellWord 29 = .ok (.getfield 18, 3) := by decide +kernel
theorem dX9_tellWord_32 : decode cX9_tellWord 32 = .ok (.iload_n 2, 1) := by decide +kernel
theorem dX9_tellWord_33 : decode cX9_tellWord 33 = .ok (.iaload, 1) := by decide +kernel
theorem dX9_tellWord_34 : decode cX9_tellWord 34 = .ok (.ireturn, 1) := by decide +kernel
noncomputable def fX9_tellWord (μ : zM) (x0 : Nat) (x1 : Int32) (x2 : Int32) : Option (Int32) := zgd (zm_ck μ 9 x0) <|
  zb1 (if x1 = 1 then (
  zb1 (zm_gR μ 9 x0 1) fun v11 =>
  zb1 (zm_aI μ 0 v11 x2) fun v13 =>
  some v13)
  else (
  if x1 = 2 then (
  zb1 (zm_gR μ 9 x0 2) fun v7 =>
  zb1 (zm_aI μ 0 v7 x2) fun v9 =>
  some v9)
  else (
  zb1 (zm_gR μ 9 x0 3) fun v3 =>
  zb1 (zm_aI μ 0 v3 x2) fun v5 =>
  some v5)) : Option (Int32)) fun (s1 : Int32) =>
  some s1
theorem fX9_tellWord_ck {μ : zM} {x0 : Nat} {x1 : Int32} {x2 : Int32} {z : Int32} (h : fX9_tellWord μ x0 x1 x2 = some z) : zm_ck μ 9 x0 = true := (zgd_s h).1
set_option maxHeartbeats 4000000 in
set_option maxRecDepth 100000 in
theorem cX9_tellWord_ok {μ : zM} {x0 : Nat} {x1 : Int32} {x2 : Int32} {r : Int32} (hf : fX9_tellWord μ x0 x1 x2 = some r) : zC yX9_tellWord cX9_tellWord 3 (some .int) 0 0 0 [.ref x0, .int x1, .int x2] μ (some (.int r)) μ := by
  replace hf := (zgd_s hf).2
  refine zC.of (by decide) (Nat.le_of_ble_eq_true rfl) (fun K hin => ?_)
  clear hin
  show zz K cX9_tellWord (3, RX9, some .int, 0, 0, 0, some (.int r), μ) 0 0 0 [(0, .ref x0), (1, .int x1), (2, .int x2)] [] μ
  refine zr_iload_n 1 dX9_tellWord_0 rfl ?_
  refine zr_iconst 1 dX9_tellWord_1 (by decide) ?_
  replace hf := zb1_s hf
  obtain ⟨s1, hg, hf⟩ := hf
  have hj2 : zz K cX9_tellWord (3, RX9, some .int, 0, 0, 0, some (.int r), μ) 0 0 34 [] [.int s1] μ := by
    cases hf
    exact zr_iret dX9_tellWord_34
  clear hf
  have hf := hg
  clear hg
  refine zr_icmp_ne 14 dX9_tellWord_2 (by decide) (fun hc => ?_) (fun hc => ?_)
  · rw [if_neg hc] at hf
    refine zr_iload_n 1 dX9_tellWord_14 rfl ?_
    refine zr_iconst 2 dX9_tellWord_15 (by decide) ?_
    refine zr_icmp_ne 28 dX9_tellWord_16 (by decide) (fun hc => ?_) (fun hc => ?_)
    · rw [if_neg hc] at hf
      refine zr_aload_n 0 dX9_tellWord_28 rfl ?_
      replace hf := zb1_s hf
      obtain ⟨v3, h4, hf⟩ := hf
      refine zr_get (zm_gR_g h4) zk9 (by decide) zl_228 dX9_tellWord_29 ?_
      refine zr_iload_n 2 dX9_tellWord_32 rfl ?_
      replace hf := zb1_s hf
      obtain ⟨v5, h6, hf⟩ := hf
      refine zr_iald h6 dX9_tellWord_33 ?_
      cases hf
      exact zr_lv [] rfl hj2
    · rw [if_pos hc] at hf
      refine zr_aload_n 0 dX9_tellWord_19 rfl ?_
      replace hf := zb1_s hf
      obtain ⟨v7, h8, hf⟩ := hf
      refine zr_get (zm_gR_g h8) zk9 (by decide) zl_115 dX9_tellWord_20 ?_
      refine zr_iload_n 2 dX9_tellWord_23 rfl ?_
      replace hf := zb1_s hf
      obtain ⟨v9, h10, hf⟩ := hf
      refine zr_iald h10 dX9_tellWord_24 ?_
      refine zr_goto 34 dX9_tellWord_25 (by decide) ?_
      cases hf
      exact zr_lv [] rfl hj2
  · rw [if_pos hc] at hf
    refine zr_aload_n 0 dX9_tellWord_5 rfl ?_
    replace hf := zb1_s hf
    obtain ⟨v11, h12, hf⟩ := hf
    refine zr_get (zm_gR_g h12) zk9 (by decide) zl_116 dX9_tellWord_6 ?_
    refine zr_iload_n 2 dX9_tellWord_9 rfl ?_
    replace hf := zb1_s hf
    obtain ⟨v13, h14, hf⟩ := hf
    refine zr_iald h14 dX9_tellWord_10 ?_
    refine zr_goto 34 dX9_tellWord_11 (by decide) ?_
    cases hf
    exact zr_lv [] rfl hj2
theorem dX9_tellPerson_0 : decode cX9_tellPerson 0 = .ok (.iload_n 1, 1) := by decide +kernel
theorem dX9_tellPerson_1 : decode cX9_tellPerson 1 = .ok (.iconst 4, 1) := by decide +kernel
theorem dX9_tellPerson_2 : decode cX9_tellPerson 2 = .ok (.if_icmp .ne 12, 3) := by decide +kernel
theorem dX9_tellPerson_5 : decode cX9_tellPerson 5 = .ok (.aload_n 0, 1) := by decide +kernel
theorem dX9_tellPerson_6 : decode cX9_tellPerson 6 = .ok (.getfield 21, 3) := by decide +kernel
theorem dX9_tellPerson_9 : decode cX9_tellPerson 9 = .ok (.iload_n 2, 1) := by decide +kernel
theorem dX9_tellPerson_10 : decode cX9_tellPerson 10 = .ok (.iaload, 1) := by decide +kernel
theorem dX9_tellPerson_11 : decode cX9_tellPerson 11 = .ok (.goto 23, 3) := by decide +kernel
theorem dX9_tellPerson_14 : decode cX9_tellPerson 14 = .ok (.iload_n 1, 1) := by decide +kernel
theorem dX9_tellPerson_15 : decode cX9_tellPerson 15 = .ok (.iconst 5, 1) := by decide +kernel
theorem dX9_tellPerson_16 : decode cX9_tellPerson 16 = .ok (.if_icmp .ne 12, 3) := by decide +kernel
theorem dX9_tellPerson_19 : decode cX9_tellPerson 19 = .ok (.aload_n 0, 1) := by decide +kernel
theorem dX9_tellPerson_20 : decode cX9_tellPerson 20 = .ok (.getfield 24, 3) := by decide +kernel
theorem dX9_tellPerson_23 : decode cX9_tellPerson 23 = .ok (.iload_n 2, 1) := by decide +kernel
theorem dX9_tellPerson_24 : decode cX9_tellPerson 24 = .ok (.iaload, 1) := by decide +kernel
theorem dX9_tellPerson_25 : decode cX9_tellPerson 25 = .ok (.goto 9, 3) := by decide +kernel
theorem dX9_tellPerson_28 : decode cX9_tellPerson 28 = .ok (.aload_n 0, 1) := by decide +kernel
theorem dX9_tellPerson_29 : decode cX9_tellPerson 29 = .ok (.getfield 27, 3) := by decide +kernel
theorem dX9_tellPerson_32 : decode cX9_tellPerson 32 = .ok (.iload_n 2, 1) := by decide +kernel
theorem dX9_tellPerson_33 : decode cX9_tellPerson 33 = .ok (.iaload, 1) := by decide +kernel
theorem dX9_tellPerson_34 : decode cX9_tellPerson 34 = .ok (.ireturn, 1) := by decide +kernel
noncomputable def fX9_tellPerson (μ : zM) (x0 : Nat) (x1 : Int32) (x2 : Int32) : Option (Int32) := zgd (zm_ck μ 9 x0) <|
  zb1 (if x1 = 4 then (
  zb1 (zm_gR μ 9 x0 5) fun v11 =>
  zb1 (zm_aI μ 0 v11 x2) fun v13 =>
  some v13)
  else (
  if x1 = 5 then (
  zb1 (zm_gR μ 9 x0 6) fun v7 =>
  zb1 (zm_aI μ 0 v7 x2) fun v9 =>
  some v9)
  else (
  zb1 (zm_gR μ 9 x0 7) fun v3 =>
  zb1 (zm_aI μ 0 v3 x2) fun v5 =>
  some v5)) : Option (Int32)) fun (s1 : Int32) =>
  some s1
theorem fX9_tellPerson_ck {μ : zM} {x0 : Nat} {x1 : Int32} {x2 : Int32} {z : Int32} (h : fX9_tellPerson μ x0 x1 x2 = some z) : zm_ck μ 9 x0 = true := (zgd_s h).1
set_option maxHeartbeats 4000000 in
set_option maxRecDepth 100000 in
theorem cX9_tellPerson_ok {μ : zM} {x0 : Nat} {x1 : Int32} {x2 : Int32} {r : Int32} (hf : fX9_tellPerson μ x0 x1 x2 = some r) : zC yX9_tellPerson cX9_tellPerson 3 (some .int) 0 0 0 [.ref x0, .int x1, .int x2] μ (some (.int r)) μ := by
  replace hf := (zgd_s hf).2
  refine zC.of (by decide) (Nat.le_of_ble_eq_true rfl) (fun K hin => ?_)
  clear hin
  show zz K cX9_tellPerson (3, RX9, some .int, 0, 0, 0, some (.int r), μ) 0 0 0 [(0, .ref x0), (1, .int x1), (2, .int x2)] [] μ
  refine zr_iload_n 1 dX9_tellPerson_0 rfl ?_
  refine zr_iconst 4 dX9_tellPerson_1 (by decide) ?_
  replace hf := zb1_s hf
  obtain ⟨s1, hg, hf⟩ := hf
  have hj2 : zz K cX9_tellPerson (3, RX9, some .int, 0, 0, 0, some (.int r), μ) 0 0 34 [] [.int s1] μ := by
    cases hf
    exact zr_iret dX9_tellPerson_34
  clear hf
  have hf := hg
  clear hg
  refine zr_icmp_ne 14 dX9_tellPerson_2 (by decide) (fun hc => ?_) (fun hc => ?_)
  · rw [if_neg hc] at hf
    refine zr_iload_n 1 dX9_tellPerson_14 rfl ?_
    refine zr_iconst 5 dX9_tellPerson_15 (by decide) ?_
    refine zr_icmp_ne 28 dX9_tellPerson_16 (by decide) (fun hc => ?_) (fun hc => ?_)
    · rw [if_neg hc] at hf
      refine zr_aload_n 0 dX9_tellPerson_28 rfl ?_
      replace hf := zb1_s hf
      obtain ⟨v3, h4, hf⟩ := hf
      refine zr_get (zm_gR_g h4) zk9 (by decide) zl_231 dX9_tellPerson_29 ?_
      refine zr_iload_n 2 dX9_tellPerson_32 rfl ?_
      replace hf := zb1_s hf
      obtain ⟨v5, h6, hf⟩ := hf
      refine zr_iald h6 dX9_tellPerson_33 ?_
      cases hf
      exact zr_lv [] rfl hj2
    · rw [if_pos hc] at hf
      refine zr_aload_n 0 dX9_tellPerson_19 rfl ?_
      replace hf := zb1_s hf
      obtain ⟨v7, h8, hf⟩ := hf
      refine zr_get (zm_gR_g h8) zk9 (by decide) zl_230 dX9_tellPerson_20 ?_
      refine zr_iload_n 2 dX9_tellPerson_23 rfl ?_
      replace hf := zb1_s hf
      obtain ⟨v9, h10, hf⟩ := hf
      refine zr_iald h10 dX9_tellPerson_24 ?_
      refine zr_goto 34 dX9_tellPerson_25 (by decide) ?_
      cases hf
      exact zr_lv [] rfl hj2
  · rw [if_pos hc] at hf
    refine zr_aload_n 0 dX9_tellPerson_5 rfl ?_
    replace hf := zb1_s hf
    obtain ⟨v11, h12, hf⟩ := hf
    refine zr_get (zm_gR_g h12) zk9 (by decide) zl_229 dX9_tellPerson_6 ?_
    refine zr_iload_n 2 dX9_tellPerson_9 rfl ?_
    replace hf := zb1_s hf
    obtain ⟨v13, h14, hf⟩ := hf
    refine zr_iald h14 dX9_tellPerson_10 ?_
    refine zr_goto 34 dX9_tellPerson_11 (by decide) ?_
    cases hf
    exact zr_lv [] rfl hj2
theorem dX9_tellSky_0 : decode cX9_tellSky 0 = .ok (.iload_n 1, 1) := by decide +kernel
theorem dX9_tellSky_1 : decode cX9_tellSky 1 = .ok (.tableswitch 48 7 9 #[27, 34, 41], 27) := by decide +kernel
theorem dX9_tellSky_28 : decode cX9_tellSky 28 = .ok (.aload_n 0, 1) := by decide +kernel
theorem dX9_tellSky_29 : decode cX9_tellSky 29 = .ok (.getfield 30, 3) := by decide +kernel
theorem dX9_tellSky_32 : decode cX9_tellSky 32 = .ok (.iload_n 2, 1) := by decide +kernel
theorem dX9_tellSky_33 : decode cX9_tellSky 33 = .ok (.iaload, 1) := by decide +kernel
theorem dX9_tellSky_34 : decode cX9_tellSky 34 = .ok (.ireturn, 1) := by decide +kernel
theorem dX9_tellSky_35 : decode cX9_tellSky 35 = .ok (.aload_n 0, 1) := by decide +kernel
theorem dX9_tellSky_36 : decode cX9_tellSky 36 = .ok (.getfield 33, 3) := by decide +kernel
theorem dX9_tellSky_39 : decode cX9_tellSky 39 = .ok (.iload_n 2, 1) := by decide +kernel
theorem dX9_tellSky_40 : decode cX9_tellSky 40 = .ok (.iaload, 1) := by decide +kernel
theorem dX9_tellSky_41 : decode cX9_tellSky 41 = .ok (.ireturn, 1) := by decide +kernel
theorem dX9_tellSky_42 : decode cX9_tellSky 42 = .ok (.aload_n 0, 1) := by decide +kernel
theorem dX9_tellSky_43 : decode cX9_tellSky 43 = .ok (.getfield 36, 3) := by decide +kernel
theorem dX9_tellSky_46 : decode cX9_tellSky 46 = .ok (.iload_n 2, 1) := by decide +kernel
theorem dX9_tellSky_47 : decode cX9_tellSky 47 = .ok (.iaload, 1) := by decide +kernel
theorem dX9_tellSky_48 : decode cX9_tellSky 48 = .ok (.ireturn, 1) := by decide +kernel
theorem dX9_tellSky_49 : decode cX9_tellSky 49 = .ok (.iconst (-1), 1) := by decide +kernel
theorem dX9_tellSky_50 : decode cX9_tellSky 50 = .ok (.ireturn, 1) := by decide +kernel
noncomputable def fX9_tellSky (μ : zM) (x0 : Nat) (x1 : Int32) (x2 : Int32) : Option (Int32) := zgd (zm_ck μ 9 x0) <|
  if x1 = 7 then (
  zb1 (zm_gR μ 9 x0 9) fun v1 =>
  zb1 (zm_aI μ 0 v1 x2) fun v3 =>
  some v3)
  else (
  if x1 = 8 then (
  zb1 (zm_gR μ 9 x0 10) fun v6 =>
  zb1 (zm_aI μ 0 v6 x2) fun v8 =>
  some v8)
  else (
  if x1 = 9 then (
  zb1 (zm_gR μ 9 x0 11) fun v11 =>
  zb1 (zm_aI μ 0 v11 x2) fun v13 =>
  some v13)
  else (
  some (-1))))
theorem fX9_tellSky_ck {μ : zM} {x0 : Nat} {x1 : Int32} {x2 : Int32} {z : Int32} (h : fX9_tellSky μ x0 x1 x2 = some z) : zm_ck μ 9 x0 = true := (zgd_s h).1
set_option maxHeartbeats 4000000 in
set_option maxRecDepth 100000 in
theorem cX9_tellSky_ok {μ : zM} {x0 : Nat} {x1 : Int32} {x2 : Int32} {r : Int32} (hf : fX9_tellSky μ x0 x1 x2 = some r) : zC yX9_tellSky cX9_tellSky 3 (some .int) 0 0 0 [.ref x0, .int x1, .int x2] μ (some (.int r)) μ := by
  replace hf := (zgd_s hf).2
  refine zC.of (by decide) (Nat.le_of_ble_eq_true rfl) (fun K hin => ?_)
  clear hin
  show zz K cX9_tellSky (3, RX9, some .int, 0, 0, 0, some (.int r), μ) 0 0 0 [(0, .ref x0), (1, .int x1), (2, .int x2)] [] μ
  refine zr_iload_n 1 dX9_tellSky_0 rfl ?_
  rcases zdec (x1 = 7) with hs5 | hs5
  · rw [if_pos hs5] at hf
    refine zr_tableIn (off := 27) 28 dX9_tellSky_1 (by rw [hs5]; decide) (by rw [hs5]; decide) (by rw [hs5]; rfl) (by decide) ?_
    refine zr_aload_n 0 dX9_tellSky_28 rfl ?_
    replace hf := zb1_s hf
    obtain ⟨v1, h2, hf⟩ := hf
    refine zr_get (zm_gR_g h2) zk9 (by decide) zl_232 dX9_tellSky_29 ?_
    refine zr_iload_n 2 dX9_tellSky_32 rfl ?_
    replace hf := zb1_s hf
    obtain ⟨v3, h4, hf⟩ := hf
    refine zr_iald h4 dX9_tellSky_33 ?_
    cases hf
    exact zr_iret dX9_tellSky_34
  rw [if_neg hs5] at hf
  rcases zdec (x1 = 8) with hs10 | hs10
  · rw [if_pos hs10] at hf
    refine zr_tableIn (off := 34) 35 dX9_tellSky_1 (by rw [hs10]; decide) (by rw [hs10]; decide) (by rw [hs10]; rfl) (by decide) ?_
    refine zr_aload_n 0 dX9_tellSky_35 rfl ?_
    replace hf := zb1_s hf
    obtain ⟨v6, h7, hf⟩ := hf
    refine zr_get (zm_gR_g h7) zk9 (by decide) zl_233 dX9_tellSky_36 ?_
    refine zr_iload_n 2 dX9_tellSky_39 rfl ?_
    replace hf := zb1_s hf
    obtain ⟨v8, h9, hf⟩ := hf
    refine zr_iald h9 dX9_tellSky_40 ?_
    cases hf
    exact zr_iret dX9_tellSky_41
  rw [if_neg hs10] at hf
  rcases zdec (x1 = 9) with hs15 | hs15
  · rw [if_pos hs15] at hf
    refine zr_tableIn (off := 41) 42 dX9_tellSky_1 (by rw [hs15]; decide) (by rw [hs15]; decide) (by rw [hs15]; rfl) (by decide) ?_
    refine zr_aload_n 0 dX9_tellSky_42 rfl ?_
    replace hf := zb1_s hf
    obtain ⟨v11, h12, hf⟩ := hf
    refine zr_get (zm_gR_g h12) zk9 (by decide) zl_234 dX9_tellSky_43 ?_
    refine zr_iload_n 2 dX9_tellSky_46 rfl ?_
    replace hf := zb1_s hf
    obtain ⟨v13, h14, hf⟩ := hf
    refine zr_iald h14 dX9_tellSky_47 ?_
    cases hf
    exact zr_iret dX9_tellSky_48
  rw [if_neg hs15] at hf
  refine zr_tableOut 49 dX9_tellSky_1 (by simp only [← Int32.toInt_inj] at hs5 hs10 hs15; simp at hs5 hs10 hs15; omega) (by decide) ?_
  refine zr_iconst (-1) dX9_tellSky_49 (by decide) ?_
  cases hf
  exact zr_iret dX9_tellSky_50
theorem zl_580 : Cond.code yX9_tellSky cX9_tellSky 3 (some .int) ∈ zt := zt_at 789 (by decide +kernel)
theorem zvs_X9_tellSky : zvS yX9_tellSky cX9_tellSky 3 (some .int) 2 := ⟨zl_580, zl_14, ⟨by decide +kernel, by decide +kernel, by decide +kernel⟩, by decide⟩
theorem zl_581 : Cond.methodLink RX9 81 yX9_tellSky ∈ zt := zt_at 786 (by decide +kernel)
theorem zl_582 : Cond.instanceMethod yX9_tellSky ∈ zt := zt_at 788 (by decide +kernel)
theorem zl_583 : Cond.selects RX9 yX9_tellSky yX9_tellSky ∈ zt := zt_at 18 (by decide +kernel)
theorem zl_584 : Cond.code yX9_tellPerson cX9_tellPerson 3 (some .int) ∈ zt := zt_at 785 (by decide +kernel)
theorem zvs_X9_tellPerson : zvS yX9_tellPerson cX9_tellPerson 3 (some .int) 2 := ⟨zl_584, zl_14, ⟨by decide +kernel, by decide +kernel, by decide +kernel⟩, by decide⟩
theorem zl_585 : Cond.methodLink RX9 78 yX9_tellPerson ∈ zt := zt_at 782 (by decide +kernel)
theorem zl_586 : Cond.instanceMethod yX9_tellPerson ∈ zt := zt_at 784 (by decide +kernel)
theorem zl_587 : Cond.selects RX9 yX9_tellPerson yX9_tellPerson ∈ zt := zt_at 17 (by decide +kernel)
theorem zl_588 : Cond.methodLinkNest RX9 71 yX11_isWord "TwoEchoes" ∈ zn := zn_at 773 (by decide +kernel)
theorem zl_589 : Cond.code yX9_tellWord cX9_tellWord 3 (some .int) ∈ zt := zt_at 777 (by decide +kernel)
theorem zvs_X9_tellWord : zvS yX9_tellWord cX9_tellWord 3 (some .int) 2 := ⟨zl_589, zl_14, ⟨by decide +kernel, by decide +kernel, by decide +kernel⟩, by decide⟩
theorem zl_590 : Cond.methodLink RX9 74 yX9_tellWord ∈ zt := zt_at 774 (by decide +kernel)
theorem zl_591 : Cond.instanceMethod yX9_tellWord ∈ zt := zt_at 776 (by decide +kernel)
theorem zl_592 : Cond.selects RX9 yX9_tellWord yX9_tellWord ∈ zt := zt_at 16 (by decide +kernel)
theorem dX9_tell_0 : decode cX9_tell 0 = .ok (.iload_n 1, 1) := by decide +kernel
theorem dX9_tell_1 : decode cX9_tell 1 = .ok (.ifCond .ge 5, 3) := by decide +kernel
theorem dX9_tell_4 : decode cX9_tell 4 = .ok (.iconst (-1), 1) := by decide +kernel
theorem dX9_tell_5 : decode cX9_tell 5 = .ok (.ireturn, 1) := by decide +kernel
theorem dX9_tell_6 : decode cX9_tell 6 = .ok (.iload_n 1, 1) := by decide +kernel
theorem dX9_tell_7 : decode cX9_tell 7 = .ok (.bipush 10, 2) := by decide +kernel
theorem dX9_tell_9 : decode cX9_tell 9 = .ok (.irem, 1) := by decide +kernel
theorem dX9_tell_10 : decode cX9_tell 10 = .ok (.istore_n 2, 1) := by decide +kernel
theorem dX9_tell_11 : decode cX9_tell 11 = .ok (.iload_n 1, 1) := by decide +kernel
theorem dX9_tell_12 : decode cX9_tell 12 = .ok (.bipush 10, 2) := by decide +kernel
theorem dX9_tell_14 : decode cX9_tell 14 = .ok (.if_icmp .ge 40, 3) := by decide +kernel
theorem dX9_tell_17 : decode cX9_tell 17 = .ok (.iload_n 2, 1) := by decide +kernel
theorem dX9_tell_18 : decode cX9_tell 18 = .ok (.ifCond .ne 10, 3) := by decide +kernel
theorem dX9_tell_21 : decode cX9_tell 21 = .ok (.aload_n 0, 1) := by decide +kernel
theorem dX9_tell_22 : decode cX9_tell 22 = .ok (.getfield 42, 3) := by decide +kernel
theorem dX9_tell_25 : decode cX9_tell 25 = .ok (.goto 28, 3) := by decide +kernel
theorem dX9_tell_28 : decode cX9_tell 28 = .ok (.iload_n 2, 1) := by decide +kernel
theorem dX9_tell_29 : decode cX9_tell 29 = .ok (.iconst 1, 1) := by decide +kernel
theorem dX9_tell_30 : decode cX9_tell 30 = .ok (.if_icmp .ne 10, 3) := by decide +kernel
theorem dX9_tell_33 : decode cX9_tell 33 = .ok (.aload_n 0, 1) := by decide +kernel
theorem dX9_tell_34 : decode cX9_tell 34 = .ok (.getfield 46, 3) := by decide +kernel
theorem dX9_tell_37 : decode cX9_tell 37 = .ok (.goto 16, 3) := by decide +kernel
theorem dX9_tell_40 : decode cX9_tell 40 = .ok (.iload_n 2, 1) := by decide +kernel
theorem dX9_tell_41 : decode cX9_tell 41 = .ok (.iconst 2, 1) := by decide +kernel
theorem dX9_tell_42 : decode cX9_tell 42 = .ok (.if_icmp .ne 10, 3) := by decide +kernel
theorem dX9_tell_45 : decode cX9_tell 45 = .ok (.aload_n 0, 1) := by decide +kernel
theorem dX9_tell_46 : decode cX9_tell 46 = .ok (.getfield 49, 3) := by decide +kernel
theorem dX9_tell_49 : decode cX9_tell 49 = .ok (.goto 4, 3) := by decide +kernel
theorem dX9_tell_52 : decode cX9_tell 52 = .ok (.iconst (-1), 1) := by decide +kernel
theorem dX9_tell_53 : decode cX9_tell 53 = .ok (.ireturn, 1) := by decide +kernel
theorem dX9_tell_54 : decode cX9_tell 54 = .ok (.iload_n 1, 1) := by decide +kernel
theorem dX9_tell_55 : decode cX9_tell 55 = .ok (.bipush 40, 2) := by decide +kernel
theorem dX9_tell_57 : decode cX9_tell 57 = .ok (.if_icmp .ge 24, 3) := by decide +kernel
theorem dX9_tell_60 : decode cX9_tell 60 = .ok (.iload_n 2, 1) := by decide +kernel
theorem dX9_tell_61 : decode cX9_tell 61 = .ok (.invokestatic 71, 3) := by decide +kernel
theorem dX9_tell_64 : decode cX9_tell 64 = .ok (.ifCond .eq 15, 3) := by decide +kernel
theorem dX9_tell_67 : decode cX9_tell 67 = .ok (.aload_n 0, 1) := by decide +kernel
theorem dX9_tell_68 : decode cX9_tell 68 = .ok (.iload_n 1, 1) := by decide +kernel
theorem dX9_tell_69 : decode cX9_tell 69 = .ok (.bipush 10, 2) := by decide +kernel
theorem dX9_tell_71 : decode cX9_tell 71 = .ok (.idiv, 1) := by decide +kernel
theorem dX9_tell_72 : decode cX9_tell 72 = .ok (.iload_n 2, 1) := by decide +kernel
theorem dX9_tell_73 : decode cX9_tell 73 = .ok (.invokevirtual 74, 3) := by decide +kernel
theorem dX9_tell_76 : decode cX9_tell 76 = .ok (.goto 4, 3) := by decide +kernel
theorem dX9_tell_79 : decode cX9_tell 79 = .ok (.iconst (-1), 1) := by decide +kernel
theorem dX9_tell_80 : decode cX9_tell 80 = .ok (.ireturn, 1) := by decide +kernel
theorem dX9_tell_81 : decode cX9_tell 81 = .ok (.iload_n 1, 1) := by decide +kernel
theorem dX9_tell_82 : decode cX9_tell 82 = .ok (.bipush 70, 2) := by decide +kernel
theorem dX9_tell_84 : decode cX9_tell 84 = .ok (.if_icmp .ge 25, 3) := by decide +kernel
theorem dX9_tell_87 : decode cX9_tell 87 = .ok (.aload_n 0, 1) := by decide +kernel
theorem dX9_tell_88 : decode cX9_tell 88 = .ok (.iload_n 2, 1) := by decide +kernel
theorem dX9_tell_89 : decode cX9_tell 89 = .ok (.invokevirtual 64, 3) := by decide +kernel
theorem dX9_tell_92 : decode cX9_tell 92 = .ok (.ifCond .eq 15, 3) := by decide +kernel
theorem dX9_tell_95 : decode cX9_tell 95 = .ok (.aload_n 0, 1) := by decide +kernel
theorem dX9_tell_96 : decode cX9_tell 96 = .ok (.iload_n 1, 1) := by decide +kernel
theorem dX9_tell_97 : decode cX9_tell 97 = .ok (.bipush 10, 2) := by decide +kernel
theorem dX9_tell_99 : decode cX9_tell 99 = .ok (.idiv, 1) := by decide +kernel
theorem dX9_tell_100 : decode cX9_tell 100 = .ok (.iload_n 2, 1) := by decide +kernel
theorem dX9_tell_101 : decode cX9_tell 101 = .ok (.invokevirtual 78, 3) := by decide +kernel
theorem dX9_tell_104 : decode cX9_tell 104 = .ok (.goto 4, 3) := by decide +kernel
theorem dX9_tell_107 : decode cX9_tell 107 = .ok (.iconst (-1), 1) := by decide +kernel
theorem dX9_tell_108 : decode cX9_tell 108 = .ok (.ireturn, 1) := by decide +kernel
theorem dX9_tell_109 : decode cX9_tell 109 = .ok (.iload_n 2, 1) := by decide +kernel
theorem dX9_tell_110 : decode cX9_tell 110 = .ok (.aload_n 0, 1) := by decide +kernel
theorem dX9_tell_111 : decode cX9_tell 111 = .ok (.getfield 49, 3) := by decide +kernel
theorem dX9_tell_114 : decode cX9_tell 114 = .ok (.if_icmp .ge 15, 3) := by decide +kernel
theorem dX9_tell_117 : decode cX9_tell 117 = .ok (.aload_n 0, 1) := by decide +kernel
theorem dX9_tell_118 : decode cX9_tell 118 = .ok (.iload_n 1, 1) := by decide +kernel
theorem dX9_tell_119 : decode cX9_tell 119 = .ok (.bipush 10, 2) := by decide +kernel
theorem dX9_tell_121 : decode cX9_tell 121 = .ok (.idiv, 1) := by decide +kernel
theorem dX9_tell_122 : decode cX9_tell 122 = .ok (.iload_n 2, 1) := by decide +kernel
theorem dX9_tell_123 : decode cX9_tell 123 = .ok (.invokevirtual 81, 3) := by decide +kernel
theorem dX9_tell_126 : decode cX9_tell 126 = .ok (.goto 4, 3) := by decide +kernel
theorem dX9_tell_129 : decode cX9_tell 129 = .ok (.iconst (-1), 1) := by decide +kernel
theorem dX9_tell_130 : decode cX9_tell 130 = .ok (.ireturn, 1) := by decide +kernel
noncomputable def fX9_tell (μ : zM) (x0 : Nat) (x1 : Int32) : Option (Int32) := zgd (zm_ck μ 9 x0) <|
  if 0 ≤ x1 then (
  if 10 ≤ x1 then (
  if 40 ≤ x1 then (
  if 70 ≤ x1 then (
  zb1 (zm_gI μ 9 x0 8) fun v1 =>
  zb1 (if v1 ≤ (x1 - x1 / 10 * 10) then (
  some (-1))
  else (
  zb1 (fX9_tellSky μ x0 (x1 / 10) (x1 - x1 / 10 * 10)) fun v6 =>
  some v6) : Option (Int32)) fun (s3 : Int32) =>
  some s3)
  else (
  zb1 (fX9_hasPerson μ x0 (x1 - x1 / 10 * 10)) fun v8 =>
  zb1 (if v8 = 0 then (
  some (-1))
  else (
  zb1 (fX9_tellPerson μ x0 (x1 / 10) (x1 - x1 / 10 * 10)) fun v12 =>
  some v12) : Option (Int32)) fun (s9 : Int32) =>
  some s9))
  else (
  zb1 (fX11_isWord μ (x1 - x1 / 10 * 10)) fun v14 =>
  zb1 (if v14 = 0 then (
  some (-1))
  else (
  zb1 (fX9_tellWord μ x0 (x1 / 10) (x1 - x1 / 10 * 10)) fun v18 =>
  some v18) : Option (Int32)) fun (s15 : Int32) =>
  some s15))
  else (
  zb1 (if (x1 - x1 / 10 * 10) = 0 then (
  zb1 (zm_gI μ 9 x0 0) fun v25 =>
  some v25)
  else (
  if (x1 - x1 / 10 * 10) = 1 then (
  zb1 (zm_gI μ 9 x0 4) fun v23 =>
  some v23)
  else (
  if (x1 - x1 / 10 * 10) = 2 then (
  zb1 (zm_gI μ 9 x0 8) fun v21 =>
  some v21)
  else (
  some (-1)))) : Option (Int32)) fun (s19 : Int32) =>
  some s19))
  else (
  some (-1))
theorem fX9_tell_ck {μ : zM} {x0 : Nat} {x1 : Int32} {z : Int32} (h : fX9_tell μ x0 x1 = some z) : zm_ck μ 9 x0 = true := (zgd_s h).1
set_option maxHeartbeats 4000000 in
set_option maxRecDepth 100000 in
theorem cX9_tell_ok {μ : zM} {x0 : Nat} {x1 : Int32} {r : Int32} (hf : fX9_tell μ x0 x1 = some r) : zC yX9_tell cX9_tell 3 (some .int) 1 0 0 [.ref x0, .int x1] μ (some (.int r)) μ := by
  replace hf := (zgd_s hf).2
  refine zC.of (by decide) (Nat.le_of_ble_eq_true rfl) (fun K hin => ?_)
  clear hin
  show zz K cX9_tell (3, RX9, some .int, 1, 0, 0, some (.int r), μ) 0 0 0 [(0, .ref x0), (1, .int x1)] [] μ
  refine zr_iload_n 1 dX9_tell_0 rfl ?_
  refine zr_if_ge 6 dX9_tell_1 (by decide) (fun hc => ?_) (fun hc => ?_)
  · rw [if_pos hc] at hf
    refine zr_iload_n 1 dX9_tell_6 rfl ?_
    refine zr_bipush 10 dX9_tell_7 (by decide) ?_
    refine zr_irem dX9_tell_9 (by decide) ?_
    refine zr_istore_n [(2, .int (x1 - x1 / 10 * 10)), (0, .ref x0), (1, .int x1)] dX9_tell_10 (Nat.le_of_ble_eq_true rfl) rfl ?_
    refine zr_iload_n 2 dX9_tell_11 rfl ?_
    refine zr_bipush 10 dX9_tell_12 (by decide) ?_
    refine zr_icmp_ge 54 dX9_tell_14 (by decide) (fun hc => ?_) (fun hc => ?_)
    · rw [if_pos hc] at hf
      refine zr_iload_n 2 dX9_tell_54 rfl ?_
      refine zr_bipush 40 dX9_tell_55 (by decide) ?_
      refine zr_icmp_ge 81 dX9_tell_57 (by decide) (fun hc => ?_) (fun hc => ?_)
      · rw [if_pos hc] at hf
        refine zr_iload_n 2 dX9_tell_81 rfl ?_
        refine zr_bipush 70 dX9_tell_82 (by decide) ?_
        refine zr_icmp_ge 109 dX9_tell_84 (by decide) (fun hc => ?_) (fun hc => ?_)
        · rw [if_pos hc] at hf
          refine zr_iload_n 0 dX9_tell_109 rfl ?_
          refine zr_aload_n 1 dX9_tell_110 rfl ?_
          replace hf := zb1_s hf
          obtain ⟨v1, h2, hf⟩ := hf
          refine zr_get (zm_gI_g h2) zk9 (by decide) zl_276 dX9_tell_111 ?_
          replace hf := zb1_s hf
          obtain ⟨s3, hg, hf⟩ := hf
          have hj4 : zz K cX9_tell (3, RX9, some .int, 1, 0, 0, some (.int r), μ) 0 0 130 [] [.int s3] μ := by
            cases hf
            exact zr_iret dX9_tell_130
          clear hf
          have hf := hg
          clear hg
          refine zr_icmp_ge 129 dX9_tell_114 (by decide) (fun hc => ?_) (fun hc => ?_)
          · rw [if_pos hc] at hf
            refine zr_iconst (-1) dX9_tell_129 (by decide) ?_
            cases hf
            exact zr_lv [] rfl hj4
          · rw [if_neg hc] at hf
            refine zr_aload_n 1 dX9_tell_117 rfl ?_
            refine zr_iload_n 2 dX9_tell_118 rfl ?_
            refine zr_bipush 10 dX9_tell_119 (by decide) ?_
            refine zr_idiv dX9_tell_121 (by decide) ?_
            refine zr_iload_n 0 dX9_tell_122 rfl ?_
            replace hf := zb1_s hf
            obtain ⟨v6, h5, hf⟩ := hf
            refine zr_callV (ci := 9) [.int (x1 / 10), .int (x1 - x1 / 10 * 10)] (cX9_tellSky_ok h5) zvs_X9_tellSky zl_582 zl_583 (fX9_tellSky_ck h5) rfl rfl zl_581 rfl (Nat.le_of_ble_eq_true rfl) (Nat.le_of_ble_eq_true rfl) (Nat.le_of_ble_eq_true rfl) (Nat.le_of_ble_eq_true rfl) dX9_tell_123 rfl ?_
            refine zr_goto 130 dX9_tell_126 (by decide) ?_
            cases hf
            exact zr_lv [] rfl hj4
        · rw [if_neg hc] at hf
          refine zr_aload_n 1 dX9_tell_87 rfl ?_
          refine zr_iload_n 0 dX9_tell_88 rfl ?_
          replace hf := zb1_s hf
          obtain ⟨v8, h7, hf⟩ := hf
          refine zr_callV (ci := 9) [.int (x1 - x1 / 10 * 10)] (cX9_hasPerson_ok h7) zvs_X9_hasPerson zl_136 zl_137 (fX9_hasPerson_ck h7) rfl rfl zl_542 rfl (Nat.le_of_ble_eq_true rfl) (Nat.le_of_ble_eq_true rfl) (Nat.le_of_ble_eq_true rfl) (Nat.le_of_ble_eq_true rfl) dX9_tell_89 rfl ?_
          replace hf := zb1_s hf
          obtain ⟨s9, hg, hf⟩ := hf
          have hj10 : zz K cX9_tell (3, RX9, some .int, 1, 0, 0, some (.int r), μ) 0 0 108 [] [.int s9] μ := by
            cases hf
            exact zr_iret dX9_tell_108
          clear hf
          have hf := hg
          clear hg
          refine zr_if_eq 107 dX9_tell_92 (by decide) (fun hc => ?_) (fun hc => ?_)
          · rw [if_pos hc] at hf
            refine zr_iconst (-1) dX9_tell_107 (by decide) ?_
            cases hf
            exact zr_lv [] rfl hj10
          · rw [if_neg hc] at hf
            refine zr_aload_n 1 dX9_tell_95 rfl ?_
            refine zr_iload_n 2 dX9_tell_96 rfl ?_
            refine zr_bipush 10 dX9_tell_97 (by decide) ?_
            refine zr_idiv dX9_tell_99 (by decide) ?_
            refine zr_iload_n 0 dX9_tell_100 rfl ?_
            replace hf := zb1_s hf
            obtain ⟨v12, h11, hf⟩ := hf
            refine zr_callV (ci := 9) [.int (x1 / 10), .int (x1 - x1 / 10 * 10)] (cX9_tellPerson_ok h11) zvs_X9_tellPerson zl_586 zl_587 (fX9_tellPerson_ck h11) rfl rfl zl_585 rfl (Nat.le_of_ble_eq_true rfl) (Nat.le_of_ble_eq_true rfl) (Nat.le_of_ble_eq_true rfl) (Nat.le_of_ble_eq_true rfl) dX9_tell_101 rfl ?_
            refine zr_goto 108 dX9_tell_104 (by decide) ?_
            cases hf
            exact zr_lv [] rfl hj10
      · rw [if_neg hc] at hf
        refine zr_iload_n 0 dX9_tell_60 rfl ?_
        replace hf := zb1_s hf
        obtain ⟨v14, h13, hf⟩ := hf
        refine zr_callSN [.int (x1 - x1 / 10 * 10)] (cX11_isWord_ok h13) zvs_X11_isWord zl_374 zl_588 rfl (Nat.le_of_ble_eq_true rfl) (Nat.le_of_ble_eq_true rfl) (Nat.le_of_ble_eq_true rfl) (Nat.le_of_ble_eq_true rfl) dX9_tell_61 rfl ?_
        replace hf := zb1_s hf
        obtain ⟨s15, hg, hf⟩ := hf
        have hj16 : zz K cX9_tell (3, RX9, some .int, 1, 0, 0, some (.int r), μ) 0 0 80 [] [.int s15] μ := by
          cases hf
          exact zr_iret dX9_tell_80
        clear hf
        have hf := hg
        clear hg
        refine zr_if_eq 79 dX9_tell_64 (by decide) (fun hc => ?_) (fun hc => ?_)
        · rw [if_pos hc] at hf
          refine zr_iconst (-1) dX9_tell_79 (by decide) ?_
          cases hf
          exact zr_lv [] rfl hj16
        · rw [if_neg hc] at hf
          refine zr_aload_n 1 dX9_tell_67 rfl ?_
          refine zr_iload_n 2 dX9_tell_68 rfl ?_
          refine zr_bipush 10 dX9_tell_69 (by decide) ?_
          refine zr_idiv dX9_tell_71 (by decide) ?_
          refine zr_iload_n 0 dX9_tell_72 rfl ?_
          replace hf := zb1_s hf
          obtain ⟨v18, h17, hf⟩ := hf
          refine zr_callV (ci := 9) [.int (x1 / 10), .int (x1 - x1 / 10 * 10)] (cX9_tellWord_ok h17) zvs_X9_tellWord zl_591 zl_592 (fX9_tellWord_ck h17) rfl rfl zl_590 rfl (Nat.le_of_ble_eq_true rfl) (Nat.le_of_ble_eq_true rfl) (Nat.le_of_ble_eq_true rfl) (Nat.le_of_ble_eq_true rfl) dX9_tell_73 rfl ?_
          refine zr_goto 80 dX9_tell_76 (by decide) ?_
          cases hf
          exact zr_lv [] rfl hj16
    · rw [if_neg hc] at hf
      refine zr_iload_n 0 dX9_tell_17 rfl ?_
      replace hf := zb1_s hf
      obtain ⟨s19, hg, hf⟩ := hf
      have hj20 : zz K cX9_tell (3, RX9, some .int, 1, 0, 0, some (.int r), μ) 0 0 53 [] [.int s19] μ := by
        cases hf
        exact zr_iret dX9_tell_53
      clear hf
      have hf := hg
      clear hg
      refine zr_if_ne 28 dX9_tell_18 (by decide) (fun hc => ?_) (fun hc => ?_)
      · rw [if_neg hc] at hf
        refine zr_iload_n 0 dX9_tell_28 rfl ?_
        refine zr_iconst 1 dX9_tell_29 (by decide) ?_
        refine zr_icmp_ne 40 dX9_tell_30 (by decide) (fun hc => ?_) (fun hc => ?_)
        · rw [if_neg hc] at hf
          refine zr_iload_n 0 dX9_tell_40 rfl ?_
          refine zr_iconst 2 dX9_tell_41 (by decide) ?_
          refine zr_icmp_ne 52 dX9_tell_42 (by decide) (fun hc => ?_) (fun hc => ?_)
          · rw [if_neg hc] at hf
            refine zr_iconst (-1) dX9_tell_52 (by decide) ?_
            cases hf
            exact zr_lv [] rfl hj20
          · rw [if_pos hc] at hf
            refine zr_aload_n 1 dX9_tell_45 rfl ?_
            replace hf := zb1_s hf
            obtain ⟨v21, h22, hf⟩ := hf
            refine zr_get (zm_gI_g h22) zk9 (by decide) zl_276 dX9_tell_46 ?_
            refine zr_goto 53 dX9_tell_49 (by decide) ?_
            cases hf
            exact zr_lv [] rfl hj20
        · rw [if_pos hc] at hf
          refine zr_aload_n 1 dX9_tell_33 rfl ?_
          replace hf := zb1_s hf
          obtain ⟨v23, h24, hf⟩ := hf
          refine zr_get (zm_gI_g h24) zk9 (by decide) zl_103 dX9_tell_34 ?_
          refine zr_goto 53 dX9_tell_37 (by decide) ?_
          cases hf
          exact zr_lv [] rfl hj20
      · rw [if_pos hc] at hf
        refine zr_aload_n 1 dX9_tell_21 rfl ?_
        replace hf := zb1_s hf
        obtain ⟨v25, h26, hf⟩ := hf
        refine zr_get (zm_gI_g h26) zk9 (by decide) zl_8 dX9_tell_22 ?_
        refine zr_goto 53 dX9_tell_25 (by decide) ?_
        cases hf
        exact zr_lv [] rfl hj20
  · rw [if_neg hc] at hf
    refine zr_iconst (-1) dX9_tell_4 (by decide) ?_
    cases hf
    exact zr_iret dX9_tell_5
theorem zl_593 : Cond.methodLink RX9 104 Lib.Math.max.name ∈ zt := zt_at 1294 (by decide +kernel)
theorem dX9_longestClear_0 : decode cX9_longestClear 0 = .ok (.iconst 0, 1) := by decide +kernel
theorem dX9_longestClear_1 : decode cX9_longestClear 1 = .ok (.istore_n 1, 1) := by decide +kernel
theorem dX9_longestClear_2 : decode cX9_longestClear 2 = .ok (.iconst 0, 1) := by decide +kernel
theorem dX9_longestClear_3 : decode cX9_longestClear 3 = .ok (.istore_n 2, 1) := by decide +kernel
theorem dX9_longestClear_4 : decode cX9_longestClear 4 = .ok (.iconst 0, 1) := by decide +kernel
theorem dX9_longestClear_5 : decode cX9_longestClear 5 = .ok (.istore_n 3, 1) := by decide +kernel
theorem dX9_longestClear_6 : decode cX9_longestClear 6 = .ok (.iload_n 3, 1) := by decide +kernel
theorem dX9_longestClear_7 : decode cX9_longestClear 7 = .ok (.bipush 100, 2) := by decide +kernel
theorem dX9_longestClear_9 : decode cX9_longestClear 9 = .ok (.if_icmp .ge 32, 3) := by decide +kernel
theorem dX9_longestClear_12 : decode cX9_longestClear 12 = .ok (.aload_n 0, 1) := by decide +kernel
theorem dX9_longestClear_13 : decode cX9_longestClear 13 = .ok (.getfield 39, 3) := by decide +kernel
theorem dX9_longestClear_16 : decode cX9_longestClear 16 = .ok (.iload_n 3, 1) := by decide +kernel
theorem dX9_longestClear_17 : decode cX9_longestClear 17 = .ok (.iaload, 1) := by decide +kernel
theorem dX9_longestClear_18 : decode cX9_longestClear 18 = .ok (.ifCond .ne 9, 3) := by decide +kernel
theorem dX9_longestClear_21 : decode cX9_longestClear 21 = .ok (.iload_n 2, 1) := by decide +kernel
theorem dX9_longestClear_22 : decode cX9_longestClear 22 = .ok (.iconst 1, 1) := by decide +kernel
theorem dX9_longestClear_23 : decode cX9_longestClear 23 = .ok (.iadd, 1) := by decide +kernel
theorem dX9_longestClear_24 : decode cX9_longestClear 24 = .ok (.goto 4, 3) := by decide +kernel
theorem dX9_longestClear_27 : decode cX9_longestClear 27 = .ok (.iconst 0, 1) := by decide +kernel
theorem dX9_longestClear_28 : decode cX9_longestClear 28 = .ok (.istore_n 2, 1) := by decide +kernel
theorem dX9_longestClear_29 : decode cX9_longestClear 29 = .ok (.iload_n 1, 1) := by decide +kernel
theorem dX9_longestClear_30 : decode cX9_longestClear 30 = .ok (.iload_n 2, 1) := by decide +kernel
theorem dX9_longestClear_31 : decode cX9_longestClear 31 = .ok (.invokestatic 104, 3) := by decide +kernel
theorem dX9_longestClear_34 : decode cX9_longestClear 34 = .ok (.istore_n 1, 1) := by decide +kernel
theorem dX9_longestClear_35 : decode cX9_longestClear 35 = .ok (.iinc 3 1, 3) := by decide +kernel
theorem dX9_longestClear_38 : decode cX9_longestClear 38 = .ok (.goto (-32), 3) := by decide +kernel
theorem dX9_longestClear_41 : decode cX9_longestClear 41 = .ok (.iload_n 1, 1) := by decide +kernel
theorem dX9_longestClear_42 : decode cX9_longestClear 42 = .ok (.ireturn, 1) := by decide +kernel
noncomputable def fX9_longestClear_l6 (μ : zM) (x0 : Nat) (F4 : Int32 → Int32 → Int32 → Option (Int32)) (x1_1 : Int32) (x2_2 : Int32) (x3_3 : Int32) : Option (Int32) :=
  if 100 ≤ x3_3 then (
  some x1_1)
  else (
  zb1 (zm_gR μ 9 x0 12) fun v8 =>
  zb1 (zm_aI μ 0 v8 x3_3) fun v10 =>
  zb1 (if v10 = 0 then (
  some (x2_2 + 1))
  else (
  some 0) : Option (Int32)) fun (s12 : Int32) =>
  F4 (if x1_1 < s12 then s12 else x1_1 : Int32) s12 (x3_3 + 1))
noncomputable def fX9_longestClear (μ : zM) (x0 : Nat) : Option (Int32) := zgd (zm_ck μ 9 x0) <|
  zb1 (zf3 (fX9_longestClear_l6 μ x0) zfu 0 0 0 : Option (Int32)) fun (x1_6 : Int32) =>
  some x1_6
theorem fX9_longestClear_ck {μ : zM} {x0 : Nat} {z : Int32} (h : fX9_longestClear μ x0 = some z) : zm_ck μ 9 x0 = true := (zgd_s h).1
set_option maxHeartbeats 4000000 in
set_option maxRecDepth 100000 in
theorem cX9_longestClear_ok {μ : zM} {x0 : Nat} {r : Int32} (hf : fX9_longestClear μ x0 = some r) : zC yX9_longestClear cX9_longestClear 4 (some .int) 1 0 0 [.ref x0] μ (some (.int r)) μ := by
  replace hf := (zgd_s hf).2
  refine zC.of (by decide) (Nat.le_of_ble_eq_true rfl) (fun K hin => ?_)
  clear hin
  show zz K cX9_longestClear (4, RX9, some .int, 1, 0, 0, some (.int r), μ) 0 0 0 [(0, .ref x0)] [] μ
  refine zr_iconst 0 dX9_longestClear_0 (by decide) ?_
  refine zr_istore_n [(1, .int 0), (0, .ref x0)] dX9_longestClear_1 (Nat.le_of_ble_eq_true rfl) rfl ?_
  refine zr_iconst 0 dX9_longestClear_2 (by decide) ?_
  refine zr_istore_n [(2, .int 0), (1, .int 0), (0, .ref x0)] dX9_longestClear_3 (Nat.le_of_ble_eq_true rfl) rfl ?_
  refine zr_iconst 0 dX9_longestClear_4 (by decide) ?_
  refine zr_istore_n [(3, .int 0), (2, .int 0), (1, .int 0), (0, .ref x0)] dX9_longestClear_5 (Nat.le_of_ble_eq_true rfl) rfl ?_
  replace hf := zb1_s hf
  obtain ⟨x1_6, hg, hf⟩ := hf
  have hj7 : zz K cX9_longestClear (4, RX9, some .int, 1, 0, 0, some (.int r), μ) 0 0 41 [(1, .int x1_6)] [] μ := by
    refine zr_iload_n 0 dX9_longestClear_41 rfl ?_
    cases hf
    exact zr_iret dX9_longestClear_42
  clear hf
  have hf := hg
  clear hg
  have hL14 : ∀ (n : Nat) (x1_1 : Int32) (x2_2 : Int32) (x3_3 : Int32), zf3 (fX9_longestClear_l6 μ x0) n x1_1 x2_2 x3_3 = some x1_6 → zz K cX9_longestClear (4, RX9, some .int, 1, 0, 0, some (.int r), μ) 0 0 6 [(0, .ref x0), (1, .int x1_1), (2, .int x2_2), (3, .int x3_3)] [] μ := by
    intro n
    induction n with
    | zero => intro x1_1 x2_2 x3_3 hf; cases hf
    | succ n ih5 =>
      intro x1_1 x2_2 x3_3 hf
      replace hf := zf3_s hf
      generalize zf3 (fX9_longestClear_l6 μ x0) n = F4 at hf ih5
      unfold fX9_longestClear_l6 at hf
      refine zr_iload_n 3 dX9_longestClear_6 rfl ?_
      refine zr_bipush 100 dX9_longestClear_7 (by decide) ?_
      refine zr_icmp_ge 41 dX9_longestClear_9 (by decide) (fun hc => ?_) (fun hc => ?_)
      · rw [if_pos hc] at hf
        cases hf
        exact zr_lv [1] rfl hj7
      · rw [if_neg hc] at hf
        refine zr_aload_n 0 dX9_longestClear_12 rfl ?_
        replace hf := zb1_s hf
        obtain ⟨v8, h9, hf⟩ := hf
        refine zr_get (zm_gR_g h9) zk9 (by decide) zl_7 dX9_longestClear_13 ?_
        refine zr_iload_n 3 dX9_longestClear_16 rfl ?_
        replace hf := zb1_s hf
        obtain ⟨v10, h11, hf⟩ := hf
        refine zr_iald h11 dX9_longestClear_17 ?_
        replace hf := zb1_s hf
        obtain ⟨s12, hg, hf⟩ := hf
        have hj13 : zz K cX9_longestClear (4, RX9, some .int, 1, 0, 0, some (.int r), μ) 0 0 28 [(0, .ref x0), (1, .int x1_1), (3, .int x3_3)] [.int s12] μ := by
          refine zr_istore_n [(2, .int s12), (0, .ref x0), (1, .int x1_1), (3, .int x3_3)] dX9_longestClear_28 (Nat.le_of_ble_eq_true rfl) rfl ?_
          refine zr_iload_n 2 dX9_longestClear_29 rfl ?_
          refine zr_iload_n 0 dX9_longestClear_30 rfl ?_
          refine zr_mmax zl_593 zl_55 zl_11 zl_56 (Nat.le_of_ble_eq_true rfl) (Nat.le_of_ble_eq_true rfl) (Nat.le_of_ble_eq_true rfl) (Nat.le_of_ble_eq_true rfl) dX9_longestClear_31 ?_
          refine zr_istore_n [(1, .int (if x1_1 < s12 then s12 else x1_1 : Int32)), (2, .int s12), (0, .ref x0), (3, .int x3_3)] dX9_longestClear_34 (Nat.le_of_ble_eq_true rfl) rfl ?_
          refine zr_iinc (j := 3) (x3_3 + 1) [(3, .int (x3_3 + 1)), (1, .int (if x1_1 < s12 then s12 else x1_1 : Int32)), (2, .int s12), (0, .ref x0)] dX9_longestClear_35 rfl rfl (Nat.le_of_ble_eq_true rfl) rfl ?_
          refine zr_goto 6 dX9_longestClear_38 (by decide) ?_
          exact zr_lv [3, 1, 2, 0] rfl (ih5 (if x1_1 < s12 then s12 else x1_1 : Int32) s12 (x3_3 + 1) hf)
        clear hf
        have hf := hg
        clear hg
        refine zr_if_ne 27 dX9_longestClear_18 (by decide) (fun hc => ?_) (fun hc => ?_)
        · rw [if_neg hc] at hf
          refine zr_iconst 0 dX9_longestClear_27 (by decide) ?_
          cases hf
          exact zr_lv [0, 1, 3] rfl hj13
        · rw [if_pos hc] at hf
          refine zr_iload_n 2 dX9_longestClear_21 rfl ?_
          refine zr_iconst 1 dX9_longestClear_22 (by decide) ?_
          refine zr_iadd dX9_longestClear_23 ?_
          refine zr_goto 28 dX9_longestClear_24 (by decide) ?_
          cases hf
          exact zr_lv [0, 1, 3] rfl hj13
  exact zr_lv [3, 2, 1, 0] rfl (hL14 _ 0 0 0 hf)
theorem zl_594 : Cond.fieldLink RX10 9 "TwoEchoes$Valley" "should" "[I" ∈ zt := zt_at 177 (by decide +kernel)
theorem dX10_sayingsUntil_0 : decode cX10_sayingsUntil 0 = .ok (.iload_n 1, 1) := by decide +kernel
theorem dX10_sayingsUntil_1 : decode cX10_sayingsUntil 1 = .ok (.istore_n 3, 1) := by decide +kernel
theorem dX10_sayingsUntil_2 : decode cX10_sayingsUntil 2 = .ok (.iconst 1, 1) := by decide +kernel
theorem dX10_sayingsUntil_3 : decode cX10_sayingsUntil 3 = .ok (.istore 4, 2) := by decide +kernel
theorem dX10_sayingsUntil_5 : decode cX10_sayingsUntil 5 = .ok (.iload 4, 2) := by decide +kernel
theorem dX10_sayingsUntil_7 : decode cX10_sayingsUntil 7 = .ok (.bipush 8, 2) := by decide +kernel
theorem dX10_sayingsUntil_9 : decode cX10_sayingsUntil 9 = .ok (.if_icmp .gt 24, 3) := by decide +kernel
theorem dX10_sayingsUntil_12 : decode cX10_sayingsUntil 12 = .ok (.aload_n 0, 1) := by decide +kernel
theorem dX10_sayingsUntil_13 : decode cX10_sayingsUntil 13 = .ok (.getfield 9, 3) := by decide +kernel
theorem dX10_sayingsUntil_16 : decode cX10_sayingsUntil 16 = .ok (.iload_n 3, 1) := by decide +kernel
theorem dX10_sayingsUntil_17 : decode cX10_sayingsUntil 17 = .ok (.iaload, 1) := by decide +kernel
theorem dX10_sayingsUntil_18 : decode cX10_sayingsUntil 18 = .ok (.istore_n 3, 1) := by decide +kernel
theorem dX10_sayingsUntil_19 : decode cX10_sayingsUntil 19 = .ok (.iload_n 3, 1) := by decide +kernel
theorem dX10_sayingsUntil_20 : decode cX10_sayingsUntil 20 = .ok (.iload_n 2, 1) := by decide +kernel
theorem dX10_sayingsUntil_21 : decode cX10_sayingsUntil 21 = .ok (.if_icmp .ne 6, 3) := by decide +kernel
theorem dX10_sayingsUntil_24 : decode cX10_sayingsUntil 24 = .ok (.iload 4, 2) := by decide +kernel
theorem dX10_sayingsUntil_26 : decode cX10_sayingsUntil 26 = .ok (.ireturn, 1) := by decide +kernel
theorem dX10_sayingsUntil_27 : decode cX10_sayingsUntil 27 = .ok (.iinc 4 1, 3) := by decide +kernel
theorem dX10_sayingsUntil_30 : decode cX10_sayingsUntil 30 = .ok (.goto (-25), 3) := by decide +kernel
theorem dX10_sayingsUntil_33 : decode cX10_sayingsUntil 33 = .ok (.iconst (-1), 1) := by decide +kernel
theorem dX10_sayingsUntil_34 : decode cX10_sayingsUntil 34 = .ok (.ireturn, 1) := by decide +kernel
noncomputable def fX10_sayingsUntil_l5 (μ : zM) (x0 : Nat) (x2 : Int32) (F3 : Int32 → Int32 → Option (Int32)) (x3_1 : Int32) (x4_2 : Int32) : Option (Int32) :=
  if 8 < x4_2 then (
  some (-1))
  else (
  zb1 (zm_gR μ 9 x0 1) fun v5 =>
  zb1 (zm_aI μ 0 v5 x3_1) fun v7 =>
  if v7 = x2 then (
  some x4_2)
  else (
  F3 v7 (x4_2 + 1)))
noncomputable def fX10_sayingsUntil (μ : zM) (x0 : Nat) (x1 : Int32) (x2 : Int32) : Option (Int32) :=
  zf2 (fX10_sayingsUntil_l5 μ x0 x2) zfu x1 1
set_option maxHeartbeats 4000000 in
set_option maxRecDepth 100000 in
theorem cX10_sayingsUntil_ok {μ : zM} {x0 : Nat} {x1 : Int32} {x2 : Int32} {r : Int32} (hf : fX10_sayingsUntil μ x0 x1 x2 = some r) : zC yX10_sayingsUntil cX10_sayingsUntil 5 (some .int) 0 0 0 [.ref x0, .int x1, .int x2] μ (some (.int r)) μ := by
  unfold fX10_sayingsUntil at hf
  refine zC.of (by decide) (Nat.le_of_ble_eq_true rfl) (fun K hin => ?_)
  clear hin
  show zz K cX10_sayingsUntil (5, RX10, some .int, 0, 0, 0, some (.int r), μ) 0 0 0 [(0, .ref x0), (1, .int x1), (2, .int x2)] [] μ
  refine zr_iload_n 1 dX10_sayingsUntil_0 rfl ?_
  refine zr_istore_n [(3, .int x1), (0, .ref x0), (1, .int x1), (2, .int x2)] dX10_sayingsUntil_1 (Nat.le_of_ble_eq_true rfl) rfl ?_
  refine zr_iconst 1 dX10_sayingsUntil_2 (by decide) ?_
  refine zr_istore [(4, .int 1), (3, .int x1), (0, .ref x0), (1, .int x1), (2, .int x2)] dX10_sayingsUntil_3 (Nat.le_of_ble_eq_true rfl) rfl ?_
  have hL9 : ∀ (n : Nat) (x3_1 : Int32) (x4_2 : Int32), zf2 (fX10_sayingsUntil_l5 μ x0 x2) n x3_1 x4_2 = some r → zz K cX10_sayingsUntil (5, RX10, some .int, 0, 0, 0, some (.int r), μ) 0 0 5 [(0, .ref x0), (2, .int x2), (3, .int x3_1), (4, .int x4_2)] [] μ := by
    intro n
    induction n with
    | zero => intro x3_1 x4_2 hf; cases hf
    | succ n ih4 =>
      intro x3_1 x4_2 hf
      replace hf := zf2_s hf
      generalize zf2 (fX10_sayingsUntil_l5 μ x0 x2) n = F3 at hf ih4
      unfold fX10_sayingsUntil_l5 at hf
      refine zr_iload 3 dX10_sayingsUntil_5 rfl ?_
      refine zr_bipush 8 dX10_sayingsUntil_7 (by decide) ?_
      refine zr_icmp_gt 33 dX10_sayingsUntil_9 (by decide) (fun hc => ?_) (fun hc => ?_)
      · rw [if_pos hc] at hf
        refine zr_iconst (-1) dX10_sayingsUntil_33 (by decide) ?_
        cases hf
        exact zr_iret dX10_sayingsUntil_34
      · rw [if_neg hc] at hf
        refine zr_aload_n 0 dX10_sayingsUntil_12 rfl ?_
        replace hf := zb1_s hf
        obtain ⟨v5, h6, hf⟩ := hf
        refine zr_get (zm_gR_g h6) zk9 (by decide) zl_594 dX10_sayingsUntil_13 ?_
        refine zr_iload_n 2 dX10_sayingsUntil_16 rfl ?_
        replace hf := zb1_s hf
        obtain ⟨v7, h8, hf⟩ := hf
        refine zr_iald h8 dX10_sayingsUntil_17 ?_
        refine zr_istore_n [(3, .int v7), (0, .ref x0), (2, .int x2), (4, .int x4_2)] dX10_sayingsUntil_18 (Nat.le_of_ble_eq_true rfl) rfl ?_
        refine zr_iload_n 0 dX10_sayingsUntil_19 rfl ?_
        refine zr_iload_n 2 dX10_sayingsUntil_20 rfl ?_
        refine zr_icmp_ne 27 dX10_sayingsUntil_21 (by decide) (fun hc => ?_) (fun hc => ?_)
        · rw [if_neg hc] at hf
          refine zr_iinc (j := 3) (x4_2 + 1) [(4, .int (x4_2 + 1)), (3, .int v7), (0, .ref x0), (2, .int x2)] dX10_sayingsUntil_27 rfl rfl (Nat.le_of_ble_eq_true rfl) rfl ?_
          refine zr_goto 5 dX10_sayingsUntil_30 (by decide) ?_
          exact zr_lv [2, 3, 1, 0] rfl (ih4 v7 (x4_2 + 1) hf)
        · rw [if_pos hc] at hf
          refine zr_iload 3 dX10_sayingsUntil_24 rfl ?_
          cases hf
          exact zr_iret dX10_sayingsUntil_26
  exact zr_lv [2, 4, 1, 0] rfl (hL9 _ x1 1 hf)
theorem zl_595 : Cond.code yX10_sayingsUntil cX10_sayingsUntil 5 (some .int) ∈ zt := zt_at 960 (by decide +kernel)
theorem zl_596 : Cond.initialized RX10 ∈ zt := zt_at 149 (by decide +kernel)
theorem zvs_X10_sayingsUntil : zvS yX10_sayingsUntil cX10_sayingsUntil 5 (some .int) 3 := ⟨zl_595, zl_596, ⟨by decide +kernel, by decide +kernel, by decide +kernel⟩, by decide⟩
theorem zl_597 : Cond.methodLink RX10 21 yX10_sayingsUntil ∈ zt := zt_at 1192 (by decide +kernel)
theorem zl_598 : Cond.static yX10_sayingsUntil ∈ zt := zt_at 959 (by decide +kernel)
theorem dX10_isLeastOfRing_0 : decode cX10_isLeastOfRing 0 = .ok (.aload_n 0, 1) := by decide +kernel
theorem dX10_isLeastOfRing_1 : decode cX10_isLeastOfRing 1 = .ok (.iload_n 1, 1) := by decide +kernel
theorem dX10_isLeastOfRing_2 : decode cX10_isLeastOfRing 2 = .ok (.iload_n 1, 1) := by decide +kernel
theorem dX10_isLeastOfRing_3 : decode cX10_isLeastOfRing 3 = .ok (.invokestatic 21, 3) := by decide +kernel
theorem dX10_isLeastOfRing_6 : decode cX10_isLeastOfRing 6 = .ok (.istore_n 2, 1) := by decide +kernel
theorem dX10_isLeastOfRing_7 : decode cX10_isLeastOfRing 7 = .ok (.iload_n 1, 1) := by decide +kernel
theorem dX10_isLeastOfRing_8 : decode cX10_isLeastOfRing 8 = .ok (.istore_n 3, 1) := by decide +kernel
theorem dX10_isLeastOfRing_9 : decode cX10_isLeastOfRing 9 = .ok (.iconst 0, 1) := by decide +kernel
theorem dX10_isLeastOfRing_10 : decode cX10_isLeastOfRing 10 = .ok (.istore 4, 2) := by decide +kernel
theorem dX10_isLeastOfRing_12 : decode cX10_isLeastOfRing 12 = .ok (.iload 4, 2) := by decide +kernel
theorem dX10_isLeastOfRing_14 : decode cX10_isLeastOfRing 14 = .ok (.iload_n 2, 1) := by decide +kernel
theorem dX10_isLeastOfRing_15 : decode cX10_isLeastOfRing 15 = .ok (.if_icmp .ge 23, 3) := by decide +kernel
theorem dX10_isLeastOfRing_18 : decode cX10_isLeastOfRing 18 = .ok (.aload_n 0, 1) := by decide +kernel
theorem dX10_isLeastOfRing_19 : decode cX10_isLeastOfRing 19 = .ok (.getfield 9, 3) := by decide +kernel
theorem dX10_isLeastOfRing_22 : decode cX10_isLeastOfRing 22 = .ok (.iload_n 3, 1) := by decide +kernel
theorem dX10_isLeastOfRing_23 : decode cX10_isLeastOfRing 23 = .ok (.iaload, 1) := by decide +kernel
theorem dX10_isLeastOfRing_24 : decode cX10_isLeastOfRing 24 = .ok (.istore_n 3, 1) := by decide +kernel
theorem dX10_isLeastOfRing_25 : decode cX10_isLeastOfRing 25 = .ok (.iload_n 3, 1) := by decide +kernel
theorem dX10_isLeastOfRing_26 : decode cX10_isLeastOfRing 26 = .ok (.iload_n 1, 1) := by decide +kernel
theorem dX10_isLeastOfRing_27 : decode cX10_isLeastOfRing 27 = .ok (.if_icmp .ge 5, 3) := by decide +kernel
theorem dX10_isLeastOfRing_30 : decode cX10_isLeastOfRing 30 = .ok (.iconst 0, 1) := by decide +kernel
theorem dX10_isLeastOfRing_31 : decode cX10_isLeastOfRing 31 = .ok (.ireturn, 1) := by decide +kernel
theorem dX10_isLeastOfRing_32 : decode cX10_isLeastOfRing 32 = .ok (.iinc 4 1, 3) := by decide +kernel
theorem dX10_isLeastOfRing_35 : decode cX10_isLeastOfRing 35 = .ok (.goto (-23), 3) := by decide +kernel
theorem dX10_isLeastOfRing_38 : decode cX10_isLeastOfRing 38 = .ok (.iload_n 2, 1) := by decide +kernel
theorem dX10_isLeastOfRing_39 : decode cX10_isLeastOfRing 39 = .ok (.iconst (-1), 1) := by decide +kernel
theorem dX10_isLeastOfRing_40 : decode cX10_isLeastOfRing 40 = .ok (.if_icmp .eq 7, 3) := by decide +kernel
theorem dX10_isLeastOfRing_43 : decode cX10_isLeastOfRing 43 = .ok (.iconst 1, 1) := by decide +kernel
theorem dX10_isLeastOfRing_44 : decode cX10_isLeastOfRing 44 = .ok (.goto 4, 3) := by decide +kernel
theorem dX10_isLeastOfRing_47 : decode cX10_isLeastOfRing 47 = .ok (.iconst 0, 1) := by decide +kernel
theorem dX10_isLeastOfRing_48 : decode cX10_isLeastOfRing 48 = .ok (.ireturn, 1) := by decide +kernel
noncomputable def fX10_isLeastOfRing_l12 (v2 : Int32) (μ : zM) (x0 : Nat) (x1 : Int32) (F5 : Int32 → Int32 → Option (Int32)) (x3_3 : Int32) (x4_4 : Int32) : Option (Int32) :=
  if v2 ≤ x4_4 then (
  zb1 (if v2 = (-1) then (
  some 0)
  else (
  some 1) : Option (Int32)) fun (s7 : Int32) =>
  zb1 (zbz s7) fun v9 =>
  some v9)
  else (
  zb1 (zm_gR μ 9 x0 1) fun v11 =>
  zb1 (zm_aI μ 0 v11 x3_3) fun v13 =>
  if x1 ≤ v13 then (
  F5 v13 (x4_4 + 1))
  else (
  some 0))
noncomputable def fX10_isLeastOfRing (μ : zM) (x0 : Nat) (x1 : Int32) : Option (Int32) :=
  zb1 (fX10_sayingsUntil μ x0 x1 x1) fun v2 =>
  zf2 (fX10_isLeastOfRing_l12 v2 μ x0 x1) zfu x1 0
set_option maxHeartbeats 4000000 in
set_option maxRecDepth 100000 in
theorem cX10_isLeastOfRing_ok {μ : zM} {x0 : Nat} {x1 : Int32} {r : Int32} (hf : fX10_isLeastOfRing μ x0 x1 = some r) : zC yX10_isLeastOfRing cX10_isLeastOfRing 5 (some .boolean) 1 0 0 [.ref x0, .int x1] μ (some (.int r)) μ := by
  unfold fX10_isLeastOfRing at hf
  refine zC.of (by decide) (Nat.le_of_ble_eq_true rfl) (fun K hin => ?_)
  clear hin
  show zz K cX10_isLeastOfRing (5, RX10, some .boolean, 1, 0, 0, some (.int r), μ) 0 0 0 [(0, .ref x0), (1, .int x1)] [] μ
  refine zr_aload_n 0 dX10_isLeastOfRing_0 rfl ?_
  refine zr_iload_n 1 dX10_isLeastOfRing_1 rfl ?_
  refine zr_iload_n 1 dX10_isLeastOfRing_2 rfl ?_
  replace hf := zb1_s hf
  obtain ⟨v2, h1, hf⟩ := hf
  refine zr_callS [.ref x0, .int x1, .int x1] (cX10_sayingsUntil_ok h1) zvs_X10_sayingsUntil zl_598 zl_597 rfl (Nat.le_of_ble_eq_true rfl) (Nat.le_of_ble_eq_true rfl) (Nat.le_of_ble_eq_true rfl) (Nat.le_of_ble_eq_true rfl) dX10_isLeastOfRing_3 rfl ?_
  refine zr_istore_n [(2, .int v2), (0, .ref x0), (1, .int x1)] dX10_isLeastOfRing_6 (Nat.le_of_ble_eq_true rfl) rfl ?_
  refine zr_iload_n 2 dX10_isLeastOfRing_7 rfl ?_
  refine zr_istore_n [(3, .int x1), (2, .int v2), (0, .ref x0), (1, .int x1)] dX10_isLeastOfRing_8 (Nat.le_of_ble_eq_true rfl) rfl ?_
  refine zr_iconst 0 dX10_isLeastOfRing_9 (by decide) ?_
  refine zr_istore [(4, .int 0), (3, .int x1), (2, .int v2), (0, .ref x0), (1, .int x1)] dX10_isLeastOfRing_10 (Nat.le_of_ble_eq_true rfl) rfl ?_
  have hL15 : ∀ (n : Nat) (x3_3 : Int32) (x4_4 : Int32), zf2 (fX10_isLeastOfRing_l12 v2 μ x0 x1) n x3_3 x4_4 = some r → zz K cX10_isLeastOfRing (5, RX10, some .boolean, 1, 0, 0, some (.int r), μ) 0 0 12 [(0, .ref x0), (1, .int x1), (2, .int v2), (3, .int x3_3), (4, .int x4_4)] [] μ := by
    intro n
    induction n with
    | zero => intro x3_3 x4_4 hf; cases hf
    | succ n ih6 =>
      intro x3_3 x4_4 hf
      replace hf := zf2_s hf
      generalize zf2 (fX10_isLeastOfRing_l12 v2 μ x0 x1) n = F5 at hf ih6
      unfold fX10_isLeastOfRing_l12 at hf
      refine zr_iload 4 dX10_isLeastOfRing_12 rfl ?_
      refine zr_iload_n 2 dX10_isLeastOfRing_14 rfl ?_
      refine zr_icmp_ge 38 dX10_isLeastOfRing_15 (by decide) (fun hc => ?_) (fun hc => ?_)
      · rw [if_pos hc] at hf
        refine zr_iload_n 2 dX10_isLeastOfRing_38 rfl ?_
        refine zr_iconst (-1) dX10_isLeastOfRing_39 (by decide) ?_
        replace hf := zb1_s hf
        obtain ⟨s7, hg, hf⟩ := hf
        have hj8 : zz K cX10_isLeastOfRing (5, RX10, some .boolean, 1, 0, 0, some (.int r), μ) 0 0 48 [] [.int s7] μ := by
          replace hf := zb1_s hf
          obtain ⟨v9, hn10, hf⟩ := hf
          replace hn10 := zbz_s hn10
          obtain ⟨hn10, rfl⟩ := hn10
          cases hf
          exact zr_zret hn10 dX10_isLeastOfRing_48
        clear hf
        have hf := hg
        clear hg
        refine zr_icmp_eq 47 dX10_isLeastOfRing_40 (by decide) (fun hc => ?_) (fun hc => ?_)
        · rw [if_pos hc] at hf
          refine zr_iconst 0 dX10_isLeastOfRing_47 (by decide) ?_
          cases hf
          exact zr_lv [] rfl hj8
        · rw [if_neg hc] at hf
          refine zr_iconst 1 dX10_isLeastOfRing_43 (by decide) ?_
          refine zr_goto 48 dX10_isLeastOfRing_44 (by decide) ?_
          cases hf
          exact zr_lv [] rfl hj8
      · rw [if_neg hc] at hf
        refine zr_aload_n 0 dX10_isLeastOfRing_18 rfl ?_
        replace hf := zb1_s hf
        obtain ⟨v11, h12, hf⟩ := hf
        refine zr_get (zm_gR_g h12) zk9 (by decide) zl_594 dX10_isLeastOfRing_19 ?_
        refine zr_iload_n 3 dX10_isLeastOfRing_22 rfl ?_
        replace hf := zb1_s hf
        obtain ⟨v13, h14, hf⟩ := hf
        refine zr_iald h14 dX10_isLeastOfRing_23 ?_
        refine zr_istore_n [(3, .int v13), (0, .ref x0), (1, .int x1), (2, .int v2), (4, .int x4_4)] dX10_isLeastOfRing_24 (Nat.le_of_ble_eq_true rfl) rfl ?_
        refine zr_iload_n 0 dX10_isLeastOfRing_25 rfl ?_
        refine zr_iload_n 2 dX10_isLeastOfRing_26 rfl ?_
        refine zr_icmp_ge 32 dX10_isLeastOfRing_27 (by decide) (fun hc => ?_) (fun hc => ?_)
        · rw [if_pos hc] at hf
          refine zr_iinc (j := 4) (x4_4 + 1) [(4, .int (x4_4 + 1)), (3, .int v13), (0, .ref x0), (1, .int x1), (2, .int v2)] dX10_isLeastOfRing_32 rfl rfl (Nat.le_of_ble_eq_true rfl) rfl ?_
          refine zr_goto 12 dX10_isLeastOfRing_35 (by decide) ?_
          exact zr_lv [2, 3, 4, 1, 0] rfl (ih6 v13 (x4_4 + 1) hf)
        · rw [if_neg hc] at hf
          refine zr_iconst 0 dX10_isLeastOfRing_30 (by decide) ?_
          cases hf
          exact zr_zret rfl dX10_isLeastOfRing_31
  exact zr_lv [3, 4, 2, 1, 0] rfl (hL15 _ x1 0 hf)
theorem zl_599 : Cond.code yX10_isLeastOfRing cX10_isLeastOfRing 5 (some .boolean) ∈ zt := zt_at 1191 (by decide +kernel)
theorem zvs_X10_isLeastOfRing : zvS yX10_isLeastOfRing cX10_isLeastOfRing 5 (some .boolean) 2 := ⟨zl_599, zl_596, ⟨by decide +kernel, by decide +kernel, by decide +kernel⟩, by decide⟩
theorem zl_600 : Cond.methodLink RX10 15 yX10_isLeastOfRing ∈ zt := zt_at 1189 (by decide +kernel)
theorem zl_601 : Cond.static yX10_isLeastOfRing ∈ zt := zt_at 1190 (by decide +kernel)
theorem dX10_ringCount_0 : decode cX10_ringCount 0 = .ok (.iconst 0, 1) := by decide +kernel
theorem dX10_ringCount_1 : decode cX10_ringCount 1 = .ok (.istore_n 1, 1) := by decide +kernel
theorem dX10_ringCount_2 : decode cX10_ringCount 2 = .ok (.iconst 0, 1) := by decide +kernel
theorem dX10_ringCount_3 : decode cX10_ringCount 3 = .ok (.istore_n 2, 1) := by decide +kernel
theorem dX10_ringCount_4 : decode cX10_ringCount 4 = .ok (.iload_n 2, 1) := by decide +kernel
theorem dX10_ringCount_5 : decode cX10_ringCount 5 = .ok (.bipush 8, 2) := by decide +kernel
theorem dX10_ringCount_7 : decode cX10_ringCount 7 = .ok (.if_icmp .ge 20, 3) := by decide +kernel
theorem dX10_ringCount_10 : decode cX10_ringCount 10 = .ok (.aload_n 0, 1) := by decide +kernel
theorem dX10_ringCount_11 : decode cX10_ringCount 11 = .ok (.iload_n 2, 1) := by decide +kernel
theorem dX10_ringCount_12 : decode cX10_ringCount 12 = .ok (.invokestatic 15, 3) := by decide +kernel
theorem dX10_ringCount_15 : decode cX10_ringCount 15 = .ok (.ifCond .eq 6, 3) := by decide +kernel
theorem dX10_ringCount_18 : decode cX10_ringCount 18 = .ok (.iinc 1 1, 3) := by decide +kernel
theorem dX10_ringCount_21 : decode cX10_ringCount 21 = .ok (.iinc 2 1, 3) := by decide +kernel
theorem dX10_ringCount_24 : decode cX10_ringCount 24 = .ok (.goto (-20), 3) := by decide +kernel
theorem dX10_ringCount_27 : decode cX10_ringCount 27 = .ok (.iload_n 1, 1) := by decide +kernel
theorem dX10_ringCount_28 : decode cX10_ringCount 28 = .ok (.ireturn, 1) := by decide +kernel
noncomputable def fX10_ringCount_l4 (μ : zM) (x0 : Nat) (F3 : Int32 → Int32 → Option (Int32)) (x1_1 : Int32) (x2_2 : Int32) : Option (Int32) :=
  if 8 ≤ x2_2 then (
  some x1_1)
  else (
  zb1 (fX10_isLeastOfRing μ x0 x2_2) fun v8 =>
  zb1 (if v8 = 0 then (
  some x1_1)
  else (
  some (x1_1 + 1)) : Option (Int32)) fun (x1_9 : Int32) =>
  F3 x1_9 (x2_2 + 1))
noncomputable def fX10_ringCount (μ : zM) (x0 : Nat) : Option (Int32) :=
  zb1 (zf2 (fX10_ringCount_l4 μ x0) zfu 0 0 : Option (Int32)) fun (x1_5 : Int32) =>
  some x1_5
set_option maxHeartbeats 4000000 in
set_option maxRecDepth 100000 in
theorem cX10_ringCount_ok {μ : zM} {x0 : Nat} {r : Int32} (hf : fX10_ringCount μ x0 = some r) : zC yX10_ringCount cX10_ringCount 3 (some .int) 2 0 0 [.ref x0] μ (some (.int r)) μ := by
  unfold fX10_ringCount at hf
  refine zC.of (by decide) (Nat.le_of_ble_eq_true rfl) (fun K hin => ?_)
  clear hin
  show zz K cX10_ringCount (3, RX10, some .int, 2, 0, 0, some (.int r), μ) 0 0 0 [(0, .ref x0)] [] μ
  refine zr_iconst 0 dX10_ringCount_0 (by decide) ?_
  refine zr_istore_n [(1, .int 0), (0, .ref x0)] dX10_ringCount_1 (Nat.le_of_ble_eq_true rfl) rfl ?_
  refine zr_iconst 0 dX10_ringCount_2 (by decide) ?_
  refine zr_istore_n [(2, .int 0), (1, .int 0), (0, .ref x0)] dX10_ringCount_3 (Nat.le_of_ble_eq_true rfl) rfl ?_
  replace hf := zb1_s hf
  obtain ⟨x1_5, hg, hf⟩ := hf
  have hj6 : zz K cX10_ringCount (3, RX10, some .int, 2, 0, 0, some (.int r), μ) 0 0 27 [(1, .int x1_5)] [] μ := by
    refine zr_iload_n 0 dX10_ringCount_27 rfl ?_
    cases hf
    exact zr_iret dX10_ringCount_28
  clear hf
  have hf := hg
  clear hg
  have hL11 : ∀ (n : Nat) (x1_1 : Int32) (x2_2 : Int32), zf2 (fX10_ringCount_l4 μ x0) n x1_1 x2_2 = some x1_5 → zz K cX10_ringCount (3, RX10, some .int, 2, 0, 0, some (.int r), μ) 0 0 4 [(0, .ref x0), (1, .int x1_1), (2, .int x2_2)] [] μ := by
    intro n
    induction n with
    | zero => intro x1_1 x2_2 hf; cases hf
    | succ n ih4 =>
      intro x1_1 x2_2 hf
      replace hf := zf2_s hf
      generalize zf2 (fX10_ringCount_l4 μ x0) n = F3 at hf ih4
      unfold fX10_ringCount_l4 at hf
      refine zr_iload_n 2 dX10_ringCount_4 rfl ?_
      refine zr_bipush 8 dX10_ringCount_5 (by decide) ?_
      refine zr_icmp_ge 27 dX10_ringCount_7 (by decide) (fun hc => ?_) (fun hc => ?_)
      · rw [if_pos hc] at hf
        cases hf
        exact zr_lv [1] rfl hj6
      · rw [if_neg hc] at hf
        refine zr_aload_n 0 dX10_ringCount_10 rfl ?_
        refine zr_iload_n 2 dX10_ringCount_11 rfl ?_
        replace hf := zb1_s hf
        obtain ⟨v8, h7, hf⟩ := hf
        refine zr_callS [.ref x0, .int x2_2] (cX10_isLeastOfRing_ok h7) zvs_X10_isLeastOfRing zl_601 zl_600 rfl (Nat.le_of_ble_eq_true rfl) (Nat.le_of_ble_eq_true rfl) (Nat.le_of_ble_eq_true rfl) (Nat.le_of_ble_eq_true rfl) dX10_ringCount_12 rfl ?_
        replace hf := zb1_s hf
        obtain ⟨x1_9, hg, hf⟩ := hf
        have hj10 : zz K cX10_ringCount (3, RX10, some .int, 2, 0, 0, some (.int r), μ) 0 0 21 [(0, .ref x0), (1, .int x1_9), (2, .int x2_2)] [] μ := by
          refine zr_iinc (j := 2) (x2_2 + 1) [(2, .int (x2_2 + 1)), (0, .ref x0), (1, .int x1_9)] dX10_ringCount_21 rfl rfl (Nat.le_of_ble_eq_true rfl) rfl ?_
          refine zr_goto 4 dX10_ringCount_24 (by decide) ?_
          exact zr_lv [1, 2, 0] rfl (ih4 x1_9 (x2_2 + 1) hf)
        clear hf
        have hf := hg
        clear hg
        refine zr_if_eq 21 dX10_ringCount_15 (by decide) (fun hc => ?_) (fun hc => ?_)
        · rw [if_pos hc] at hf
          cases hf
          exact zr_lv [0, 1, 2] rfl hj10
        · rw [if_neg hc] at hf
          refine zr_iinc (j := 1) (x1_1 + 1) [(1, .int (x1_1 + 1)), (0, .ref x0), (2, .int x2_2)] dX10_ringCount_18 rfl rfl (Nat.le_of_ble_eq_true rfl) rfl ?_
          cases hf
          exact zr_lv [1, 0, 2] rfl hj10
  exact zr_lv [2, 1, 0] rfl (hL11 _ 0 0 hf)
theorem zl_602 : Cond.methodLink RX10 25 Lib.Math.max.name ∈ zt := zt_at 1196 (by decide +kernel)
theorem dX10_longestRing_0 : decode cX10_longestRing 0 = .ok (.iconst 0, 1) := by decide +kernel
theorem dX10_longestRing_1 : decode cX10_longestRing 1 = .ok (.istore_n 1, 1) := by decide +kernel
theorem dX10_longestRing_2 : decode cX10_longestRing 2 = .ok (.iconst 0, 1) := by decide +kernel
theorem dX10_longestRing_3 : decode cX10_longestRing 3 = .ok (.istore_n 2, 1) := by decide +kernel
theorem dX10_longestRing_4 : decode cX10_longestRing 4 = .ok (.iload_n 2, 1) := by decide +kernel
theorem dX10_longestRing_5 : decode cX10_longestRing 5 = .ok (.bipush 8, 2) := by decide +kernel
theorem dX10_longestRing_7 : decode cX10_longestRing 7 = .ok (.if_icmp .ge 20, 3) := by decide +kernel
theorem dX10_longestRing_10 : decode cX10_longestRing 10 = .ok (.iload_n 1, 1) := by decide +kernel
theorem dX10_longestRing_11 : decode cX10_longestRing 11 = .ok (.aload_n 0, 1) := by decide +kernel
theorem dX10_longestRing_12 : decode cX10_longestRing 12 = .ok (.iload_n 2, 1) := by decide +kernel
theorem dX10_longestRing_13 : decode cX10_longestRing 13 = .ok (.iload_n 2, 1) := by decide +kernel
theorem dX10_longestRing_14 : decode cX10_longestRing 14 = .ok (.invokestatic 21, 3) := by decide +kernel
theorem dX10_longestRing_17 : decode cX10_longestRing 17 = .ok (.invokestatic 25, 3) := by decide +kernel
theorem dX10_longestRing_20 : decode cX10_longestRing 20 = .ok (.istore_n 1, 1) := by decide +kernel
theorem dX10_longestRing_21 : decode cX10_longestRing 21 = .ok (.iinc 2 1, 3) := by decide +kernel
theorem dX10_longestRing_24 : decode cX10_longestRing 24 = .ok (.goto (-20), 3) := by decide +kernel
theorem dX10_longestRing_27 : decode cX10_longestRing 27 = .ok (.iload_n 1, 1) := by decide +kernel
theorem dX10_longestRing_28 : decode cX10_longestRing 28 = .ok (.ireturn, 1) := by decide +kernel
noncomputable def fX10_longestRing_l4 (μ : zM) (x0 : Nat) (F3 : Int32 → Int32 → Option (Int32)) (x1_1 : Int32) (x2_2 : Int32) : Option (Int32) :=
  if 8 ≤ x2_2 then (
  some x1_1)
  else (
  zb1 (fX10_sayingsUntil μ x0 x2_2 x2_2) fun v8 =>
  F3 (if x1_1 < v8 then v8 else x1_1 : Int32) (x2_2 + 1))
noncomputable def fX10_longestRing (μ : zM) (x0 : Nat) : Option (Int32) :=
  zb1 (zf2 (fX10_longestRing_l4 μ x0) zfu 0 0 : Option (Int32)) fun (x1_5 : Int32) =>
  some x1_5
set_option maxHeartbeats 4000000 in
set_option maxRecDepth 100000 in
theorem cX10_longestRing_ok {μ : zM} {x0 : Nat} {r : Int32} (hf : fX10_longestRing μ x0 = some r) : zC yX10_longestRing cX10_longestRing 3 (some .int) 1 0 0 [.ref x0] μ (some (.int r)) μ := by
  unfold fX10_longestRing at hf
  refine zC.of (by decide) (Nat.le_of_ble_eq_true rfl) (fun K hin => ?_)
  clear hin
  show zz K cX10_longestRing (3, RX10, some .int, 1, 0, 0, some (.int r), μ) 0 0 0 [(0, .ref x0)] [] μ
  refine zr_iconst 0 dX10_longestRing_0 (by decide) ?_
  refine zr_istore_n [(1, .int 0), (0, .ref x0)] dX10_longestRing_1 (Nat.le_of_ble_eq_true rfl) rfl ?_
  refine zr_iconst 0 dX10_longestRing_2 (by decide) ?_
  refine zr_istore_n [(2, .int 0), (1, .int 0), (0, .ref x0)] dX10_longestRing_3 (Nat.le_of_ble_eq_true rfl) rfl ?_
  replace hf := zb1_s hf
  obtain ⟨x1_5, hg, hf⟩ := hf
  have hj6 : zz K cX10_longestRing (3, RX10, some .int, 1, 0, 0, some (.int r), μ) 0 0 27 [(1, .int x1_5)] [] μ := by
    refine zr_iload_n 0 dX10_longestRing_27 rfl ?_
    cases hf
    exact zr_iret dX10_longestRing_28
  clear hf
  have hf := hg
  clear hg
  have hL9 : ∀ (n : Nat) (x1_1 : Int32) (x2_2 : Int32), zf2 (fX10_longestRing_l4 μ x0) n x1_1 x2_2 = some x1_5 → zz K cX10_longestRing (3, RX10, some .int, 1, 0, 0, some (.int r), μ) 0 0 4 [(0, .ref x0), (1, .int x1_1), (2, .int x2_2)] [] μ := by
    intro n
    induction n with
    | zero => intro x1_1 x2_2 hf; cases hf
    | succ n ih4 =>
      intro x1_1 x2_2 hf
      replace hf := zf2_s hf
      generalize zf2 (fX10_longestRing_l4 μ x0) n = F3 at hf ih4
      unfold fX10_longestRing_l4 at hf
      refine zr_iload_n 2 dX10_longestRing_4 rfl ?_
      refine zr_bipush 8 dX10_longestRing_5 (by decide) ?_
      refine zr_icmp_ge 27 dX10_longestRing_7 (by decide) (fun hc => ?_) (fun hc => ?_)
      · rw [if_pos hc] at hf
        cases hf
        exact zr_lv [1] rfl hj6
      · rw [if_neg hc] at hf
        refine zr_iload_n 1 dX10_longestRing_10 rfl ?_
        refine zr_aload_n 0 dX10_longestRing_11 rfl ?_
        refine zr_iload_n 2 dX10_longestRing_12 rfl ?_
        refine zr_iload_n 2 dX10_longestRing_13 rfl ?_
        replace hf := zb1_s hf
        obtain ⟨v8, h7, hf⟩ := hf
        refine zr_callS [.ref x0, .int x2_2, .int x2_2] (cX10_sayingsUntil_ok h7) zvs_X10_sayingsUntil zl_598 zl_597 rfl (Nat.le_of_ble_eq_true rfl) (Nat.le_of_ble_eq_true rfl) (Nat.le_of_ble_eq_true rfl) (Nat.le_of_ble_eq_true rfl) dX10_longestRing_14 rfl ?_
        refine zr_mmax zl_602 zl_55 zl_11 zl_56 (Nat.le_of_ble_eq_true rfl) (Nat.le_of_ble_eq_true rfl) (Nat.le_of_ble_eq_true rfl) (Nat.le_of_ble_eq_true rfl) dX10_longestRing_17 ?_
        refine zr_istore_n [(1, .int (if x1_1 < v8 then v8 else x1_1 : Int32)), (0, .ref x0), (2, .int x2_2)] dX10_longestRing_20 (Nat.le_of_ble_eq_true rfl) rfl ?_
        refine zr_iinc (j := 2) (x2_2 + 1) [(2, .int (x2_2 + 1)), (1, .int (if x1_1 < v8 then v8 else x1_1 : Int32)), (0, .ref x0)] dX10_longestRing_21 rfl rfl (Nat.le_of_ble_eq_true rfl) rfl ?_
        refine zr_goto 4 dX10_longestRing_24 (by decide) ?_
        exact zr_lv [2, 1, 0] rfl (ih4 (if x1_1 < v8 then v8 else x1_1 : Int32) (x2_2 + 1) hf)
  exact zr_lv [2, 1, 0] rfl (hL9 _ 0 0 hf)
theorem dX10_wordsInRings_0 : decode cX10_wordsInRings 0 = .ok (.iconst 0, 1) := by decide +kernel
theorem dX10_wordsInRings_1 : decode cX10_wordsInRings 1 = .ok (.istore_n 1, 1) := by decide +kernel
theorem dX10_wordsInRings_2 : decode cX10_wordsInRings 2 = .ok (.iconst 0, 1) := by decide +kernel
theorem dX10_wordsInRings_3 : decode cX10_wordsInRings 3 = .ok (.istore_n 2, 1) := by decide +kernel
theorem dX10_wordsInRings_4 : decode cX10_wordsInRings 4 = .ok (.iload_n 2, 1) := by decide +kernel
theorem dX10_wordsInRings_5 : decode cX10_wordsInRings 5 = .ok (.bipush 8, 2) := by decide +kernel
theorem dX10_wordsInRings_7 : decode cX10_wordsInRings 7 = .ok (.if_icmp .ge 25, 3) := by decide +kernel
theorem dX10_wordsInRings_10 : decode cX10_wordsInRings 10 = .ok (.aload_n 0, 1) := by decide +kernel
theorem dX10_wordsInRings_11 : decode cX10_wordsInRings 11 = .ok (.iload_n 2, 1) := by decide +kernel
theorem dX10_wordsInRings_12 : decode cX10_wordsInRings 12 = .ok (.iload_n 2, 1) := by decide +kernel
theorem dX10_wordsInRings_13 : decode cX10_wordsInRings 13 = .ok (.invokestatic 21, 3) := by decide +kernel
theorem dX10_wordsInRings_16 : decode cX10_wordsInRings 16 = .ok (.iconst (-1), 1) := by decide +kernel
theorem dX10_wordsInRings_17 : decode cX10_wordsInRings 17 = .ok (.if_icmp .eq 9, 3) := by decide +kernel
theorem dX10_wordsInRings_20 : decode cX10_wordsInRings 20 = .ok (.iload_n 1, 1) := by decide +kernel
theorem dX10_wordsInRings_21 : decode cX10_wordsInRings 21 = .ok (.iconst 1, 1) := by decide +kernel
theorem dX10_wordsInRings_22 : decode cX10_wordsInRings 22 = .ok (.iload_n 2, 1) := by decide +kernel
theorem dX10_wordsInRings_23 : decode cX10_wordsInRings 23 = .ok (.ishl, 1) := by decide +kernel
theorem dX10_wordsInRings_24 : decode cX10_wordsInRings 24 = .ok (.ior, 1) := by decide +kernel
theorem dX10_wordsInRings_25 : decode cX10_wordsInRings 25 = .ok (.istore_n 1, 1) := by decide +kernel
theorem dX10_wordsInRings_26 : decode cX10_wordsInRings 26 = .ok (.iinc 2 1, 3) := by decide +kernel
theorem dX10_wordsInRings_29 : decode cX10_wordsInRings 29 = .ok (.goto (-25), 3) := by decide +kernel
theorem dX10_wordsInRings_32 : decode cX10_wordsInRings 32 = .ok (.iload_n 1, 1) := by decide +kernel
theorem dX10_wordsInRings_33 : decode cX10_wordsInRings 33 = .ok (.ireturn, 1) := by decide +kernel
noncomputable def fX10_wordsInRings_l4 (μ : zM) (x0 : Nat) (F3 : Int32 → Int32 → Option (Int32)) (x1_1 : Int32) (x2_2 : Int32) : Option (Int32) :=
  if 8 ≤ x2_2 then (
  some x1_1)
  else (
  zb1 (fX10_sayingsUntil μ x0 x2_2 x2_2) fun v8 =>
  zb1 (if v8 = (-1) then (
  some x1_1)
  else (
  some (x1_1 ||| (1 <<< (x2_2 &&& 31)))) : Option (Int32)) fun (x1_9 : Int32) =>
  F3 x1_9 (x2_2 + 1))
noncomputable def fX10_wordsInRings (μ : zM) (x0 : Nat) : Option (Int32) :=
  zb1 (zf2 (fX10_wordsInRings_l4 μ x0) zfu 0 0 : Option (Int32)) fun (x1_5 : Int32) =>
  some x1_5
set_option maxHeartbeats 4000000 in
set_option maxRecDepth 100000 in
theorem cX10_wordsInRings_ok {μ : zM} {x0 : Nat} {r : Int32} (hf : fX10_wordsInRings μ x0 = some r) : zC yX10_wordsInRings cX10_wordsInRings 3 (some .int) 1 0 0 [.ref x0] μ (some (.int r)) μ := by
  unfold fX10_wordsInRings at hf
  refine zC.of (by decide) (Nat.le_of_ble_eq_true rfl) (fun K hin => ?_)
  clear hin
  show zz K cX10_wordsInRings (3, RX10, some .int, 1, 0, 0, some (.int r), μ) 0 0 0 [(0, .ref x0)] [] μ
  refine zr_iconst 0 dX10_wordsInRings_0 (by decide) ?_
  refine zr_istore_n [(1, .int 0), (0, .ref x0)] dX10_wordsInRings_1 (Nat.le_of_ble_eq_true rfl) rfl ?_
  refine zr_iconst 0 dX10_wordsInRings_2 (by decide) ?_
  refine zr_istore_n [(2, .int 0), (1, .int 0), (0, .ref x0)] dX10_wordsInRings_3 (Nat.le_of_ble_eq_true rfl) rfl ?_
  replace hf := zb1_s hf
  obtain ⟨x1_5, hg, hf⟩ := hf
  have hj6 : zz K cX10_wordsInRings (3, RX10, some .int, 1, 0, 0, some (.int r), μ) 0 0 32 [(1, .int x1_5)] [] μ := by
    refine zr_iload_n 0 dX10_wordsInRings_32 rfl ?_
    cases hf
    exact zr_iret dX10_wordsInRings_33
  clear hf
  have hf := hg
  clear hg
  have hL11 : ∀ (n : Nat) (x1_1 : Int32) (x2_2 : Int32), zf2 (fX10_wordsInRings_l4 μ x0) n x1_1 x2_2 = some x1_5 → zz K cX10_wordsInRings (3, RX10, some .int, 1, 0, 0, some (.int r), μ) 0 0 4 [(0, .ref x0), (1, .int x1_1), (2, .int x2_2)] [] μ := by
    intro n
    induction n with
    | zero => intro x1_1 x2_2 hf; cases hf
    | succ n ih4 =>
      intro x1_1 x2_2 hf
      replace hf := zf2_s hf
      generalize zf2 (fX10_wordsInRings_l4 μ x0) n = F3 at hf ih4
      unfold fX10_wordsInRings_l4 at hf
      refine zr_iload_n 2 dX10_wordsInRings_4 rfl ?_
      refine zr_bipush 8 dX10_wordsInRings_5 (by decide) ?_
      refine zr_icmp_ge 32 dX10_wordsInRings_7 (by decide) (fun hc => ?_) (fun hc => ?_)
      · rw [if_pos hc] at hf
        cases hf
        exact zr_lv [1] rfl hj6
      · rw [if_neg hc] at hf
        refine zr_aload_n 0 dX10_wordsInRings_10 rfl ?_
        refine zr_iload_n 2 dX10_wordsInRings_11 rfl ?_
        refine zr_iload_n 2 dX10_wordsInRings_12 rfl ?_
        replace hf := zb1_s hf
        obtain ⟨v8, h7, hf⟩ := hf
        refine zr_callS [.ref x0, .int x2_2, .int x2_2] (cX10_sayingsUntil_ok h7) zvs_X10_sayingsUntil zl_598 zl_597 rfl (Nat.le_of_ble_eq_true rfl) (Nat.le_of_ble_eq_true rfl) (Nat.le_of_ble_eq_true rfl) (Nat.le_of_ble_eq_true rfl) dX10_wordsInRings_13 rfl ?_
        refine zr_iconst (-1) dX10_wordsInRings_16 (by decide) ?_
        replace hf := zb1_s hf
        obtain ⟨x1_9, hg, hf⟩ := hf
        have hj10 : zz K cX10_wordsInRings (3, RX10, some .int, 1, 0, 0, some (.int r), μ) 0 0 26 [(0, .ref x0), (1, .int x1_9), (2, .int x2_2)] [] μ := by
          refine zr_iinc (j := 2) (x2_2 + 1) [(2, .int (x2_2 + 1)), (0, .ref x0), (1, .int x1_9)] dX10_wordsInRings_26 rfl rfl (Nat.le_of_ble_eq_true rfl) rfl ?_
          refine zr_goto 4 dX10_wordsInRings_29 (by decide) ?_
          exact zr_lv [1, 2, 0] rfl (ih4 x1_9 (x2_2 + 1) hf)
        clear hf
        have hf := hg
        clear hg
        refine zr_icmp_eq 26 dX10_wordsInRings_17 (by decide) (fun hc => ?_) (fun hc => ?_)
        · rw [if_pos hc] at hf
          cases hf
          exact zr_lv [0, 1, 2] rfl hj10
        · rw [if_neg hc] at hf
          refine zr_iload_n 1 dX10_wordsInRings_20 rfl ?_
          refine zr_iconst 1 dX10_wordsInRings_21 (by decide) ?_
          refine zr_iload_n 2 dX10_wordsInRings_22 rfl ?_
          refine zr_ishl dX10_wordsInRings_23 ?_
          refine zr_ior dX10_wordsInRings_24 ?_
          refine zr_istore_n [(1, .int (x1_1 ||| (1 <<< (x2_2 &&& 31)))), (0, .ref x0), (2, .int x2_2)] dX10_wordsInRings_25 (Nat.le_of_ble_eq_true rfl) rfl ?_
          cases hf
          exact zr_lv [1, 0, 2] rfl hj10
  exact zr_lv [2, 1, 0] rfl (hL11 _ 0 0 hf)
