theorem dX12_ones_0 : decode cX12_ones 0 = .ok (.iconst 0, 1) := by decide +kernel
theorem dX12_ones_1 : decode cX12_ones 1 = .ok (.istore_n 1, 1) := by decide +kernel
theorem dX12_ones_2 : decode cX12_ones 2 = .ok (.iconst 0, 1) := by decide +kernel
theorem dX12_ones_3 : decode cX12_ones 3 = .ok (.istore_n 2, 1) := by decide +kernel
theorem dX12_ones_4 : decode cX12_ones 4 = .ok (.iload_n 2, 1) := by decide +kernel
theorem dX12_ones_5 : decode cX12_ones 5 = .ok (.bipush 6, 2) := by decide +kernel
theorem dX12_ones_7 : decode cX12_ones 7 = .ok (.if_icmp .ge 25, 3) := by decide +kernel
theorem dX12_ones_10 : decode cX12_ones 10 = .ok (.iload_n 1, 1) := by decide +kernel
theorem dX12_ones_11 : decode cX12_ones 11 = .ok (.iload_n 0, 1) := by decide +kernel
theorem dX12_ones_12 : decode cX12_ones 12 = .ok (.iload_n 2, 1) := by decide +kernel
theorem dX12_ones_13 : decode cX12_ones 13 = .ok (.invokestatic 380, 3) := by decide +kernel
theorem dX12_ones_16 : decode cX12_ones 16 = .ok (.ifCond .eq 7, 3) := by decide +kernel
theorem dX12_ones_19 : decode cX12_ones 19 = .ok (.iconst 1, 1) := by decide +kernel
theorem dX12_ones_20 : decode cX12_ones 20 = .ok (.goto 4, 3) := by decide +kernel
theorem dX12_ones_23 : decode cX12_ones 23 = .ok (.iconst 0, 1) := by decide +kernel
theorem dX12_ones_24 : decode cX12_ones 24 = .ok (.iadd, 1) := by decide +kernel
theorem dX12_ones_25 : decode cX12_ones 25 = .ok (.istore_n 1, 1) := by decide +kernel
theorem dX12_ones_26 : decode cX12_ones 26 = .ok (.iinc 2 1, 3) := by decide +kernel
theorem dX12_ones_29 : decode cX12_ones 29 = .ok (.goto (-25), 3) := by decide +kernel
theorem dX12_ones_32 : decode cX12_ones 32 = .ok (.iload_n 1, 1) := by decide +kernel
theorem dX12_ones_33 : decode cX12_ones 33 = .ok (.ireturn, 1) := by decide +kernel
noncomputable def fX12_ones_l4 (μ : zM) (x0 : Int32) (F3 : Int32 → Int32 → Option (Int32)) (x1_1 : Int32) (x2_2 : Int32) : Option (Int32) :=
  if 6 ≤ x2_2 then (
  some x1_1)
  else (
  zb1 (fX12_has μ x0 x2_2) fun v8 =>
  zb1 (if v8 = 0 then (
  some 0)
  else (
  some 1) : Option (Int32)) fun (s9 : Int32) =>
  F3 (x1_1 + s9) (x2_2 + 1))
noncomputable def fX12_ones (μ : zM) (x0 : Int32) : Option (Int32) :=
  zb1 (zf2 (fX12_ones_l4 μ x0) zfu 0 0 : Option (Int32)) fun (x1_5 : Int32) =>
  some x1_5
set_option maxHeartbeats 4000000 in
set_option maxRecDepth 100000 in
theorem cX12_ones_ok {μ : zM} {x0 : Int32} {r : Int32} (hf : fX12_ones μ x0 = some r) : zC yX12_ones cX12_ones 3 (some .int) 1 0 0 [.int x0] μ (some (.int r)) μ := by
  unfold fX12_ones at hf
  refine zC.of (by decide) (Nat.le_of_ble_eq_true rfl) (fun K hin => ?_)
  clear hin
  show zz K cX12_ones (3, RX12, some .int, 1, 0, 0, some (.int r), μ) 0 0 0 [(0, .int x0)] [] μ
  refine zr_iconst 0 dX12_ones_0 (by decide) ?_
  refine zr_istore_n [(1, .int 0), (0, .int x0)] dX12_ones_1 (Nat.le_of_ble_eq_true rfl) rfl ?_
  refine zr_iconst 0 dX12_ones_2 (by decide) ?_
  refine zr_istore_n [(2, .int 0), (1, .int 0), (0, .int x0)] dX12_ones_3 (Nat.le_of_ble_eq_true rfl) rfl ?_
  replace hf := zb1_s hf
  obtain ⟨x1_5, hg, hf⟩ := hf
  have hj6 : zz K cX12_ones (3, RX12, some .int, 1, 0, 0, some (.int r), μ) 0 0 32 [(1, .int x1_5)] [] μ := by
    refine zr_iload_n 0 dX12_ones_32 rfl ?_
    cases hf
    exact zr_iret dX12_ones_33
  clear hf
  have hf := hg
  clear hg
  have hL11 : ∀ (n : Nat) (x1_1 : Int32) (x2_2 : Int32), zf2 (fX12_ones_l4 μ x0) n x1_1 x2_2 = some x1_5 → zz K cX12_ones (3, RX12, some .int, 1, 0, 0, some (.int r), μ) 0 0 4 [(0, .int x0), (1, .int x1_1), (2, .int x2_2)] [] μ := by
    intro n
    induction n with
    | zero => intro x1_1 x2_2 hf; cases hf
    | succ n ih4 =>
      intro x1_1 x2_2 hf
      replace hf := zf2_s hf
      generalize zf2 (fX12_ones_l4 μ x0) n = F3 at hf ih4
      unfold fX12_ones_l4 at hf
      refine zr_iload_n 2 dX12_ones_4 rfl ?_
      refine zr_bipush 6 dX12_ones_5 (by decide) ?_
      refine zr_icmp_ge 32 dX12_ones_7 (by decide) (fun hc => ?_) (fun hc => ?_)
      · rw [if_pos hc] at hf
        cases hf
        exact zr_lv [1] rfl hj6
      · rw [if_neg hc] at hf
        refine zr_iload_n 1 dX12_ones_10 rfl ?_
        refine zr_iload_n 0 dX12_ones_11 rfl ?_
        refine zr_iload_n 2 dX12_ones_12 rfl ?_
        replace hf := zb1_s hf
        obtain ⟨v8, h7, hf⟩ := hf
        refine zr_callS [.int x0, .int x2_2] (cX12_has_ok h7) zvs_X12_has zl_1146 zl_1145 rfl (Nat.le_of_ble_eq_true rfl) (Nat.le_of_ble_eq_true rfl) (Nat.le_of_ble_eq_true rfl) (Nat.le_of_ble_eq_true rfl) dX12_ones_13 rfl ?_
        replace hf := zb1_s hf
        obtain ⟨s9, hg, hf⟩ := hf
        have hj10 : zz K cX12_ones (3, RX12, some .int, 1, 0, 0, some (.int r), μ) 0 0 24 [(0, .int x0), (2, .int x2_2)] [.int s9, .int x1_1] μ := by
          refine zr_iadd dX12_ones_24 ?_
          refine zr_istore_n [(1, .int (x1_1 + s9)), (0, .int x0), (2, .int x2_2)] dX12_ones_25 (Nat.le_of_ble_eq_true rfl) rfl ?_
          refine zr_iinc (j := 2) (x2_2 + 1) [(2, .int (x2_2 + 1)), (1, .int (x1_1 + s9)), (0, .int x0)] dX12_ones_26 rfl rfl (Nat.le_of_ble_eq_true rfl) rfl ?_
          refine zr_goto 4 dX12_ones_29 (by decide) ?_
          exact zr_lv [2, 1, 0] rfl (ih4 (x1_1 + s9) (x2_2 + 1) hf)
        clear hf
        have hf := hg
        clear hg
        refine zr_if_eq 23 dX12_ones_16 (by decide) (fun hc => ?_) (fun hc => ?_)
        · rw [if_pos hc] at hf
          refine zr_iconst 0 dX12_ones_23 (by decide) ?_
          cases hf
          exact zr_lv [0, 2] rfl hj10
        · rw [if_neg hc] at hf
          refine zr_iconst 1 dX12_ones_19 (by decide) ?_
          refine zr_goto 24 dX12_ones_20 (by decide) ?_
          cases hf
          exact zr_lv [0, 2] rfl hj10
  exact zr_lv [2, 1, 0] rfl (hL11 _ 0 0 hf)
theorem zl_1277 : Cond.code yX12_areGuarded cX12_areGuarded 6 (some .boolean) ∈ zt := zt_at 1970 (by decide +kernel)
theorem zvs_X12_areGuarded : zvS yX12_areGuarded cX12_areGuarded 6 (some .boolean) 2 := ⟨zl_1277, zl_893, ⟨by decide +kernel, by decide +kernel, by decide +kernel⟩, by decide⟩
theorem zl_1278 : Cond.methodLink RX12 502 yX12_areGuarded ∈ zt := zt_at 1967 (by decide +kernel)
theorem zl_1279 : Cond.instanceMethod yX12_areGuarded ∈ zt := zt_at 1969 (by decide +kernel)
theorem zl_1280 : Cond.selects RX12 yX12_areGuarded yX12_areGuarded ∈ zt := zt_at 121 (by decide +kernel)
theorem zl_1281 : Cond.code yX12_ones cX12_ones 3 (some .int) ∈ zt := zt_at 1973 (by decide +kernel)
theorem zvs_X12_ones : zvS yX12_ones cX12_ones 3 (some .int) 1 := ⟨zl_1281, zl_893, ⟨by decide +kernel, by decide +kernel, by decide +kernel⟩, by decide⟩
theorem zl_1282 : Cond.methodLink RX12 505 yX12_ones ∈ zt := zt_at 1971 (by decide +kernel)
theorem zl_1283 : Cond.static yX12_ones ∈ zt := zt_at 1972 (by decide +kernel)
theorem dX12_guards_0 : decode cX12_guards 0 = .ok (.aload_n 0, 1) := by decide +kernel
theorem dX12_guards_1 : decode cX12_guards 1 = .ok (.iconst 0, 1) := by decide +kernel
theorem dX12_guards_2 : decode cX12_guards 2 = .ok (.putfield 93, 3) := by decide +kernel
theorem dX12_guards_5 : decode cX12_guards 5 = .ok (.aload_n 0, 1) := by decide +kernel
theorem dX12_guards_6 : decode cX12_guards 6 = .ok (.iload_n 1, 1) := by decide +kernel
theorem dX12_guards_7 : decode cX12_guards 7 = .ok (.invokevirtual 298, 3) := by decide +kernel
theorem dX12_guards_10 : decode cX12_guards 10 = .ok (.ifCond .eq 12, 3) := by decide +kernel
theorem dX12_guards_13 : decode cX12_guards 13 = .ok (.iload_n 2, 1) := by decide +kernel
theorem dX12_guards_14 : decode cX12_guards 14 = .ok (.iconst 0, 1) := by decide +kernel
theorem dX12_guards_15 : decode cX12_guards 15 = .ok (.iconst 2, 1) := by decide +kernel
theorem dX12_guards_16 : decode cX12_guards 16 = .ok (.invokestatic 101, 3) := by decide +kernel
theorem dX12_guards_19 : decode cX12_guards 19 = .ok (.ifCond .ne 5, 3) := by decide +kernel
theorem dX12_guards_22 : decode cX12_guards 22 = .ok (.iconst (-1), 1) := by decide +kernel
theorem dX12_guards_23 : decode cX12_guards 23 = .ok (.ireturn, 1) := by decide +kernel
theorem dX12_guards_24 : decode cX12_guards 24 = .ok (.iconst (-1), 1) := by decide +kernel
theorem dX12_guards_25 : decode cX12_guards 25 = .ok (.istore_n 3, 1) := by decide +kernel
theorem dX12_guards_26 : decode cX12_guards 26 = .ok (.iconst 0, 1) := by decide +kernel
theorem dX12_guards_27 : decode cX12_guards 27 = .ok (.istore 4, 2) := by decide +kernel
theorem dX12_guards_29 : decode cX12_guards 29 = .ok (.iload 4, 2) := by decide +kernel
theorem dX12_guards_31 : decode cX12_guards 31 = .ok (.iconst 1, 1) := by decide +kernel
theorem dX12_guards_32 : decode cX12_guards 32 = .ok (.aload_n 0, 1) := by decide +kernel
theorem dX12_guards_33 : decode cX12_guards 33 = .ok (.getfield 276, 3) := by decide +kernel
theorem dX12_guards_36 : decode cX12_guards 36 = .ok (.ishl, 1) := by decide +kernel
theorem dX12_guards_37 : decode cX12_guards 37 = .ok (.if_icmp .ge 43, 3) := by decide +kernel
theorem dX12_guards_40 : decode cX12_guards 40 = .ok (.aload_n 0, 1) := by decide +kernel
theorem dX12_guards_41 : decode cX12_guards 41 = .ok (.iload 4, 2) := by decide +kernel
theorem dX12_guards_43 : decode cX12_guards 43 = .ok (.iload_n 2, 1) := by decide +kernel
theorem dX12_guards_44 : decode cX12_guards 44 = .ok (.invokevirtual 502, 3) := by decide +kernel
theorem dX12_guards_47 : decode cX12_guards 47 = .ok (.ifCond .eq 25, 3) := by decide +kernel
theorem dX12_guards_50 : decode cX12_guards 50 = .ok (.iload_n 3, 1) := by decide +kernel
theorem dX12_guards_51 : decode cX12_guards 51 = .ok (.iconst (-1), 1) := by decide +kernel
theorem dX12_guards_52 : decode cX12_guards 52 = .ok (.if_icmp .eq 15, 3) := by decide +kernel
theorem dX12_guards_55 : decode cX12_guards 55 = .ok (.iload 4, 2) := by decide +kernel
theorem dX12_guards_57 : decode cX12_guards 57 = .ok (.invokestatic 505, 3) := by decide +kernel
theorem dX12_guards_60 : decode cX12_guards 60 = .ok (.iload_n 3, 1) := by decide +kernel
theorem dX12_guards_61 : decode cX12_guards 61 = .ok (.invokestatic 505, 3) := by decide +kernel
theorem dX12_guards_64 : decode cX12_guards 64 = .ok (.if_icmp .ge 8, 3) := by decide +kernel
theorem dX12_guards_67 : decode cX12_guards 67 = .ok (.iload 4, 2) := by decide +kernel
theorem dX12_guards_69 : decode cX12_guards 69 = .ok (.goto 4, 3) := by decide +kernel
theorem dX12_guards_72 : decode cX12_guards 72 = .ok (.iload_n 3, 1) := by decide +kernel
theorem dX12_guards_73 : decode cX12_guards 73 = .ok (.istore_n 3, 1) := by decide +kernel
theorem dX12_guards_74 : decode cX12_guards 74 = .ok (.iinc 4 1, 3) := by decide +kernel
theorem dX12_guards_77 : decode cX12_guards 77 = .ok (.goto (-48), 3) := by decide +kernel
theorem dX12_guards_80 : decode cX12_guards 80 = .ok (.iload_n 3, 1) := by decide +kernel
theorem dX12_guards_81 : decode cX12_guards 81 = .ok (.ireturn, 1) := by decide +kernel
noncomputable def fX12_guards_l29 (m4 : zM) (x0 : Nat) (x2 : Int32) (F10 : Int32 → Int32 → Option (Int32)) (x3_8 : Int32) (x4_9 : Int32) : Option (Int32) :=
  zb1 (zm_gI m4 12 x0 25) fun v14 =>
  if (1 <<< (v14 &&& 31)) ≤ x4_9 then (
  some x3_8)
  else (
  zb1 (fX12_areGuarded m4 x0 x4_9 x2) fun v17 =>
  zb1 (if v17 = 0 then (
  some x3_8)
  else (
  if x3_8 = (-1) then (
  some x4_9)
  else (
  zb1 (fX12_ones m4 x4_9) fun v21 =>
  zb1 (fX12_ones m4 x3_8) fun v23 =>
  if v23 ≤ v21 then (
  some x3_8)
  else (
  some x4_9))) : Option (Int32)) fun (s18 : Int32) =>
  F10 s18 (x4_9 + 1))
noncomputable def fX12_guards (μ : zM) (x0 : Nat) (x1 : Int32) (x2 : Int32) : Option (Int32 × zM) := zgd (zm_ck μ 12 x0) <|
  zb1 (zm_p μ 12 x0 0 (.int 0)) fun m1 =>
  zb2 (fX12_hand m1 x0 x1) fun v5 m4 =>
  if v5 = 0 then (
  some ((-1), m4))
  else (
  zb1 (fX12_in m4 x2 0 2) fun v7 =>
  if v7 = 0 then (
  some ((-1), m4))
  else (
  zb1 (zf2 (fX12_guards_l29 m4 x0 x2) zfu (-1) 0 : Option (Int32)) fun (x3_12 : Int32) =>
  some (x3_12, m4)))
theorem fX12_guards_ck {μ : zM} {x0 : Nat} {x1 : Int32} {x2 : Int32} {z : Int32 × zM} (h : fX12_guards μ x0 x1 x2 = some z) : zm_ck μ 12 x0 = true := (zgd_s h).1
set_option maxHeartbeats 4000000 in
set_option maxRecDepth 100000 in
theorem cX12_guards_ok {μ : zM} {x0 : Nat} {x1 : Int32} {x2 : Int32} {r : Int32} {mo : zM} (hf : fX12_guards μ x0 x1 x2 = some (r, mo)) : zC yX12_guards cX12_guards 5 (some .int) 3 0 0 [.ref x0, .int x1, .int x2] μ (some (.int r)) mo := by
  replace hf := (zgd_s hf).2
  refine zC.of (by decide) (Nat.le_of_ble_eq_true rfl) (fun K hin => ?_)
  clear hin
  show zz K cX12_guards (5, RX12, some .int, 3, 0, 0, some (.int r), mo) 0 0 0 [(0, .ref x0), (1, .int x1), (2, .int x2)] [] μ
  refine zr_aload_n 0 dX12_guards_0 rfl ?_
  refine zr_iconst 0 dX12_guards_1 (by decide) ?_
  replace hf := zb1_s hf
  obtain ⟨m1, h2, hf⟩ := hf
  refine zr_put h2 zk12 (by decide) zl_899 rfl rfl rfl dX12_guards_2 ?_
  refine zr_aload_n 0 dX12_guards_5 rfl ?_
  refine zr_iload_n 1 dX12_guards_6 rfl ?_
  replace hf := zb2_s hf
  obtain ⟨v5, m4, h3, hf⟩ := hf
  refine zr_callV (ci := 12) [.int x1] (cX12_hand_ok h3) zvs_X12_hand zl_1057 zl_1058 (fX12_hand_ck h3) rfl rfl zl_1056 rfl (Nat.le_of_ble_eq_true rfl) (Nat.le_of_ble_eq_true rfl) (Nat.le_of_ble_eq_true rfl) (Nat.le_of_ble_eq_true rfl) dX12_guards_7 rfl ?_
  refine zr_if_eq 22 dX12_guards_10 (by decide) (fun hc => ?_) (fun hc => ?_)
  · rw [if_pos hc] at hf
    refine zr_iconst (-1) dX12_guards_22 (by decide) ?_
    cases hf
    exact zr_iret dX12_guards_23
  · rw [if_neg hc] at hf
    refine zr_iload_n 2 dX12_guards_13 rfl ?_
    refine zr_iconst 0 dX12_guards_14 (by decide) ?_
    refine zr_iconst 2 dX12_guards_15 (by decide) ?_
    replace hf := zb1_s hf
    obtain ⟨v7, h6, hf⟩ := hf
    refine zr_callS [.int x2, .int 0, .int 2] (cX12_in_ok h6) zvs_X12_in zl_898 zl_897 rfl (Nat.le_of_ble_eq_true rfl) (Nat.le_of_ble_eq_true rfl) (Nat.le_of_ble_eq_true rfl) (Nat.le_of_ble_eq_true rfl) dX12_guards_16 rfl ?_
    refine zr_if_ne 24 dX12_guards_19 (by decide) (fun hc => ?_) (fun hc => ?_)
    · rw [if_neg hc] at hf
      refine zr_iconst (-1) dX12_guards_24 (by decide) ?_
      refine zr_istore_n [(3, .int (-1)), (0, .ref x0), (1, .int x1), (2, .int x2)] dX12_guards_25 (Nat.le_of_ble_eq_true rfl) rfl ?_
      refine zr_iconst 0 dX12_guards_26 (by decide) ?_
      refine zr_istore [(4, .int 0), (3, .int (-1)), (0, .ref x0), (1, .int x1), (2, .int x2)] dX12_guards_27 (Nat.le_of_ble_eq_true rfl) rfl ?_
      replace hf := zb1_s hf
      obtain ⟨x3_12, hg, hf⟩ := hf
      have hj13 : zz K cX12_guards (5, RX12, some .int, 3, 0, 0, some (.int r), mo) 0 0 80 [(3, .int x3_12)] [] m4 := by
        refine zr_iload_n 0 dX12_guards_80 rfl ?_
        cases hf
        exact zr_iret dX12_guards_81
      clear hf
      have hf := hg
      clear hg
      have hL24 : ∀ (n : Nat) (x3_8 : Int32) (x4_9 : Int32), zf2 (fX12_guards_l29 m4 x0 x2) n x3_8 x4_9 = some x3_12 → zz K cX12_guards (5, RX12, some .int, 3, 0, 0, some (.int r), mo) 0 0 29 [(0, .ref x0), (2, .int x2), (3, .int x3_8), (4, .int x4_9)] [] m4 := by
        intro n
        induction n with
        | zero => intro x3_8 x4_9 hf; cases hf
        | succ n ih11 =>
          intro x3_8 x4_9 hf
          replace hf := zf2_s hf
          generalize zf2 (fX12_guards_l29 m4 x0 x2) n = F10 at hf ih11
          unfold fX12_guards_l29 at hf
          refine zr_iload 3 dX12_guards_29 rfl ?_
          refine zr_iconst 1 dX12_guards_31 (by decide) ?_
          refine zr_aload_n 0 dX12_guards_32 rfl ?_
          replace hf := zb1_s hf
          obtain ⟨v14, h15, hf⟩ := hf
          refine zr_get (zm_gI_g h15) zk12 (by decide) zl_1032 dX12_guards_33 ?_
          refine zr_ishl dX12_guards_36 ?_
          refine zr_icmp_ge 80 dX12_guards_37 (by decide) (fun hc => ?_) (fun hc => ?_)
          · rw [if_pos hc] at hf
            cases hf
            exact zr_lv [2] rfl hj13
          · rw [if_neg hc] at hf
            refine zr_aload_n 0 dX12_guards_40 rfl ?_
            refine zr_iload 3 dX12_guards_41 rfl ?_
            refine zr_iload_n 1 dX12_guards_43 rfl ?_
            replace hf := zb1_s hf
            obtain ⟨v17, h16, hf⟩ := hf
            refine zr_callV (ci := 12) [.int x4_9, .int x2] (cX12_areGuarded_ok h16) zvs_X12_areGuarded zl_1279 zl_1280 (fX12_areGuarded_ck h16) rfl rfl zl_1278 rfl (Nat.le_of_ble_eq_true rfl) (Nat.le_of_ble_eq_true rfl) (Nat.le_of_ble_eq_true rfl) (Nat.le_of_ble_eq_true rfl) dX12_guards_44 rfl ?_
            replace hf := zb1_s hf
            obtain ⟨s18, hg, hf⟩ := hf
            have hj19 : zz K cX12_guards (5, RX12, some .int, 3, 0, 0, some (.int r), mo) 0 0 73 [(0, .ref x0), (2, .int x2), (4, .int x4_9)] [.int s18] m4 := by
              refine zr_istore_n [(3, .int s18), (0, .ref x0), (2, .int x2), (4, .int x4_9)] dX12_guards_73 (Nat.le_of_ble_eq_true rfl) rfl ?_
              refine zr_iinc (j := 3) (x4_9 + 1) [(4, .int (x4_9 + 1)), (3, .int s18), (0, .ref x0), (2, .int x2)] dX12_guards_74 rfl rfl (Nat.le_of_ble_eq_true rfl) rfl ?_
              refine zr_goto 29 dX12_guards_77 (by decide) ?_
              exact zr_lv [2, 3, 1, 0] rfl (ih11 s18 (x4_9 + 1) hf)
            clear hf
            have hf := hg
            clear hg
            refine zr_if_eq 72 dX12_guards_47 (by decide) (fun hc => ?_) (fun hc => ?_)
            · rw [if_pos hc] at hf
              refine zr_iload_n 2 dX12_guards_72 rfl ?_
              cases hf
              exact zr_lv [0, 1, 3] rfl hj19
            · rw [if_neg hc] at hf
              refine zr_iload_n 2 dX12_guards_50 rfl ?_
              refine zr_iconst (-1) dX12_guards_51 (by decide) ?_
              refine zr_icmp_eq 67 dX12_guards_52 (by decide) (fun hc => ?_) (fun hc => ?_)
              · rw [if_pos hc] at hf
                refine zr_iload 3 dX12_guards_67 rfl ?_
                refine zr_goto 73 dX12_guards_69 (by decide) ?_
                cases hf
                exact zr_lv [0, 1, 3] rfl hj19
              · rw [if_neg hc] at hf
                refine zr_iload 3 dX12_guards_55 rfl ?_
                replace hf := zb1_s hf
                obtain ⟨v21, h20, hf⟩ := hf
                refine zr_callS [.int x4_9] (cX12_ones_ok h20) zvs_X12_ones zl_1283 zl_1282 rfl (Nat.le_of_ble_eq_true rfl) (Nat.le_of_ble_eq_true rfl) (Nat.le_of_ble_eq_true rfl) (Nat.le_of_ble_eq_true rfl) dX12_guards_57 rfl ?_
                refine zr_iload_n 2 dX12_guards_60 rfl ?_
                replace hf := zb1_s hf
                obtain ⟨v23, h22, hf⟩ := hf
                refine zr_callS [.int x3_8] (cX12_ones_ok h22) zvs_X12_ones zl_1283 zl_1282 rfl (Nat.le_of_ble_eq_true rfl) (Nat.le_of_ble_eq_true rfl) (Nat.le_of_ble_eq_true rfl) (Nat.le_of_ble_eq_true rfl) dX12_guards_61 rfl ?_
                refine zr_icmp_ge 72 dX12_guards_64 (by decide) (fun hc => ?_) (fun hc => ?_)
                · rw [if_pos hc] at hf
                  refine zr_iload_n 2 dX12_guards_72 rfl ?_
                  cases hf
                  exact zr_lv [0, 1, 3] rfl hj19
                · rw [if_neg hc] at hf
                  refine zr_iload 3 dX12_guards_67 rfl ?_
                  refine zr_goto 73 dX12_guards_69 (by decide) ?_
                  cases hf
                  exact zr_lv [0, 1, 3] rfl hj19
      exact zr_lv [2, 4, 1, 0] rfl (hL24 _ (-1) 0 hf)
    · rw [if_pos hc] at hf
      refine zr_iconst (-1) dX12_guards_22 (by decide) ?_
      cases hf
      exact zr_iret dX12_guards_23
theorem dX12_together_0 : decode cX12_together 0 = .ok (.iconst 0, 1) := by decide +kernel
theorem dX12_together_1 : decode cX12_together 1 = .ok (.istore_n 2, 1) := by decide +kernel
theorem dX12_together_2 : decode cX12_together 2 = .ok (.iconst 0, 1) := by decide +kernel
theorem dX12_together_3 : decode cX12_together 3 = .ok (.istore_n 3, 1) := by decide +kernel
theorem dX12_together_4 : decode cX12_together 4 = .ok (.iload_n 3, 1) := by decide +kernel
theorem dX12_together_5 : decode cX12_together 5 = .ok (.aload_n 0, 1) := by decide +kernel
theorem dX12_together_6 : decode cX12_together 6 = .ok (.getfield 276, 3) := by decide +kernel
theorem dX12_together_9 : decode cX12_together 9 = .ok (.if_icmp .ge 24, 3) := by decide +kernel
theorem dX12_together_12 : decode cX12_together 12 = .ok (.iload_n 2, 1) := by decide +kernel
theorem dX12_together_13 : decode cX12_together 13 = .ok (.iload_n 1, 1) := by decide +kernel
theorem dX12_together_14 : decode cX12_together 14 = .ok (.aload_n 0, 1) := by decide +kernel
theorem dX12_together_15 : decode cX12_together 15 = .ok (.bipush 33, 2) := by decide +kernel
theorem dX12_together_17 : decode cX12_together 17 = .ok (.iload_n 3, 1) := by decide +kernel
theorem dX12_together_18 : decode cX12_together 18 = .ok (.iadd, 1) := by decide +kernel
theorem dX12_together_19 : decode cX12_together 19 = .ok (.invokevirtual 269, 3) := by decide +kernel
theorem dX12_together_22 : decode cX12_together 22 = .ok (.invokestatic 282, 3) := by decide +kernel
theorem dX12_together_25 : decode cX12_together 25 = .ok (.iadd, 1) := by decide +kernel
theorem dX12_together_26 : decode cX12_together 26 = .ok (.istore_n 2, 1) := by decide +kernel
theorem dX12_together_27 : decode cX12_together 27 = .ok (.iinc 3 1, 3) := by decide +kernel
theorem dX12_together_30 : decode cX12_together 30 = .ok (.goto (-26), 3) := by decide +kernel
theorem dX12_together_33 : decode cX12_together 33 = .ok (.iload_n 2, 1) := by decide +kernel
theorem dX12_together_34 : decode cX12_together 34 = .ok (.ireturn, 1) := by decide +kernel
noncomputable def fX12_together_l4 (μ : zM) (x0 : Nat) (x1 : Int32) (F3 : Int32 → Int32 → Option (Int32)) (x2_1 : Int32) (x3_2 : Int32) : Option (Int32) :=
  zb1 (zm_gI μ 12 x0 25) fun v7 =>
  if v7 ≤ x3_2 then (
  some x2_1)
  else (
  zb1 (fX12_of μ x0 (33 + x3_2)) fun v10 =>
  zb1 (fX12_apart μ x1 v10) fun v12 =>
  F3 (x2_1 + v12) (x3_2 + 1))
noncomputable def fX12_together (μ : zM) (x0 : Nat) (x1 : Int32) : Option (Int32) := zgd (zm_ck μ 12 x0) <|
  zb1 (zf2 (fX12_together_l4 μ x0 x1) zfu 0 0 : Option (Int32)) fun (x2_5 : Int32) =>
  some x2_5
theorem fX12_together_ck {μ : zM} {x0 : Nat} {x1 : Int32} {z : Int32} (h : fX12_together μ x0 x1 = some z) : zm_ck μ 12 x0 = true := (zgd_s h).1
set_option maxHeartbeats 4000000 in
set_option maxRecDepth 100000 in
theorem cX12_together_ok {μ : zM} {x0 : Nat} {x1 : Int32} {r : Int32} (hf : fX12_together μ x0 x1 = some r) : zC yX12_together cX12_together 4 (some .int) 1 0 0 [.ref x0, .int x1] μ (some (.int r)) μ := by
  replace hf := (zgd_s hf).2
  refine zC.of (by decide) (Nat.le_of_ble_eq_true rfl) (fun K hin => ?_)
  clear hin
  show zz K cX12_together (4, RX12, some .int, 1, 0, 0, some (.int r), μ) 0 0 0 [(0, .ref x0), (1, .int x1)] [] μ
  refine zr_iconst 0 dX12_together_0 (by decide) ?_
  refine zr_istore_n [(2, .int 0), (0, .ref x0), (1, .int x1)] dX12_together_1 (Nat.le_of_ble_eq_true rfl) rfl ?_
  refine zr_iconst 0 dX12_together_2 (by decide) ?_
  refine zr_istore_n [(3, .int 0), (2, .int 0), (0, .ref x0), (1, .int x1)] dX12_together_3 (Nat.le_of_ble_eq_true rfl) rfl ?_
  replace hf := zb1_s hf
  obtain ⟨x2_5, hg, hf⟩ := hf
  have hj6 : zz K cX12_together (4, RX12, some .int, 1, 0, 0, some (.int r), μ) 0 0 33 [(2, .int x2_5)] [] μ := by
    refine zr_iload_n 0 dX12_together_33 rfl ?_
    cases hf
    exact zr_iret dX12_together_34
  clear hf
  have hf := hg
  clear hg
  have hL13 : ∀ (n : Nat) (x2_1 : Int32) (x3_2 : Int32), zf2 (fX12_together_l4 μ x0 x1) n x2_1 x3_2 = some x2_5 → zz K cX12_together (4, RX12, some .int, 1, 0, 0, some (.int r), μ) 0 0 4 [(0, .ref x0), (1, .int x1), (2, .int x2_1), (3, .int x3_2)] [] μ := by
    intro n
    induction n with
    | zero => intro x2_1 x3_2 hf; cases hf
    | succ n ih4 =>
      intro x2_1 x3_2 hf
      replace hf := zf2_s hf
      generalize zf2 (fX12_together_l4 μ x0 x1) n = F3 at hf ih4
      unfold fX12_together_l4 at hf
      refine zr_iload_n 3 dX12_together_4 rfl ?_
      refine zr_aload_n 0 dX12_together_5 rfl ?_
      replace hf := zb1_s hf
      obtain ⟨v7, h8, hf⟩ := hf
      refine zr_get (zm_gI_g h8) zk12 (by decide) zl_1032 dX12_together_6 ?_
      refine zr_icmp_ge 33 dX12_together_9 (by decide) (fun hc => ?_) (fun hc => ?_)
      · rw [if_pos hc] at hf
        cases hf
        exact zr_lv [2] rfl hj6
      · rw [if_neg hc] at hf
        refine zr_iload_n 2 dX12_together_12 rfl ?_
        refine zr_iload_n 1 dX12_together_13 rfl ?_
        refine zr_aload_n 0 dX12_together_14 rfl ?_
        refine zr_bipush 33 dX12_together_15 (by decide) ?_
        refine zr_iload_n 3 dX12_together_17 rfl ?_
        refine zr_iadd dX12_together_18 ?_
        replace hf := zb1_s hf
        obtain ⟨v10, h9, hf⟩ := hf
        refine zr_callV (ci := 12) [.int (33 + x3_2)] (cX12_of_ok h9) zvs_X12_of zl_1029 zl_1030 (fX12_of_ck h9) rfl rfl zl_1028 rfl (Nat.le_of_ble_eq_true rfl) (Nat.le_of_ble_eq_true rfl) (Nat.le_of_ble_eq_true rfl) (Nat.le_of_ble_eq_true rfl) dX12_together_19 rfl ?_
        replace hf := zb1_s hf
        obtain ⟨v12, h11, hf⟩ := hf
        refine zr_callS [.int x1, .int v10] (cX12_apart_ok h11) zvs_X12_apart zl_1039 zl_1038 rfl (Nat.le_of_ble_eq_true rfl) (Nat.le_of_ble_eq_true rfl) (Nat.le_of_ble_eq_true rfl) (Nat.le_of_ble_eq_true rfl) dX12_together_22 rfl ?_
        refine zr_iadd dX12_together_25 ?_
        refine zr_istore_n [(2, .int (x2_1 + v12)), (0, .ref x0), (1, .int x1), (3, .int x3_2)] dX12_together_26 (Nat.le_of_ble_eq_true rfl) rfl ?_
        refine zr_iinc (j := 3) (x3_2 + 1) [(3, .int (x3_2 + 1)), (2, .int (x2_1 + v12)), (0, .ref x0), (1, .int x1)] dX12_together_27 rfl rfl (Nat.le_of_ble_eq_true rfl) rfl ?_
        refine zr_goto 4 dX12_together_30 (by decide) ?_
        exact zr_lv [2, 3, 1, 0] rfl (ih4 (x2_1 + v12) (x3_2 + 1) hf)
  exact zr_lv [2, 3, 1, 0] rfl (hL13 _ 0 0 hf)
theorem dX12_furthest_0 : decode cX12_furthest 0 = .ok (.iconst 0, 1) := by decide +kernel
theorem dX12_furthest_1 : decode cX12_furthest 1 = .ok (.istore_n 2, 1) := by decide +kernel
theorem dX12_furthest_2 : decode cX12_furthest 2 = .ok (.iconst 0, 1) := by decide +kernel
theorem dX12_furthest_3 : decode cX12_furthest 3 = .ok (.istore_n 3, 1) := by decide +kernel
theorem dX12_furthest_4 : decode cX12_furthest 4 = .ok (.iload_n 3, 1) := by decide +kernel
theorem dX12_furthest_5 : decode cX12_furthest 5 = .ok (.aload_n 0, 1) := by decide +kernel
theorem dX12_furthest_6 : decode cX12_furthest 6 = .ok (.getfield 276, 3) := by decide +kernel
theorem dX12_furthest_9 : decode cX12_furthest 9 = .ok (.if_icmp .ge 26, 3) := by decide +kernel
theorem dX12_furthest_12 : decode cX12_furthest 12 = .ok (.iload_n 2, 1) := by decide +kernel
theorem dX12_furthest_13 : decode cX12_furthest 13 = .ok (.iload_n 1, 1) := by decide +kernel
theorem dX12_furthest_14 : decode cX12_furthest 14 = .ok (.aload_n 0, 1) := by decide +kernel
theorem dX12_furthest_15 : decode cX12_furthest 15 = .ok (.bipush 33, 2) := by decide +kernel
theorem dX12_furthest_17 : decode cX12_furthest 17 = .ok (.iload_n 3, 1) := by decide +kernel
theorem dX12_furthest_18 : decode cX12_furthest 18 = .ok (.iadd, 1) := by decide +kernel
theorem dX12_furthest_19 : decode cX12_furthest 19 = .ok (.invokevirtual 269, 3) := by decide +kernel
theorem dX12_furthest_22 : decode cX12_furthest 22 = .ok (.invokestatic 282, 3) := by decide +kernel
theorem dX12_furthest_25 : decode cX12_furthest 25 = .ok (.invokestatic 168, 3) := by decide +kernel
theorem dX12_furthest_28 : decode cX12_furthest 28 = .ok (.istore_n 2, 1) := by decide +kernel
theorem dX12_furthest_29 : decode cX12_furthest 29 = .ok (.iinc 3 1, 3) := by decide +kernel
theorem dX12_furthest_32 : decode cX12_furthest 32 = .ok (.goto (-28), 3) := by decide +kernel
theorem dX12_furthest_35 : decode cX12_furthest 35 = .ok (.iload_n 2, 1) := by decide +kernel
theorem dX12_furthest_36 : decode cX12_furthest 36 = .ok (.ireturn, 1) := by decide +kernel
noncomputable def fX12_furthest_l4 (μ : zM) (x0 : Nat) (x1 : Int32) (F3 : Int32 → Int32 → Option (Int32)) (x2_1 : Int32) (x3_2 : Int32) : Option (Int32) :=
  zb1 (zm_gI μ 12 x0 25) fun v7 =>
  if v7 ≤ x3_2 then (
  some x2_1)
  else (
  zb1 (fX12_of μ x0 (33 + x3_2)) fun v10 =>
  zb1 (fX12_apart μ x1 v10) fun v12 =>
  zb1 (fX12_greater μ x2_1 v12) fun v14 =>
  F3 v14 (x3_2 + 1))
noncomputable def fX12_furthest (μ : zM) (x0 : Nat) (x1 : Int32) : Option (Int32) := zgd (zm_ck μ 12 x0) <|
  zb1 (zf2 (fX12_furthest_l4 μ x0 x1) zfu 0 0 : Option (Int32)) fun (x2_5 : Int32) =>
  some x2_5
theorem fX12_furthest_ck {μ : zM} {x0 : Nat} {x1 : Int32} {z : Int32} (h : fX12_furthest μ x0 x1 = some z) : zm_ck μ 12 x0 = true := (zgd_s h).1
set_option maxHeartbeats 4000000 in
set_option maxRecDepth 100000 in
theorem cX12_furthest_ok {μ : zM} {x0 : Nat} {x1 : Int32} {r : Int32} (hf : fX12_furthest μ x0 x1 = some r) : zC yX12_furthest cX12_furthest 4 (some .int) 1 0 0 [.ref x0, .int x1] μ (some (.int r)) μ := by
  replace hf := (zgd_s hf).2
  refine zC.of (by decide) (Nat.le_of_ble_eq_true rfl) (fun K hin => ?_)
  clear hin
  show zz K cX12_furthest (4, RX12, some .int, 1, 0, 0, some (.int r), μ) 0 0 0 [(0, .ref x0), (1, .int x1)] [] μ
  refine zr_iconst 0 dX12_furthest_0 (by decide) ?_
  refine zr_istore_n [(2, .int 0), (0, .ref x0), (1, .int x1)] dX12_furthest_1 (Nat.le_of_ble_eq_true rfl) rfl ?_
  refine zr_iconst 0 dX12_furthest_2 (by decide) ?_
  refine zr_istore_n [(3, .int 0), (2, .int 0), (0, .ref x0), (1, .int x1)] dX12_furthest_3 (Nat.le_of_ble_eq_true rfl) rfl ?_
  replace hf := zb1_s hf
  obtain ⟨x2_5, hg, hf⟩ := hf
  have hj6 : zz K cX12_furthest (4, RX12, some .int, 1, 0, 0, some (.int r), μ) 0 0 35 [(2, .int x2_5)] [] μ := by
    refine zr_iload_n 0 dX12_furthest_35 rfl ?_
    cases hf
    exact zr_iret dX12_furthest_36
  clear hf
  have hf := hg
  clear hg
  have hL15 : ∀ (n : Nat) (x2_1 : Int32) (x3_2 : Int32), zf2 (fX12_furthest_l4 μ x0 x1) n x2_1 x3_2 = some x2_5 → zz K cX12_furthest (4, RX12, some .int, 1, 0, 0, some (.int r), μ) 0 0 4 [(0, .ref x0), (1, .int x1), (2, .int x2_1), (3, .int x3_2)] [] μ := by
    intro n
    induction n with
    | zero => intro x2_1 x3_2 hf; cases hf
    | succ n ih4 =>
      intro x2_1 x3_2 hf
      replace hf := zf2_s hf
      generalize zf2 (fX12_furthest_l4 μ x0 x1) n = F3 at hf ih4
      unfold fX12_furthest_l4 at hf
      refine zr_iload_n 3 dX12_furthest_4 rfl ?_
      refine zr_aload_n 0 dX12_furthest_5 rfl ?_
      replace hf := zb1_s hf
      obtain ⟨v7, h8, hf⟩ := hf
      refine zr_get (zm_gI_g h8) zk12 (by decide) zl_1032 dX12_furthest_6 ?_
      refine zr_icmp_ge 35 dX12_furthest_9 (by decide) (fun hc => ?_) (fun hc => ?_)
      · rw [if_pos hc] at hf
        cases hf
        exact zr_lv [2] rfl hj6
      · rw [if_neg hc] at hf
        refine zr_iload_n 2 dX12_furthest_12 rfl ?_
        refine zr_iload_n 1 dX12_furthest_13 rfl ?_
        refine zr_aload_n 0 dX12_furthest_14 rfl ?_
        refine zr_bipush 33 dX12_furthest_15 (by decide) ?_
        refine zr_iload_n 3 dX12_furthest_17 rfl ?_
        refine zr_iadd dX12_furthest_18 ?_
        replace hf := zb1_s hf
        obtain ⟨v10, h9, hf⟩ := hf
        refine zr_callV (ci := 12) [.int (33 + x3_2)] (cX12_of_ok h9) zvs_X12_of zl_1029 zl_1030 (fX12_of_ck h9) rfl rfl zl_1028 rfl (Nat.le_of_ble_eq_true rfl) (Nat.le_of_ble_eq_true rfl) (Nat.le_of_ble_eq_true rfl) (Nat.le_of_ble_eq_true rfl) dX12_furthest_19 rfl ?_
        replace hf := zb1_s hf
        obtain ⟨v12, h11, hf⟩ := hf
        refine zr_callS [.int x1, .int v10] (cX12_apart_ok h11) zvs_X12_apart zl_1039 zl_1038 rfl (Nat.le_of_ble_eq_true rfl) (Nat.le_of_ble_eq_true rfl) (Nat.le_of_ble_eq_true rfl) (Nat.le_of_ble_eq_true rfl) dX12_furthest_22 rfl ?_
        replace hf := zb1_s hf
        obtain ⟨v14, h13, hf⟩ := hf
        refine zr_callS [.int x2_1, .int v12] (cX12_greater_ok h13) zvs_X12_greater zl_940 zl_939 rfl (Nat.le_of_ble_eq_true rfl) (Nat.le_of_ble_eq_true rfl) (Nat.le_of_ble_eq_true rfl) (Nat.le_of_ble_eq_true rfl) dX12_furthest_25 rfl ?_
        refine zr_istore_n [(2, .int v14), (0, .ref x0), (1, .int x1), (3, .int x3_2)] dX12_furthest_28 (Nat.le_of_ble_eq_true rfl) rfl ?_
        refine zr_iinc (j := 3) (x3_2 + 1) [(3, .int (x3_2 + 1)), (2, .int v14), (0, .ref x0), (1, .int x1)] dX12_furthest_29 rfl rfl (Nat.le_of_ble_eq_true rfl) rfl ?_
        refine zr_goto 4 dX12_furthest_32 (by decide) ?_
        exact zr_lv [2, 3, 1, 0] rfl (ih4 v14 (x3_2 + 1) hf)
  exact zr_lv [2, 3, 1, 0] rfl (hL15 _ 0 0 hf)
theorem zl_1284 : Cond.code yX12_together cX12_together 4 (some .int) ∈ zt := zt_at 1981 (by decide +kernel)
theorem zvs_X12_together : zvS yX12_together cX12_together 4 (some .int) 1 := ⟨zl_1284, zl_893, ⟨by decide +kernel, by decide +kernel, by decide +kernel⟩, by decide⟩
theorem zl_1285 : Cond.methodLink RX12 508 yX12_together ∈ zt := zt_at 1978 (by decide +kernel)
theorem zl_1286 : Cond.instanceMethod yX12_together ∈ zt := zt_at 1980 (by decide +kernel)
theorem zl_1287 : Cond.selects RX12 yX12_together yX12_together ∈ zt := zt_at 122 (by decide +kernel)
theorem zl_1288 : Cond.code yX12_furthest cX12_furthest 4 (some .int) ∈ zt := zt_at 1985 (by decide +kernel)
theorem zvs_X12_furthest : zvS yX12_furthest cX12_furthest 4 (some .int) 1 := ⟨zl_1288, zl_893, ⟨by decide +kernel, by decide +kernel, by decide +kernel⟩, by decide⟩
theorem zl_1289 : Cond.methodLink RX12 511 yX12_furthest ∈ zt := zt_at 1982 (by decide +kernel)
theorem zl_1290 : Cond.instanceMethod yX12_furthest ∈ zt := zt_at 1984 (by decide +kernel)
theorem zl_1291 : Cond.selects RX12 yX12_furthest yX12_furthest ∈ zt := zt_at 123 (by decide +kernel)
theorem dX12_middle_0 : decode cX12_middle 0 = .ok (.aload_n 0, 1) := by decide +kernel
theorem dX12_middle_1 : decode cX12_middle 1 = .ok (.iconst 0, 1) := by decide +kernel
theorem dX12_middle_2 : decode cX12_middle 2 = .ok (.putfield 93, 3) := by decide +kernel
theorem dX12_middle_5 : decode cX12_middle 5 = .ok (.aload_n 0, 1) := by decide +kernel
theorem dX12_middle_6 : decode cX12_middle 6 = .ok (.iload_n 1, 1) := by decide +kernel
theorem dX12_middle_7 : decode cX12_middle 7 = .ok (.invokevirtual 298, 3) := by decide +kernel
theorem dX12_middle_10 : decode cX12_middle 10 = .ok (.ifCond .eq 12, 3) := by decide +kernel
theorem dX12_middle_13 : decode cX12_middle 13 = .ok (.iload_n 2, 1) := by decide +kernel
theorem dX12_middle_14 : decode cX12_middle 14 = .ok (.iconst 0, 1) := by decide +kernel
theorem dX12_middle_15 : decode cX12_middle 15 = .ok (.iconst 3, 1) := by decide +kernel
theorem dX12_middle_16 : decode cX12_middle 16 = .ok (.invokestatic 101, 3) := by decide +kernel
theorem dX12_middle_19 : decode cX12_middle 19 = .ok (.ifCond .ne 5, 3) := by decide +kernel
theorem dX12_middle_22 : decode cX12_middle 22 = .ok (.iconst (-1), 1) := by decide +kernel
theorem dX12_middle_23 : decode cX12_middle 23 = .ok (.ireturn, 1) := by decide +kernel
theorem dX12_middle_24 : decode cX12_middle 24 = .ok (.iconst 0, 1) := by decide +kernel
theorem dX12_middle_25 : decode cX12_middle 25 = .ok (.istore_n 3, 1) := by decide +kernel
theorem dX12_middle_26 : decode cX12_middle 26 = .ok (.iconst 0, 1) := by decide +kernel
theorem dX12_middle_27 : decode cX12_middle 27 = .ok (.istore 4, 2) := by decide +kernel
theorem dX12_middle_29 : decode cX12_middle 29 = .ok (.iconst 1, 1) := by decide +kernel
theorem dX12_middle_30 : decode cX12_middle 30 = .ok (.istore 5, 2) := by decide +kernel
theorem dX12_middle_32 : decode cX12_middle 32 = .ok (.iload 5, 2) := by decide +kernel
theorem dX12_middle_34 : decode cX12_middle 34 = .ok (.aload_n 0, 1) := by decide +kernel
theorem dX12_middle_35 : decode cX12_middle 35 = .ok (.getfield 273, 3) := by decide +kernel
theorem dX12_middle_38 : decode cX12_middle 38 = .ok (.if_icmp .gt 54, 3) := by decide +kernel
theorem dX12_middle_41 : decode cX12_middle 41 = .ok (.aload_n 0, 1) := by decide +kernel
theorem dX12_middle_42 : decode cX12_middle 42 = .ok (.iload 5, 2) := by decide +kernel
theorem dX12_middle_44 : decode cX12_middle 44 = .ok (.invokevirtual 508, 3) := by decide +kernel
theorem dX12_middle_47 : decode cX12_middle 47 = .ok (.aload_n 0, 1) := by decide +kernel
theorem dX12_middle_48 : decode cX12_middle 48 = .ok (.iload_n 3, 1) := by decide +kernel
theorem dX12_middle_49 : decode cX12_middle 49 = .ok (.invokevirtual 508, 3) := by decide +kernel
theorem dX12_middle_52 : decode cX12_middle 52 = .ok (.if_icmp .ge 8, 3) := by decide +kernel
theorem dX12_middle_55 : decode cX12_middle 55 = .ok (.iload 5, 2) := by decide +kernel
theorem dX12_middle_57 : decode cX12_middle 57 = .ok (.goto 4, 3) := by decide +kernel
theorem dX12_middle_60 : decode cX12_middle 60 = .ok (.iload_n 3, 1) := by decide +kernel
theorem dX12_middle_61 : decode cX12_middle 61 = .ok (.istore_n 3, 1) := by decide +kernel
theorem dX12_middle_62 : decode cX12_middle 62 = .ok (.aload_n 0, 1) := by decide +kernel
theorem dX12_middle_63 : decode cX12_middle 63 = .ok (.iload 5, 2) := by decide +kernel
theorem dX12_middle_65 : decode cX12_middle 65 = .ok (.invokevirtual 511, 3) := by decide +kernel
theorem dX12_middle_68 : decode cX12_middle 68 = .ok (.aload_n 0, 1) := by decide +kernel
theorem dX12_middle_69 : decode cX12_middle 69 = .ok (.iload 4, 2) := by decide +kernel
theorem dX12_middle_71 : decode cX12_middle 71 = .ok (.invokevirtual 511, 3) := by decide +kernel
theorem dX12_middle_74 : decode cX12_middle 74 = .ok (.if_icmp .ge 8, 3) := by decide +kernel
theorem dX12_middle_77 : decode cX12_middle 77 = .ok (.iload 5, 2) := by decide +kernel
theorem dX12_middle_79 : decode cX12_middle 79 = .ok (.goto 5, 3) := by decide +kernel
theorem dX12_middle_82 : decode cX12_middle 82 = .ok (.iload 4, 2) := by decide +kernel
theorem dX12_middle_84 : decode cX12_middle 84 = .ok (.istore 4, 2) := by decide +kernel
theorem dX12_middle_86 : decode cX12_middle 86 = .ok (.iinc 5 1, 3) := by decide +kernel
theorem dX12_middle_89 : decode cX12_middle 89 = .ok (.goto (-57), 3) := by decide +kernel
theorem dX12_middle_92 : decode cX12_middle 92 = .ok (.iload_n 2, 1) := by decide +kernel
theorem dX12_middle_93 : decode cX12_middle 93 = .ok (.ifCond .ne 7, 3) := by decide +kernel
theorem dX12_middle_96 : decode cX12_middle 96 = .ok (.iload_n 3, 1) := by decide +kernel
theorem dX12_middle_97 : decode cX12_middle 97 = .ok (.goto 32, 3) := by decide +kernel
theorem dX12_middle_100 : decode cX12_middle 100 = .ok (.iload_n 2, 1) := by decide +kernel
theorem dX12_middle_101 : decode cX12_middle 101 = .ok (.iconst 1, 1) := by decide +kernel
theorem dX12_middle_102 : decode cX12_middle 102 = .ok (.if_icmp .ne 11, 3) := by decide +kernel
theorem dX12_middle_105 : decode cX12_middle 105 = .ok (.aload_n 0, 1) := by decide +kernel
theorem dX12_middle_106 : decode cX12_middle 106 = .ok (.iload_n 3, 1) := by decide +kernel
theorem dX12_middle_107 : decode cX12_middle 107 = .ok (.invokevirtual 508, 3) := by decide +kernel
theorem dX12_middle_110 : decode cX12_middle 110 = .ok (.goto 19, 3) := by decide +kernel
theorem dX12_middle_113 : decode cX12_middle 113 = .ok (.iload_n 2, 1) := by decide +kernel
theorem dX12_middle_114 : decode cX12_middle 114 = .ok (.iconst 2, 1) := by decide +kernel
theorem dX12_middle_115 : decode cX12_middle 115 = .ok (.if_icmp .ne 8, 3) := by decide +kernel
theorem dX12_middle_118 : decode cX12_middle 118 = .ok (.iload 4, 2) := by decide +kernel
theorem dX12_middle_120 : decode cX12_middle 120 = .ok (.goto 9, 3) := by decide +kernel
theorem dX12_middle_123 : decode cX12_middle 123 = .ok (.aload_n 0, 1) := by decide +kernel
theorem dX12_middle_124 : decode cX12_middle 124 = .ok (.iload 4, 2) := by decide +kernel
theorem dX12_middle_126 : decode cX12_middle 126 = .ok (.invokevirtual 511, 3) := by decide +kernel
theorem dX12_middle_129 : decode cX12_middle 129 = .ok (.ireturn, 1) := by decide +kernel
noncomputable def fX12_middle_l32 (m4 : zM) (x0 : Nat) (F11 : Int32 → Int32 → Int32 → Option (Int32 × Int32)) (x3_8 : Int32) (x4_9 : Int32) (x5_10 : Int32) : Option (Int32 × Int32) :=
  zb1 (zm_gI m4 12 x0 24) fun v16 =>
  if v16 < x5_10 then (
  some (x3_8, x4_9))
  else (
  zb1 (fX12_together m4 x0 x5_10) fun v19 =>
  zb1 (fX12_together m4 x0 x3_8) fun v21 =>
  zb1 (if v21 ≤ v19 then (
  some x3_8)
  else (
  some x5_10) : Option (Int32)) fun (s22 : Int32) =>
  zb1 (fX12_furthest m4 x0 x5_10) fun v25 =>
  zb1 (fX12_furthest m4 x0 x4_9) fun v27 =>
  zb1 (if v27 ≤ v25 then (
  some x4_9)
  else (
  some x5_10) : Option (Int32)) fun (s28 : Int32) =>
  F11 s22 s28 (x5_10 + 1))
noncomputable def fX12_middle (μ : zM) (x0 : Nat) (x1 : Int32) (x2 : Int32) : Option (Int32 × zM) := zgd (zm_ck μ 12 x0) <|
  zb1 (zm_p μ 12 x0 0 (.int 0)) fun m1 =>
  zb2 (fX12_hand m1 x0 x1) fun v5 m4 =>
  if v5 = 0 then (
  some ((-1), m4))
  else (
  zb1 (fX12_in m4 x2 0 3) fun v7 =>
  if v7 = 0 then (
  some ((-1), m4))
  else (
  zb2 (zf3 (fX12_middle_l32 m4 x0) zfu 0 0 1 : Option (Int32 × Int32)) fun (x3_13 : Int32) (x4_14 : Int32) =>
  zb1 (if x2 = 0 then (
  some x3_13)
  else (
  if x2 = 1 then (
  zb1 (fX12_together m4 x0 x3_13) fun v36 =>
  some v36)
  else (
  if x2 = 2 then (
  some x4_14)
  else (
  zb1 (fX12_furthest m4 x0 x4_14) fun v34 =>
  some v34))) : Option (Int32)) fun (s31 : Int32) =>
  some (s31, m4)))
theorem fX12_middle_ck {μ : zM} {x0 : Nat} {x1 : Int32} {x2 : Int32} {z : Int32 × zM} (h : fX12_middle μ x0 x1 x2 = some z) : zm_ck μ 12 x0 = true := (zgd_s h).1
set_option maxHeartbeats 4000000 in
set_option maxRecDepth 100000 in
theorem cX12_middle_ok {μ : zM} {x0 : Nat} {x1 : Int32} {x2 : Int32} {r : Int32} {mo : zM} (hf : fX12_middle μ x0 x1 x2 = some (r, mo)) : zC yX12_middle cX12_middle 6 (some .int) 3 0 0 [.ref x0, .int x1, .int x2] μ (some (.int r)) mo := by
  replace hf := (zgd_s hf).2
  refine zC.of (by decide) (Nat.le_of_ble_eq_true rfl) (fun K hin => ?_)
  clear hin
  show zz K cX12_middle (6, RX12, some .int, 3, 0, 0, some (.int r), mo) 0 0 0 [(0, .ref x0), (1, .int x1), (2, .int x2)] [] μ
  refine zr_aload_n 0 dX12_middle_0 rfl ?_
  refine zr_iconst 0 dX12_middle_1 (by decide) ?_
  replace hf := zb1_s hf
  obtain ⟨m1, h2, hf⟩ := hf
  refine zr_put h2 zk12 (by decide) zl_899 rfl rfl rfl dX12_middle_2 ?_
  refine zr_aload_n 0 dX12_middle_5 rfl ?_
  refine zr_iload_n 1 dX12_middle_6 rfl ?_
  replace hf := zb2_s hf
  obtain ⟨v5, m4, h3, hf⟩ := hf
  refine zr_callV (ci := 12) [.int x1] (cX12_hand_ok h3) zvs_X12_hand zl_1057 zl_1058 (fX12_hand_ck h3) rfl rfl zl_1056 rfl (Nat.le_of_ble_eq_true rfl) (Nat.le_of_ble_eq_true rfl) (Nat.le_of_ble_eq_true rfl) (Nat.le_of_ble_eq_true rfl) dX12_middle_7 rfl ?_
  refine zr_if_eq 22 dX12_middle_10 (by decide) (fun hc => ?_) (fun hc => ?_)
  · rw [if_pos hc] at hf
    refine zr_iconst (-1) dX12_middle_22 (by decide) ?_
    cases hf
    exact zr_iret dX12_middle_23
  · rw [if_neg hc] at hf
    refine zr_iload_n 2 dX12_middle_13 rfl ?_
    refine zr_iconst 0 dX12_middle_14 (by decide) ?_
    refine zr_iconst 3 dX12_middle_15 (by decide) ?_
    replace hf := zb1_s hf
    obtain ⟨v7, h6, hf⟩ := hf
    refine zr_callS [.int x2, .int 0, .int 3] (cX12_in_ok h6) zvs_X12_in zl_898 zl_897 rfl (Nat.le_of_ble_eq_true rfl) (Nat.le_of_ble_eq_true rfl) (Nat.le_of_ble_eq_true rfl) (Nat.le_of_ble_eq_true rfl) dX12_middle_16 rfl ?_
    refine zr_if_ne 24 dX12_middle_19 (by decide) (fun hc => ?_) (fun hc => ?_)
    · rw [if_neg hc] at hf
      refine zr_iconst 0 dX12_middle_24 (by decide) ?_
      refine zr_istore_n [(3, .int 0), (0, .ref x0), (1, .int x1), (2, .int x2)] dX12_middle_25 (Nat.le_of_ble_eq_true rfl) rfl ?_
      refine zr_iconst 0 dX12_middle_26 (by decide) ?_
      refine zr_istore [(4, .int 0), (3, .int 0), (0, .ref x0), (1, .int x1), (2, .int x2)] dX12_middle_27 (Nat.le_of_ble_eq_true rfl) rfl ?_
      refine zr_iconst 1 dX12_middle_29 (by decide) ?_
      refine zr_istore [(5, .int 1), (4, .int 0), (3, .int 0), (0, .ref x0), (1, .int x1), (2, .int x2)] dX12_middle_30 (Nat.le_of_ble_eq_true rfl) rfl ?_
      replace hf := zb2_s hf
      obtain ⟨x3_13, x4_14, hg, hf⟩ := hf
      have hj15 : zz K cX12_middle (6, RX12, some .int, 3, 0, 0, some (.int r), mo) 0 0 92 [(0, .ref x0), (2, .int x2), (3, .int x3_13), (4, .int x4_14)] [] m4 := by
        refine zr_iload_n 1 dX12_middle_92 rfl ?_
        replace hf := zb1_s hf
        obtain ⟨s31, hg, hf⟩ := hf
        have hj32 : zz K cX12_middle (6, RX12, some .int, 3, 0, 0, some (.int r), mo) 0 0 129 [] [.int s31] m4 := by
          cases hf
          exact zr_iret dX12_middle_129
        clear hf
        have hf := hg
        clear hg
        refine zr_if_ne 100 dX12_middle_93 (by decide) (fun hc => ?_) (fun hc => ?_)
        · rw [if_neg hc] at hf
          refine zr_iload_n 1 dX12_middle_100 rfl ?_
          refine zr_iconst 1 dX12_middle_101 (by decide) ?_
          refine zr_icmp_ne 113 dX12_middle_102 (by decide) (fun hc => ?_) (fun hc => ?_)
          · rw [if_neg hc] at hf
            refine zr_iload_n 1 dX12_middle_113 rfl ?_
            refine zr_iconst 2 dX12_middle_114 (by decide) ?_
            refine zr_icmp_ne 123 dX12_middle_115 (by decide) (fun hc => ?_) (fun hc => ?_)
            · rw [if_neg hc] at hf
              refine zr_aload_n 0 dX12_middle_123 rfl ?_
              refine zr_iload 3 dX12_middle_124 rfl ?_
              replace hf := zb1_s hf
              obtain ⟨v34, h33, hf⟩ := hf
              refine zr_callV (ci := 12) [.int x4_14] (cX12_furthest_ok h33) zvs_X12_furthest zl_1290 zl_1291 (fX12_furthest_ck h33) rfl rfl zl_1289 rfl (Nat.le_of_ble_eq_true rfl) (Nat.le_of_ble_eq_true rfl) (Nat.le_of_ble_eq_true rfl) (Nat.le_of_ble_eq_true rfl) dX12_middle_126 rfl ?_
              cases hf
              exact zr_lv [] rfl hj32
            · rw [if_pos hc] at hf
              refine zr_iload 3 dX12_middle_118 rfl ?_
              refine zr_goto 129 dX12_middle_120 (by decide) ?_
              cases hf
              exact zr_lv [] rfl hj32
          · rw [if_pos hc] at hf
            refine zr_aload_n 0 dX12_middle_105 rfl ?_
            refine zr_iload_n 2 dX12_middle_106 rfl ?_
            replace hf := zb1_s hf
            obtain ⟨v36, h35, hf⟩ := hf
            refine zr_callV (ci := 12) [.int x3_13] (cX12_together_ok h35) zvs_X12_together zl_1286 zl_1287 (fX12_together_ck h35) rfl rfl zl_1285 rfl (Nat.le_of_ble_eq_true rfl) (Nat.le_of_ble_eq_true rfl) (Nat.le_of_ble_eq_true rfl) (Nat.le_of_ble_eq_true rfl) dX12_middle_107 rfl ?_
            refine zr_goto 129 dX12_middle_110 (by decide) ?_
            cases hf
            exact zr_lv [] rfl hj32
        · rw [if_pos hc] at hf
          refine zr_iload_n 2 dX12_middle_96 rfl ?_
          refine zr_goto 129 dX12_middle_97 (by decide) ?_
          cases hf
          exact zr_lv [] rfl hj32
      clear hf
      have hf := hg
      clear hg
      have hL30 : ∀ (n : Nat) (x3_8 : Int32) (x4_9 : Int32) (x5_10 : Int32), zf3 (fX12_middle_l32 m4 x0) n x3_8 x4_9 x5_10 = some (x3_13, x4_14) → zz K cX12_middle (6, RX12, some .int, 3, 0, 0, some (.int r), mo) 0 0 32 [(0, .ref x0), (2, .int x2), (3, .int x3_8), (4, .int x4_9), (5, .int x5_10)] [] m4 := by
        intro n
        induction n with
        | zero => intro x3_8 x4_9 x5_10 hf; cases hf
        | succ n ih12 =>
          intro x3_8 x4_9 x5_10 hf
          replace hf := zf3_s hf
          generalize zf3 (fX12_middle_l32 m4 x0) n = F11 at hf ih12
          unfold fX12_middle_l32 at hf
          refine zr_iload 4 dX12_middle_32 rfl ?_
          refine zr_aload_n 0 dX12_middle_34 rfl ?_
          replace hf := zb1_s hf
          obtain ⟨v16, h17, hf⟩ := hf
          refine zr_get (zm_gI_g h17) zk12 (by decide) zl_1031 dX12_middle_35 ?_
          refine zr_icmp_gt 92 dX12_middle_38 (by decide) (fun hc => ?_) (fun hc => ?_)
          · rw [if_pos hc] at hf
            cases hf
            exact zr_lv [0, 1, 2, 3] rfl hj15
          · rw [if_neg hc] at hf
            refine zr_aload_n 0 dX12_middle_41 rfl ?_
            refine zr_iload 4 dX12_middle_42 rfl ?_
            replace hf := zb1_s hf
            obtain ⟨v19, h18, hf⟩ := hf
            refine zr_callV (ci := 12) [.int x5_10] (cX12_together_ok h18) zvs_X12_together zl_1286 zl_1287 (fX12_together_ck h18) rfl rfl zl_1285 rfl (Nat.le_of_ble_eq_true rfl) (Nat.le_of_ble_eq_true rfl) (Nat.le_of_ble_eq_true rfl) (Nat.le_of_ble_eq_true rfl) dX12_middle_44 rfl ?_
            refine zr_aload_n 0 dX12_middle_47 rfl ?_
            refine zr_iload_n 2 dX12_middle_48 rfl ?_
            replace hf := zb1_s hf
            obtain ⟨v21, h20, hf⟩ := hf
            refine zr_callV (ci := 12) [.int x3_8] (cX12_together_ok h20) zvs_X12_together zl_1286 zl_1287 (fX12_together_ck h20) rfl rfl zl_1285 rfl (Nat.le_of_ble_eq_true rfl) (Nat.le_of_ble_eq_true rfl) (Nat.le_of_ble_eq_true rfl) (Nat.le_of_ble_eq_true rfl) dX12_middle_49 rfl ?_
            replace hf := zb1_s hf
            obtain ⟨s22, hg, hf⟩ := hf
            have hj23 : zz K cX12_middle (6, RX12, some .int, 3, 0, 0, some (.int r), mo) 0 0 61 [(0, .ref x0), (2, .int x2), (4, .int x4_9), (5, .int x5_10)] [.int s22] m4 := by
              refine zr_istore_n [(3, .int s22), (0, .ref x0), (2, .int x2), (4, .int x4_9), (5, .int x5_10)] dX12_middle_61 (Nat.le_of_ble_eq_true rfl) rfl ?_
              refine zr_aload_n 1 dX12_middle_62 rfl ?_
              refine zr_iload 4 dX12_middle_63 rfl ?_
              replace hf := zb1_s hf
              obtain ⟨v25, h24, hf⟩ := hf
              refine zr_callV (ci := 12) [.int x5_10] (cX12_furthest_ok h24) zvs_X12_furthest zl_1290 zl_1291 (fX12_furthest_ck h24) rfl rfl zl_1289 rfl (Nat.le_of_ble_eq_true rfl) (Nat.le_of_ble_eq_true rfl) (Nat.le_of_ble_eq_true rfl) (Nat.le_of_ble_eq_true rfl) dX12_middle_65 rfl ?_
              refine zr_aload_n 1 dX12_middle_68 rfl ?_
              refine zr_iload 3 dX12_middle_69 rfl ?_
              replace hf := zb1_s hf
              obtain ⟨v27, h26, hf⟩ := hf
              refine zr_callV (ci := 12) [.int x4_9] (cX12_furthest_ok h26) zvs_X12_furthest zl_1290 zl_1291 (fX12_furthest_ck h26) rfl rfl zl_1289 rfl (Nat.le_of_ble_eq_true rfl) (Nat.le_of_ble_eq_true rfl) (Nat.le_of_ble_eq_true rfl) (Nat.le_of_ble_eq_true rfl) dX12_middle_71 rfl ?_
              replace hf := zb1_s hf
              obtain ⟨s28, hg, hf⟩ := hf
              have hj29 : zz K cX12_middle (6, RX12, some .int, 3, 0, 0, some (.int r), mo) 0 0 84 [(0, .ref x0), (2, .int x2), (3, .int s22), (5, .int x5_10)] [.int s28] m4 := by
                refine zr_istore [(4, .int s28), (0, .ref x0), (2, .int x2), (3, .int s22), (5, .int x5_10)] dX12_middle_84 (Nat.le_of_ble_eq_true rfl) rfl ?_
                refine zr_iinc (j := 4) (x5_10 + 1) [(5, .int (x5_10 + 1)), (4, .int s28), (0, .ref x0), (2, .int x2), (3, .int s22)] dX12_middle_86 rfl rfl (Nat.le_of_ble_eq_true rfl) rfl ?_
                refine zr_goto 32 dX12_middle_89 (by decide) ?_
                exact zr_lv [2, 3, 4, 1, 0] rfl (ih12 s22 s28 (x5_10 + 1) hf)
              clear hf
              have hf := hg
              clear hg
              refine zr_icmp_ge 82 dX12_middle_74 (by decide) (fun hc => ?_) (fun hc => ?_)
              · rw [if_pos hc] at hf
                refine zr_iload 3 dX12_middle_82 rfl ?_
                cases hf
                exact zr_lv [1, 2, 0, 4] rfl hj29
              · rw [if_neg hc] at hf
                refine zr_iload 4 dX12_middle_77 rfl ?_
                refine zr_goto 84 dX12_middle_79 (by decide) ?_
                cases hf
                exact zr_lv [1, 2, 0, 4] rfl hj29
            clear hf
            have hf := hg
            clear hg
            refine zr_icmp_ge 60 dX12_middle_52 (by decide) (fun hc => ?_) (fun hc => ?_)
            · rw [if_pos hc] at hf
              refine zr_iload_n 2 dX12_middle_60 rfl ?_
              cases hf
              exact zr_lv [0, 1, 3, 4] rfl hj23
            · rw [if_neg hc] at hf
              refine zr_iload 4 dX12_middle_55 rfl ?_
              refine zr_goto 61 dX12_middle_57 (by decide) ?_
              cases hf
              exact zr_lv [0, 1, 3, 4] rfl hj23
      exact zr_lv [3, 5, 2, 1, 0] rfl (hL30 _ 0 0 1 hf)
    · rw [if_pos hc] at hf
      refine zr_iconst (-1) dX12_middle_22 (by decide) ?_
      cases hf
      exact zr_iret dX12_middle_23
theorem dX12_auction_0 : decode cX12_auction 0 = .ok (.aload_n 0, 1) := by decide +kernel
theorem dX12_auction_1 : decode cX12_auction 1 = .ok (.iconst 0, 1) := by decide +kernel
theorem dX12_auction_2 : decode cX12_auction 2 = .ok (.putfield 93, 3) := by decide +kernel
theorem dX12_auction_5 : decode cX12_auction 5 = .ok (.aload_n 0, 1) := by decide +kernel
theorem dX12_auction_6 : decode cX12_auction 6 = .ok (.iload_n 1, 1) := by decide +kernel
theorem dX12_auction_7 : decode cX12_auction 7 = .ok (.invokevirtual 298, 3) := by decide +kernel
theorem dX12_auction_10 : decode cX12_auction 10 = .ok (.ifCond .eq 12, 3) := by decide +kernel
theorem dX12_auction_13 : decode cX12_auction 13 = .ok (.aload_n 0, 1) := by decide +kernel
theorem dX12_auction_14 : decode cX12_auction 14 = .ok (.iload_n 2, 1) := by decide +kernel
theorem dX12_auction_15 : decode cX12_auction 15 = .ok (.iconst 0, 1) := by decide +kernel
theorem dX12_auction_16 : decode cX12_auction 16 = .ok (.invokevirtual 391, 3) := by decide +kernel
theorem dX12_auction_19 : decode cX12_auction 19 = .ok (.ifCond .ne 5, 3) := by decide +kernel
theorem dX12_auction_22 : decode cX12_auction 22 = .ok (.iconst (-1), 1) := by decide +kernel
theorem dX12_auction_23 : decode cX12_auction 23 = .ok (.ireturn, 1) := by decide +kernel
theorem dX12_auction_24 : decode cX12_auction 24 = .ok (.iconst (-1), 1) := by decide +kernel
theorem dX12_auction_25 : decode cX12_auction 25 = .ok (.istore 4, 2) := by decide +kernel
theorem dX12_auction_27 : decode cX12_auction 27 = .ok (.iconst 0, 1) := by decide +kernel
theorem dX12_auction_28 : decode cX12_auction 28 = .ok (.istore 5, 2) := by decide +kernel
theorem dX12_auction_30 : decode cX12_auction 30 = .ok (.iload 5, 2) := by decide +kernel
theorem dX12_auction_32 : decode cX12_auction 32 = .ok (.aload_n 0, 1) := by decide +kernel
theorem dX12_auction_33 : decode cX12_auction 33 = .ok (.getfield 276, 3) := by decide +kernel
theorem dX12_auction_36 : decode cX12_auction 36 = .ok (.if_icmp .ge 55, 3) := by decide +kernel
theorem dX12_auction_39 : decode cX12_auction 39 = .ok (.aload_n 0, 1) := by decide +kernel
theorem dX12_auction_40 : decode cX12_auction 40 = .ok (.iload 5, 2) := by decide +kernel
theorem dX12_auction_42 : decode cX12_auction 42 = .ok (.iconst 1, 1) := by decide +kernel
theorem dX12_auction_43 : decode cX12_auction 43 = .ok (.invokevirtual 391, 3) := by decide +kernel
theorem dX12_auction_46 : decode cX12_auction 46 = .ok (.ifCond .eq 35, 3) := by decide +kernel
theorem dX12_auction_49 : decode cX12_auction 49 = .ok (.iload 4, 2) := by decide +kernel
theorem dX12_auction_51 : decode cX12_auction 51 = .ok (.iconst (-1), 1) := by decide +kernel
theorem dX12_auction_52 : decode cX12_auction 52 = .ok (.if_icmp .eq 24, 3) := by decide +kernel
theorem dX12_auction_55 : decode cX12_auction 55 = .ok (.aload_n 0, 1) := by decide +kernel
theorem dX12_auction_56 : decode cX12_auction 56 = .ok (.bipush 39, 2) := by decide +kernel
theorem dX12_auction_58 : decode cX12_auction 58 = .ok (.iload 5, 2) := by decide +kernel
theorem dX12_auction_60 : decode cX12_auction 60 = .ok (.iadd, 1) := by decide +kernel
theorem dX12_auction_61 : decode cX12_auction 61 = .ok (.invokevirtual 269, 3) := by decide +kernel
theorem dX12_auction_64 : decode cX12_auction 64 = .ok (.aload_n 0, 1) := by decide +kernel
theorem dX12_auction_65 : decode cX12_auction 65 = .ok (.bipush 39, 2) := by decide +kernel
theorem dX12_auction_67 : decode cX12_auction 67 = .ok (.iload 4, 2) := by decide +kernel
theorem dX12_auction_69 : decode cX12_auction 69 = .ok (.iadd, 1) := by decide +kernel
theorem dX12_auction_70 : decode cX12_auction 70 = .ok (.invokevirtual 269, 3) := by decide +kernel
theorem dX12_auction_73 : decode cX12_auction 73 = .ok (.if_icmp .le 8, 3) := by decide +kernel
theorem dX12_auction_76 : decode cX12_auction 76 = .ok (.iload 5, 2) := by decide +kernel
theorem dX12_auction_78 : decode cX12_auction 78 = .ok (.goto 5, 3) := by decide +kernel
theorem dX12_auction_81 : decode cX12_auction 81 = .ok (.iload 4, 2) := by decide +kernel
theorem dX12_auction_83 : decode cX12_auction 83 = .ok (.istore 4, 2) := by decide +kernel
theorem dX12_auction_85 : decode cX12_auction 85 = .ok (.iinc 5 1, 3) := by decide +kernel
theorem dX12_auction_88 : decode cX12_auction 88 = .ok (.goto (-58), 3) := by decide +kernel
theorem dX12_auction_91 : decode cX12_auction 91 = .ok (.iload 4, 2) := by decide +kernel
theorem dX12_auction_93 : decode cX12_auction 93 = .ok (.iconst (-1), 1) := by decide +kernel
theorem dX12_auction_94 : decode cX12_auction 94 = .ok (.if_icmp .eq 23, 3) := by decide +kernel
theorem dX12_auction_97 : decode cX12_auction 97 = .ok (.aload_n 0, 1) := by decide +kernel
theorem dX12_auction_98 : decode cX12_auction 98 = .ok (.bipush 39, 2) := by decide +kernel
theorem dX12_auction_100 : decode cX12_auction 100 = .ok (.iload 4, 2) := by decide +kernel
theorem dX12_auction_102 : decode cX12_auction 102 = .ok (.iadd, 1) := by decide +kernel
theorem dX12_auction_103 : decode cX12_auction 103 = .ok (.invokevirtual 269, 3) := by decide +kernel
theorem dX12_auction_106 : decode cX12_auction 106 = .ok (.aload_n 0, 1) := by decide +kernel
theorem dX12_auction_107 : decode cX12_auction 107 = .ok (.bipush 39, 2) := by decide +kernel
theorem dX12_auction_109 : decode cX12_auction 109 = .ok (.iload_n 2, 1) := by decide +kernel
theorem dX12_auction_110 : decode cX12_auction 110 = .ok (.iadd, 1) := by decide +kernel
theorem dX12_auction_111 : decode cX12_auction 111 = .ok (.invokevirtual 269, 3) := by decide +kernel
theorem dX12_auction_114 : decode cX12_auction 114 = .ok (.if_icmp .ge 5, 3) := by decide +kernel
theorem dX12_auction_117 : decode cX12_auction 117 = .ok (.iconst (-1), 1) := by decide +kernel
theorem dX12_auction_118 : decode cX12_auction 118 = .ok (.ireturn, 1) := by decide +kernel
theorem dX12_auction_119 : decode cX12_auction 119 = .ok (.aload_n 0, 1) := by decide +kernel
theorem dX12_auction_120 : decode cX12_auction 120 = .ok (.bipush 39, 2) := by decide +kernel
theorem dX12_auction_122 : decode cX12_auction 122 = .ok (.iload_n 2, 1) := by decide +kernel
theorem dX12_auction_123 : decode cX12_auction 123 = .ok (.iadd, 1) := by decide +kernel
theorem dX12_auction_124 : decode cX12_auction 124 = .ok (.invokevirtual 269, 3) := by decide +kernel
theorem dX12_auction_127 : decode cX12_auction 127 = .ok (.istore 5, 2) := by decide +kernel
theorem dX12_auction_129 : decode cX12_auction 129 = .ok (.iconst 0, 1) := by decide +kernel
theorem dX12_auction_130 : decode cX12_auction 130 = .ok (.istore 6, 2) := by decide +kernel
theorem dX12_auction_132 : decode cX12_auction 132 = .ok (.iload 6, 2) := by decide +kernel
theorem dX12_auction_134 : decode cX12_auction 134 = .ok (.aload_n 0, 1) := by decide +kernel
theorem dX12_auction_135 : decode cX12_auction 135 = .ok (.getfield 276, 3) := by decide +kernel
theorem dX12_auction_138 : decode cX12_auction 138 = .ok (.if_icmp .ge 47, 3) := by decide +kernel
theorem dX12_auction_141 : decode cX12_auction 141 = .ok (.aload_n 0, 1) := by decide +kernel
theorem dX12_auction_142 : decode cX12_auction 142 = .ok (.iload 6, 2) := by decide +kernel
theorem dX12_auction_144 : decode cX12_auction 144 = .ok (.iconst 1, 1) := by decide +kernel
theorem dX12_auction_145 : decode cX12_auction 145 = .ok (.invokevirtual 391, 3) := by decide +kernel
theorem dX12_auction_148 : decode cX12_auction 148 = .ok (.ifCond .eq 27, 3) := by decide +kernel
theorem dX12_auction_151 : decode cX12_auction 151 = .ok (.iload 6, 2) := by decide +kernel
theorem dX12_auction_153 : decode cX12_auction 153 = .ok (.iload 4, 2) := by decide +kernel
theorem dX12_auction_155 : decode cX12_auction 155 = .ok (.if_icmp .eq 20, 3) := by decide +kernel
theorem dX12_auction_158 : decode cX12_auction 158 = .ok (.iload 5, 2) := by decide +kernel
theorem dX12_auction_160 : decode cX12_auction 160 = .ok (.aload_n 0, 1) := by decide +kernel
theorem dX12_auction_161 : decode cX12_auction 161 = .ok (.bipush 39, 2) := by decide +kernel
theorem dX12_auction_163 : decode cX12_auction 163 = .ok (.iload 6, 2) := by decide +kernel
theorem dX12_auction_165 : decode cX12_auction 165 = .ok (.iadd, 1) := by decide +kernel
theorem dX12_auction_166 : decode cX12_auction 166 = .ok (.invokevirtual 269, 3) := by decide +kernel
theorem dX12_auction_169 : decode cX12_auction 169 = .ok (.invokestatic 168, 3) := by decide +kernel
theorem dX12_auction_172 : decode cX12_auction 172 = .ok (.goto 5, 3) := by decide +kernel
theorem dX12_auction_175 : decode cX12_auction 175 = .ok (.iload 5, 2) := by decide +kernel
theorem dX12_auction_177 : decode cX12_auction 177 = .ok (.istore 5, 2) := by decide +kernel
theorem dX12_auction_179 : decode cX12_auction 179 = .ok (.iinc 6 1, 3) := by decide +kernel
theorem dX12_auction_182 : decode cX12_auction 182 = .ok (.goto (-50), 3) := by decide +kernel
theorem dX12_auction_185 : decode cX12_auction 185 = .ok (.iload_n 3, 1) := by decide +kernel
theorem dX12_auction_186 : decode cX12_auction 186 = .ok (.ifCond .eq 8, 3) := by decide +kernel
theorem dX12_auction_189 : decode cX12_auction 189 = .ok (.iload 5, 2) := by decide +kernel
theorem dX12_auction_191 : decode cX12_auction 191 = .ok (.goto 5, 3) := by decide +kernel
theorem dX12_auction_194 : decode cX12_auction 194 = .ok (.iload 4, 2) := by decide +kernel
theorem dX12_auction_196 : decode cX12_auction 196 = .ok (.ireturn, 1) := by decide +kernel
noncomputable def fX12_auction_l30 (m4 : zM) (x0 : Nat) (F10 : Int32 → Int32 → Option (Int32)) (x4_8 : Int32) (x5_9 : Int32) : Option (Int32) :=
  zb1 (zm_gI m4 12 x0 25) fun v14 =>
  if v14 ≤ x5_9 then (
  some x4_8)
  else (
  zb1 (fX12_isKind m4 x0 x5_9 1) fun v17 =>
  zb1 (if v17 = 0 then (
  some x4_8)
  else (
  if x4_8 = (-1) then (
  some x5_9)
  else (
  zb1 (fX12_of m4 x0 (39 + x5_9)) fun v21 =>
  zb1 (fX12_of m4 x0 (39 + x4_8)) fun v23 =>
  if v21 ≤ v23 then (
  some x4_8)
  else (
  some x5_9))) : Option (Int32)) fun (s18 : Int32) =>
  F10 s18 (x5_9 + 1))
noncomputable def fX12_auction_l132 (m4 : zM) (x0 : Nat) (x4_12 : Int32) (F33 : Int32 → Int32 → Option (Int32)) (x5_31 : Int32) (x6_32 : Int32) : Option (Int32) :=
  zb1 (zm_gI m4 12 x0 25) fun v37 =>
  if v37 ≤ x6_32 then (
  some x5_31)
  else (
  zb1 (fX12_isKind m4 x0 x6_32 1) fun v40 =>
  zb1 (if v40 = 0 then (
  some x5_31)
  else (
  if x6_32 = x4_12 then (
  some x5_31)
  else (
  zb1 (fX12_of m4 x0 (39 + x6_32)) fun v44 =>
  zb1 (fX12_greater m4 x5_31 v44) fun v46 =>
  some v46)) : Option (Int32)) fun (s41 : Int32) =>
  F33 s41 (x6_32 + 1))
noncomputable def fX12_auction (μ : zM) (x0 : Nat) (x1 : Int32) (x2 : Int32) (x3 : Int32) : Option (Int32 × zM) := zgd (zm_ck μ 12 x0) <|
  zb1 (zm_p μ 12 x0 0 (.int 0)) fun m1 =>
  zb2 (fX12_hand m1 x0 x1) fun v5 m4 =>
  if v5 = 0 then (
  some ((-1), m4))
  else (
  zb1 (fX12_isKind m4 x0 x2 0) fun v7 =>
  if v7 = 0 then (
  some ((-1), m4))
  else (
  zb1 (zf2 (fX12_auction_l30 m4 x0) zfu (-1) 0 : Option (Int32)) fun (x4_12 : Int32) =>
  if x4_12 = (-1) then (
  some ((-1), m4))
  else (
  zb1 (fX12_of m4 x0 (39 + x4_12)) fun v26 =>
  zb1 (fX12_of m4 x0 (39 + x2)) fun v28 =>
  if v28 ≤ v26 then (
  zb1 (fX12_of m4 x0 (39 + x2)) fun v30 =>
  zb1 (zf2 (fX12_auction_l132 m4 x0 x4_12) zfu v30 0 : Option (Int32)) fun (x5_35 : Int32) =>
  zb1 (if x3 = 0 then (
  some x4_12)
  else (
  some x5_35) : Option (Int32)) fun (s48 : Int32) =>
  some (s48, m4))
  else (
  some ((-1), m4)))))
theorem fX12_auction_ck {μ : zM} {x0 : Nat} {x1 : Int32} {x2 : Int32} {x3 : Int32} {z : Int32 × zM} (h : fX12_auction μ x0 x1 x2 x3 = some z) : zm_ck μ 12 x0 = true := (zgd_s h).1
set_option maxHeartbeats 4000000 in
set_option maxRecDepth 100000 in
theorem cX12_auction_ok {μ : zM} {x0 : Nat} {x1 : Int32} {x2 : Int32} {x3 : Int32} {r : Int32} {mo : zM} (hf : fX12_auction μ x0 x1 x2 x3 = some (r, mo)) : zC yX12_auction cX12_auction 7 (some .int) 3 0 0 [.ref x0, .int x1, .int x2, .int x3] μ (some (.int r)) mo := by
  replace hf := (zgd_s hf).2
  refine zC.of (by decide) (Nat.le_of_ble_eq_true rfl) (fun K hin => ?_)
  clear hin
  show zz K cX12_auction (7, RX12, some .int, 3, 0, 0, some (.int r), mo) 0 0 0 [(0, .ref x0), (1, .int x1), (2, .int x2), (3, .int x3)] [] μ
  refine zr_aload_n 0 dX12_auction_0 rfl ?_
  refine zr_iconst 0 dX12_auction_1 (by decide) ?_
  replace hf := zb1_s hf
  obtain ⟨m1, h2, hf⟩ := hf
  refine zr_put h2 zk12 (by decide) zl_899 rfl rfl rfl dX12_auction_2 ?_
  refine zr_aload_n 0 dX12_auction_5 rfl ?_
  refine zr_iload_n 1 dX12_auction_6 rfl ?_
  replace hf := zb2_s hf
  obtain ⟨v5, m4, h3, hf⟩ := hf
  refine zr_callV (ci := 12) [.int x1] (cX12_hand_ok h3) zvs_X12_hand zl_1057 zl_1058 (fX12_hand_ck h3) rfl rfl zl_1056 rfl (Nat.le_of_ble_eq_true rfl) (Nat.le_of_ble_eq_true rfl) (Nat.le_of_ble_eq_true rfl) (Nat.le_of_ble_eq_true rfl) dX12_auction_7 rfl ?_
  refine zr_if_eq 22 dX12_auction_10 (by decide) (fun hc => ?_) (fun hc => ?_)
  · rw [if_pos hc] at hf
    refine zr_iconst (-1) dX12_auction_22 (by decide) ?_
    cases hf
    exact zr_iret dX12_auction_23
  · rw [if_neg hc] at hf
    refine zr_aload_n 0 dX12_auction_13 rfl ?_
    refine zr_iload_n 2 dX12_auction_14 rfl ?_
    refine zr_iconst 0 dX12_auction_15 (by decide) ?_
    replace hf := zb1_s hf
    obtain ⟨v7, h6, hf⟩ := hf
    refine zr_callV (ci := 12) [.int x2, .int 0] (cX12_isKind_ok h6) zvs_X12_isKind zl_1157 zl_1158 (fX12_isKind_ck h6) rfl rfl zl_1156 rfl (Nat.le_of_ble_eq_true rfl) (Nat.le_of_ble_eq_true rfl) (Nat.le_of_ble_eq_true rfl) (Nat.le_of_ble_eq_true rfl) dX12_auction_16 rfl ?_
    refine zr_if_ne 24 dX12_auction_19 (by decide) (fun hc => ?_) (fun hc => ?_)
    · rw [if_neg hc] at hf
      refine zr_iconst (-1) dX12_auction_24 (by decide) ?_
      refine zr_istore [(4, .int (-1)), (0, .ref x0), (1, .int x1), (2, .int x2), (3, .int x3)] dX12_auction_25 (Nat.le_of_ble_eq_true rfl) rfl ?_
      refine zr_iconst 0 dX12_auction_27 (by decide) ?_
      refine zr_istore [(5, .int 0), (4, .int (-1)), (0, .ref x0), (1, .int x1), (2, .int x2), (3, .int x3)] dX12_auction_28 (Nat.le_of_ble_eq_true rfl) rfl ?_
      replace hf := zb1_s hf
      obtain ⟨x4_12, hg, hf⟩ := hf
      have hj13 : zz K cX12_auction (7, RX12, some .int, 3, 0, 0, some (.int r), mo) 0 0 91 [(0, .ref x0), (2, .int x2), (3, .int x3), (4, .int x4_12)] [] m4 := by
        refine zr_iload 3 dX12_auction_91 rfl ?_
        refine zr_iconst (-1) dX12_auction_93 (by decide) ?_
        refine zr_icmp_eq 117 dX12_auction_94 (by decide) (fun hc => ?_) (fun hc => ?_)
        · rw [if_pos hc] at hf
          refine zr_iconst (-1) dX12_auction_117 (by decide) ?_
          cases hf
          exact zr_iret dX12_auction_118
        · rw [if_neg hc] at hf
          refine zr_aload_n 0 dX12_auction_97 rfl ?_
          refine zr_bipush 39 dX12_auction_98 (by decide) ?_
          refine zr_iload 3 dX12_auction_100 rfl ?_
          refine zr_iadd dX12_auction_102 ?_
          replace hf := zb1_s hf
          obtain ⟨v26, h25, hf⟩ := hf
          refine zr_callV (ci := 12) [.int (39 + x4_12)] (cX12_of_ok h25) zvs_X12_of zl_1029 zl_1030 (fX12_of_ck h25) rfl rfl zl_1028 rfl (Nat.le_of_ble_eq_true rfl) (Nat.le_of_ble_eq_true rfl) (Nat.le_of_ble_eq_true rfl) (Nat.le_of_ble_eq_true rfl) dX12_auction_103 rfl ?_
          refine zr_aload_n 0 dX12_auction_106 rfl ?_
          refine zr_bipush 39 dX12_auction_107 (by decide) ?_
          refine zr_iload_n 1 dX12_auction_109 rfl ?_
          refine zr_iadd dX12_auction_110 ?_
          replace hf := zb1_s hf
          obtain ⟨v28, h27, hf⟩ := hf
          refine zr_callV (ci := 12) [.int (39 + x2)] (cX12_of_ok h27) zvs_X12_of zl_1029 zl_1030 (fX12_of_ck h27) rfl rfl zl_1028 rfl (Nat.le_of_ble_eq_true rfl) (Nat.le_of_ble_eq_true rfl) (Nat.le_of_ble_eq_true rfl) (Nat.le_of_ble_eq_true rfl) dX12_auction_111 rfl ?_
          refine zr_icmp_ge 119 dX12_auction_114 (by decide) (fun hc => ?_) (fun hc => ?_)
          · rw [if_pos hc] at hf
            refine zr_aload_n 0 dX12_auction_119 rfl ?_
            refine zr_bipush 39 dX12_auction_120 (by decide) ?_
            refine zr_iload_n 1 dX12_auction_122 rfl ?_
            refine zr_iadd dX12_auction_123 ?_
            replace hf := zb1_s hf
            obtain ⟨v30, h29, hf⟩ := hf
            refine zr_callV (ci := 12) [.int (39 + x2)] (cX12_of_ok h29) zvs_X12_of zl_1029 zl_1030 (fX12_of_ck h29) rfl rfl zl_1028 rfl (Nat.le_of_ble_eq_true rfl) (Nat.le_of_ble_eq_true rfl) (Nat.le_of_ble_eq_true rfl) (Nat.le_of_ble_eq_true rfl) dX12_auction_124 rfl ?_
            refine zr_istore [(5, .int v30), (0, .ref x0), (2, .int x2), (3, .int x3), (4, .int x4_12)] dX12_auction_127 (Nat.le_of_ble_eq_true rfl) rfl ?_
            refine zr_iconst 0 dX12_auction_129 (by decide) ?_
            refine zr_istore [(6, .int 0), (5, .int v30), (0, .ref x0), (2, .int x2), (3, .int x3), (4, .int x4_12)] dX12_auction_130 (Nat.le_of_ble_eq_true rfl) rfl ?_
            replace hf := zb1_s hf
            obtain ⟨x5_35, hg, hf⟩ := hf
            have hj36 : zz K cX12_auction (7, RX12, some .int, 3, 0, 0, some (.int r), mo) 0 0 185 [(3, .int x3), (4, .int x4_12), (5, .int x5_35)] [] m4 := by
              refine zr_iload_n 0 dX12_auction_185 rfl ?_
              replace hf := zb1_s hf
              obtain ⟨s48, hg, hf⟩ := hf
              have hj49 : zz K cX12_auction (7, RX12, some .int, 3, 0, 0, some (.int r), mo) 0 0 196 [] [.int s48] m4 := by
                cases hf
                exact zr_iret dX12_auction_196
              clear hf
              have hf := hg
              clear hg
              refine zr_if_eq 194 dX12_auction_186 (by decide) (fun hc => ?_) (fun hc => ?_)
              · rw [if_pos hc] at hf
                refine zr_iload 1 dX12_auction_194 rfl ?_
                cases hf
                exact zr_lv [] rfl hj49
              · rw [if_neg hc] at hf
                refine zr_iload 2 dX12_auction_189 rfl ?_
                refine zr_goto 196 dX12_auction_191 (by decide) ?_
                cases hf
                exact zr_lv [] rfl hj49
            clear hf
            have hf := hg
            clear hg
            have hL47 : ∀ (n : Nat) (x5_31 : Int32) (x6_32 : Int32), zf2 (fX12_auction_l132 m4 x0 x4_12) n x5_31 x6_32 = some x5_35 → zz K cX12_auction (7, RX12, some .int, 3, 0, 0, some (.int r), mo) 0 0 132 [(0, .ref x0), (3, .int x3), (4, .int x4_12), (5, .int x5_31), (6, .int x6_32)] [] m4 := by
              intro n
              induction n with
              | zero => intro x5_31 x6_32 hf; cases hf
              | succ n ih34 =>
                intro x5_31 x6_32 hf
                replace hf := zf2_s hf
                generalize zf2 (fX12_auction_l132 m4 x0 x4_12) n = F33 at hf ih34
                unfold fX12_auction_l132 at hf
                refine zr_iload 4 dX12_auction_132 rfl ?_
                refine zr_aload_n 0 dX12_auction_134 rfl ?_
                replace hf := zb1_s hf
                obtain ⟨v37, h38, hf⟩ := hf
                refine zr_get (zm_gI_g h38) zk12 (by decide) zl_1032 dX12_auction_135 ?_
                refine zr_icmp_ge 185 dX12_auction_138 (by decide) (fun hc => ?_) (fun hc => ?_)
                · rw [if_pos hc] at hf
                  cases hf
                  exact zr_lv [1, 2, 3] rfl hj36
                · rw [if_neg hc] at hf
                  refine zr_aload_n 0 dX12_auction_141 rfl ?_
                  refine zr_iload 4 dX12_auction_142 rfl ?_
                  refine zr_iconst 1 dX12_auction_144 (by decide) ?_
                  replace hf := zb1_s hf
                  obtain ⟨v40, h39, hf⟩ := hf
                  refine zr_callV (ci := 12) [.int x6_32, .int 1] (cX12_isKind_ok h39) zvs_X12_isKind zl_1157 zl_1158 (fX12_isKind_ck h39) rfl rfl zl_1156 rfl (Nat.le_of_ble_eq_true rfl) (Nat.le_of_ble_eq_true rfl) (Nat.le_of_ble_eq_true rfl) (Nat.le_of_ble_eq_true rfl) dX12_auction_145 rfl ?_
                  replace hf := zb1_s hf
                  obtain ⟨s41, hg, hf⟩ := hf
                  have hj42 : zz K cX12_auction (7, RX12, some .int, 3, 0, 0, some (.int r), mo) 0 0 177 [(0, .ref x0), (3, .int x3), (4, .int x4_12), (6, .int x6_32)] [.int s41] m4 := by
                    refine zr_istore [(5, .int s41), (0, .ref x0), (3, .int x3), (4, .int x4_12), (6, .int x6_32)] dX12_auction_177 (Nat.le_of_ble_eq_true rfl) rfl ?_
                    refine zr_iinc (j := 4) (x6_32 + 1) [(6, .int (x6_32 + 1)), (5, .int s41), (0, .ref x0), (3, .int x3), (4, .int x4_12)] dX12_auction_179 rfl rfl (Nat.le_of_ble_eq_true rfl) rfl ?_
                    refine zr_goto 132 dX12_auction_182 (by decide) ?_
                    exact zr_lv [2, 3, 4, 1, 0] rfl (ih34 s41 (x6_32 + 1) hf)
                  clear hf
                  have hf := hg
                  clear hg
                  refine zr_if_eq 175 dX12_auction_148 (by decide) (fun hc => ?_) (fun hc => ?_)
                  · rw [if_pos hc] at hf
                    refine zr_iload 3 dX12_auction_175 rfl ?_
                    cases hf
                    exact zr_lv [0, 1, 2, 4] rfl hj42
                  · rw [if_neg hc] at hf
                    refine zr_iload 4 dX12_auction_151 rfl ?_
                    refine zr_iload 2 dX12_auction_153 rfl ?_
                    refine zr_icmp_eq 175 dX12_auction_155 (by decide) (fun hc => ?_) (fun hc => ?_)
                    · rw [if_pos hc] at hf
                      refine zr_iload 3 dX12_auction_175 rfl ?_
                      cases hf
                      exact zr_lv [0, 1, 2, 4] rfl hj42
                    · rw [if_neg hc] at hf
                      refine zr_iload 3 dX12_auction_158 rfl ?_
                      refine zr_aload_n 0 dX12_auction_160 rfl ?_
                      refine zr_bipush 39 dX12_auction_161 (by decide) ?_
                      refine zr_iload 4 dX12_auction_163 rfl ?_
                      refine zr_iadd dX12_auction_165 ?_
                      replace hf := zb1_s hf
                      obtain ⟨v44, h43, hf⟩ := hf
                      refine zr_callV (ci := 12) [.int (39 + x6_32)] (cX12_of_ok h43) zvs_X12_of zl_1029 zl_1030 (fX12_of_ck h43) rfl rfl zl_1028 rfl (Nat.le_of_ble_eq_true rfl) (Nat.le_of_ble_eq_true rfl) (Nat.le_of_ble_eq_true rfl) (Nat.le_of_ble_eq_true rfl) dX12_auction_166 rfl ?_
                      replace hf := zb1_s hf
                      obtain ⟨v46, h45, hf⟩ := hf
                      refine zr_callS [.int x5_31, .int v44] (cX12_greater_ok h45) zvs_X12_greater zl_940 zl_939 rfl (Nat.le_of_ble_eq_true rfl) (Nat.le_of_ble_eq_true rfl) (Nat.le_of_ble_eq_true rfl) (Nat.le_of_ble_eq_true rfl) dX12_auction_169 rfl ?_
                      refine zr_goto 177 dX12_auction_172 (by decide) ?_
                      cases hf
                      exact zr_lv [0, 1, 2, 4] rfl hj42
            exact zr_lv [2, 4, 5, 1, 0] rfl (hL47 _ v30 0 hf)
          · rw [if_neg hc] at hf
            refine zr_iconst (-1) dX12_auction_117 (by decide) ?_
            cases hf
            exact zr_iret dX12_auction_118
      clear hf
      have hf := hg
      clear hg
      have hL24 : ∀ (n : Nat) (x4_8 : Int32) (x5_9 : Int32), zf2 (fX12_auction_l30 m4 x0) n x4_8 x5_9 = some x4_12 → zz K cX12_auction (7, RX12, some .int, 3, 0, 0, some (.int r), mo) 0 0 30 [(0, .ref x0), (2, .int x2), (3, .int x3), (4, .int x4_8), (5, .int x5_9)] [] m4 := by
        intro n
        induction n with
        | zero => intro x4_8 x5_9 hf; cases hf
        | succ n ih11 =>
          intro x4_8 x5_9 hf
          replace hf := zf2_s hf
          generalize zf2 (fX12_auction_l30 m4 x0) n = F10 at hf ih11
          unfold fX12_auction_l30 at hf
          refine zr_iload 4 dX12_auction_30 rfl ?_
          refine zr_aload_n 0 dX12_auction_32 rfl ?_
          replace hf := zb1_s hf
          obtain ⟨v14, h15, hf⟩ := hf
          refine zr_get (zm_gI_g h15) zk12 (by decide) zl_1032 dX12_auction_33 ?_
          refine zr_icmp_ge 91 dX12_auction_36 (by decide) (fun hc => ?_) (fun hc => ?_)
          · rw [if_pos hc] at hf
            cases hf
            exact zr_lv [0, 1, 2, 3] rfl hj13
          · rw [if_neg hc] at hf
            refine zr_aload_n 0 dX12_auction_39 rfl ?_
            refine zr_iload 4 dX12_auction_40 rfl ?_
            refine zr_iconst 1 dX12_auction_42 (by decide) ?_
            replace hf := zb1_s hf
            obtain ⟨v17, h16, hf⟩ := hf
            refine zr_callV (ci := 12) [.int x5_9, .int 1] (cX12_isKind_ok h16) zvs_X12_isKind zl_1157 zl_1158 (fX12_isKind_ck h16) rfl rfl zl_1156 rfl (Nat.le_of_ble_eq_true rfl) (Nat.le_of_ble_eq_true rfl) (Nat.le_of_ble_eq_true rfl) (Nat.le_of_ble_eq_true rfl) dX12_auction_43 rfl ?_
            replace hf := zb1_s hf
            obtain ⟨s18, hg, hf⟩ := hf
            have hj19 : zz K cX12_auction (7, RX12, some .int, 3, 0, 0, some (.int r), mo) 0 0 83 [(0, .ref x0), (2, .int x2), (3, .int x3), (5, .int x5_9)] [.int s18] m4 := by
              refine zr_istore [(4, .int s18), (0, .ref x0), (2, .int x2), (3, .int x3), (5, .int x5_9)] dX12_auction_83 (Nat.le_of_ble_eq_true rfl) rfl ?_
              refine zr_iinc (j := 4) (x5_9 + 1) [(5, .int (x5_9 + 1)), (4, .int s18), (0, .ref x0), (2, .int x2), (3, .int x3)] dX12_auction_85 rfl rfl (Nat.le_of_ble_eq_true rfl) rfl ?_
              refine zr_goto 30 dX12_auction_88 (by decide) ?_
              exact zr_lv [2, 3, 4, 1, 0] rfl (ih11 s18 (x5_9 + 1) hf)
            clear hf
            have hf := hg
            clear hg
            refine zr_if_eq 81 dX12_auction_46 (by decide) (fun hc => ?_) (fun hc => ?_)
            · rw [if_pos hc] at hf
              refine zr_iload 3 dX12_auction_81 rfl ?_
              cases hf
              exact zr_lv [0, 1, 2, 4] rfl hj19
            · rw [if_neg hc] at hf
              refine zr_iload 3 dX12_auction_49 rfl ?_
              refine zr_iconst (-1) dX12_auction_51 (by decide) ?_
              refine zr_icmp_eq 76 dX12_auction_52 (by decide) (fun hc => ?_) (fun hc => ?_)
              · rw [if_pos hc] at hf
                refine zr_iload 4 dX12_auction_76 rfl ?_
                refine zr_goto 83 dX12_auction_78 (by decide) ?_
                cases hf
                exact zr_lv [0, 1, 2, 4] rfl hj19
              · rw [if_neg hc] at hf
                refine zr_aload_n 0 dX12_auction_55 rfl ?_
                refine zr_bipush 39 dX12_auction_56 (by decide) ?_
                refine zr_iload 4 dX12_auction_58 rfl ?_
                refine zr_iadd dX12_auction_60 ?_
                replace hf := zb1_s hf
                obtain ⟨v21, h20, hf⟩ := hf
                refine zr_callV (ci := 12) [.int (39 + x5_9)] (cX12_of_ok h20) zvs_X12_of zl_1029 zl_1030 (fX12_of_ck h20) rfl rfl zl_1028 rfl (Nat.le_of_ble_eq_true rfl) (Nat.le_of_ble_eq_true rfl) (Nat.le_of_ble_eq_true rfl) (Nat.le_of_ble_eq_true rfl) dX12_auction_61 rfl ?_
                refine zr_aload_n 0 dX12_auction_64 rfl ?_
                refine zr_bipush 39 dX12_auction_65 (by decide) ?_
                refine zr_iload 3 dX12_auction_67 rfl ?_
                refine zr_iadd dX12_auction_69 ?_
                replace hf := zb1_s hf
                obtain ⟨v23, h22, hf⟩ := hf
                refine zr_callV (ci := 12) [.int (39 + x4_8)] (cX12_of_ok h22) zvs_X12_of zl_1029 zl_1030 (fX12_of_ck h22) rfl rfl zl_1028 rfl (Nat.le_of_ble_eq_true rfl) (Nat.le_of_ble_eq_true rfl) (Nat.le_of_ble_eq_true rfl) (Nat.le_of_ble_eq_true rfl) dX12_auction_70 rfl ?_
                refine zr_icmp_le 81 dX12_auction_73 (by decide) (fun hc => ?_) (fun hc => ?_)
                · rw [if_pos hc] at hf
                  refine zr_iload 3 dX12_auction_81 rfl ?_
                  cases hf
                  exact zr_lv [0, 1, 2, 4] rfl hj19
                · rw [if_neg hc] at hf
                  refine zr_iload 4 dX12_auction_76 rfl ?_
                  refine zr_goto 83 dX12_auction_78 (by decide) ?_
                  cases hf
                  exact zr_lv [0, 1, 2, 4] rfl hj19
      exact zr_lv [2, 4, 5, 1, 0] rfl (hL24 _ (-1) 0 hf)
    · rw [if_pos hc] at hf
      refine zr_iconst (-1) dX12_auction_22 (by decide) ?_
      cases hf
      exact zr_iret dX12_auction_23
theorem dX12_relayed_0 : decode cX12_relayed 0 = .ok (.aload_n 0, 1) := by decide +kernel
theorem dX12_relayed_1 : decode cX12_relayed 1 = .ok (.iconst 0, 1) := by decide +kernel
theorem dX12_relayed_2 : decode cX12_relayed 2 = .ok (.putfield 93, 3) := by decide +kernel
theorem dX12_relayed_5 : decode cX12_relayed 5 = .ok (.aload_n 0, 1) := by decide +kernel
theorem dX12_relayed_6 : decode cX12_relayed 6 = .ok (.iload_n 1, 1) := by decide +kernel
theorem dX12_relayed_7 : decode cX12_relayed 7 = .ok (.invokevirtual 298, 3) := by decide +kernel
theorem dX12_relayed_10 : decode cX12_relayed 10 = .ok (.ifCond .eq 29, 3) := by decide +kernel
theorem dX12_relayed_13 : decode cX12_relayed 13 = .ok (.aload_n 0, 1) := by decide +kernel
theorem dX12_relayed_14 : decode cX12_relayed 14 = .ok (.iload_n 2, 1) := by decide +kernel
theorem dX12_relayed_15 : decode cX12_relayed 15 = .ok (.invokevirtual 301, 3) := by decide +kernel
theorem dX12_relayed_18 : decode cX12_relayed 18 = .ok (.ifCond .eq 21, 3) := by decide +kernel
theorem dX12_relayed_21 : decode cX12_relayed 21 = .ok (.aload_n 0, 1) := by decide +kernel
theorem dX12_relayed_22 : decode cX12_relayed 22 = .ok (.iload_n 3, 1) := by decide +kernel
theorem dX12_relayed_23 : decode cX12_relayed 23 = .ok (.invokevirtual 301, 3) := by decide +kernel
theorem dX12_relayed_26 : decode cX12_relayed 26 = .ok (.ifCond .eq 13, 3) := by decide +kernel
theorem dX12_relayed_29 : decode cX12_relayed 29 = .ok (.iload 4, 2) := by decide +kernel
theorem dX12_relayed_31 : decode cX12_relayed 31 = .ok (.iconst 0, 1) := by decide +kernel
theorem dX12_relayed_32 : decode cX12_relayed 32 = .ok (.iconst 2, 1) := by decide +kernel
theorem dX12_relayed_33 : decode cX12_relayed 33 = .ok (.invokestatic 101, 3) := by decide +kernel
theorem dX12_relayed_36 : decode cX12_relayed 36 = .ok (.ifCond .ne 5, 3) := by decide +kernel
theorem dX12_relayed_39 : decode cX12_relayed 39 = .ok (.iconst (-1), 1) := by decide +kernel
theorem dX12_relayed_40 : decode cX12_relayed 40 = .ok (.ireturn, 1) := by decide +kernel
theorem dX12_relayed_41 : decode cX12_relayed 41 = .ok (.aload_n 0, 1) := by decide +kernel
theorem dX12_relayed_42 : decode cX12_relayed 42 = .ok (.iload_n 2, 1) := by decide +kernel
theorem dX12_relayed_43 : decode cX12_relayed 43 = .ok (.iload 4, 2) := by decide +kernel
theorem dX12_relayed_45 : decode cX12_relayed 45 = .ok (.iconst 1, 1) := by decide +kernel
theorem dX12_relayed_46 : decode cX12_relayed 46 = .ok (.invokevirtual 498, 3) := by decide +kernel
theorem dX12_relayed_49 : decode cX12_relayed 49 = .ok (.aload_n 0, 1) := by decide +kernel
theorem dX12_relayed_50 : decode cX12_relayed 50 = .ok (.getfield 80, 3) := by decide +kernel
theorem dX12_relayed_53 : decode cX12_relayed 53 = .ok (.iload_n 3, 1) := by decide +kernel
theorem dX12_relayed_54 : decode cX12_relayed 54 = .ok (.iaload, 1) := by decide +kernel
theorem dX12_relayed_55 : decode cX12_relayed 55 = .ok (.ldc_w 423, 3) := by decide +kernel
theorem dX12_relayed_58 : decode cX12_relayed 58 = .ok (.if_icmp .lt 7, 3) := by decide +kernel
theorem dX12_relayed_61 : decode cX12_relayed 61 = .ok (.iconst (-1), 1) := by decide +kernel
theorem dX12_relayed_62 : decode cX12_relayed 62 = .ok (.goto 9, 3) := by decide +kernel
theorem dX12_relayed_65 : decode cX12_relayed 65 = .ok (.aload_n 0, 1) := by decide +kernel
theorem dX12_relayed_66 : decode cX12_relayed 66 = .ok (.getfield 80, 3) := by decide +kernel
theorem dX12_relayed_69 : decode cX12_relayed 69 = .ok (.iload_n 3, 1) := by decide +kernel
theorem dX12_relayed_70 : decode cX12_relayed 70 = .ok (.iaload, 1) := by decide +kernel
theorem dX12_relayed_71 : decode cX12_relayed 71 = .ok (.ireturn, 1) := by decide +kernel
noncomputable def fX12_relayed (μ : zM) (x0 : Nat) (x1 : Int32) (x2 : Int32) (x3 : Int32) (x4 : Int32) : Option (Int32 × zM) := zgd (zm_ck μ 12 x0) <|
  zb1 (zm_p μ 12 x0 0 (.int 0)) fun m1 =>
  zb2 (fX12_hand m1 x0 x1) fun v5 m4 =>
  if v5 = 0 then (
  some ((-1), m4))
  else (
  zb1 (fX12_isPerson m4 x0 x2) fun v7 =>
  if v7 = 0 then (
  some ((-1), m4))
  else (
  zb1 (fX12_isPerson m4 x0 x3) fun v9 =>
  if v9 = 0 then (
  some ((-1), m4))
  else (
  zb1 (fX12_in m4 x4 0 2) fun v11 =>
  if v11 = 0 then (
  some ((-1), m4))
  else (
  zb1 (fX12_findSoon m4 x0 x2 x4 1) fun m13 =>
  zb1 (zm_gR m13 12 x0 50) fun v14 =>
  zb1 (zm_aI m13 0 v14 x3) fun v16 =>
  zb1 (if v16 < 1000000 then (
  zb1 (zm_gR m13 12 x0 50) fun v20 =>
  zb1 (zm_aI m13 0 v20 x3) fun v22 =>
  some v22)
  else (
  some (-1)) : Option (Int32)) fun (s18 : Int32) =>
  some (s18, m13)))))
theorem fX12_relayed_ck {μ : zM} {x0 : Nat} {x1 : Int32} {x2 : Int32} {x3 : Int32} {x4 : Int32} {z : Int32 × zM} (h : fX12_relayed μ x0 x1 x2 x3 x4 = some z) : zm_ck μ 12 x0 = true := (zgd_s h).1
set_option maxHeartbeats 4000000 in
set_option maxRecDepth 100000 in
theorem cX12_relayed_ok {μ : zM} {x0 : Nat} {x1 : Int32} {x2 : Int32} {x3 : Int32} {x4 : Int32} {r : Int32} {mo : zM} (hf : fX12_relayed μ x0 x1 x2 x3 x4 = some (r, mo)) : zC yX12_relayed cX12_relayed 5 (some .int) 3 0 0 [.ref x0, .int x1, .int x2, .int x3, .int x4] μ (some (.int r)) mo := by
  replace hf := (zgd_s hf).2
  refine zC.of (by decide) (Nat.le_of_ble_eq_true rfl) (fun K hin => ?_)
  clear hin
  show zz K cX12_relayed (5, RX12, some .int, 3, 0, 0, some (.int r), mo) 0 0 0 [(0, .ref x0), (1, .int x1), (2, .int x2), (3, .int x3), (4, .int x4)] [] μ
  refine zr_aload_n 0 dX12_relayed_0 rfl ?_
  refine zr_iconst 0 dX12_relayed_1 (by decide) ?_
  replace hf := zb1_s hf
  obtain ⟨m1, h2, hf⟩ := hf
  refine zr_put h2 zk12 (by decide) zl_899 rfl rfl rfl dX12_relayed_2 ?_
  refine zr_aload_n 0 dX12_relayed_5 rfl ?_
  refine zr_iload_n 1 dX12_relayed_6 rfl ?_
  replace hf := zb2_s hf
  obtain ⟨v5, m4, h3, hf⟩ := hf
  refine zr_callV (ci := 12) [.int x1] (cX12_hand_ok h3) zvs_X12_hand zl_1057 zl_1058 (fX12_hand_ck h3) rfl rfl zl_1056 rfl (Nat.le_of_ble_eq_true rfl) (Nat.le_of_ble_eq_true rfl) (Nat.le_of_ble_eq_true rfl) (Nat.le_of_ble_eq_true rfl) dX12_relayed_7 rfl ?_
  refine zr_if_eq 39 dX12_relayed_10 (by decide) (fun hc => ?_) (fun hc => ?_)
  · rw [if_pos hc] at hf
    refine zr_iconst (-1) dX12_relayed_39 (by decide) ?_
    cases hf
    exact zr_iret dX12_relayed_40
  · rw [if_neg hc] at hf
    refine zr_aload_n 0 dX12_relayed_13 rfl ?_
    refine zr_iload_n 2 dX12_relayed_14 rfl ?_
    replace hf := zb1_s hf
    obtain ⟨v7, h6, hf⟩ := hf
    refine zr_callV (ci := 12) [.int x2] (cX12_isPerson_ok h6) zvs_X12_isPerson zl_1061 zl_1062 (fX12_isPerson_ck h6) rfl rfl zl_1060 rfl (Nat.le_of_ble_eq_true rfl) (Nat.le_of_ble_eq_true rfl) (Nat.le_of_ble_eq_true rfl) (Nat.le_of_ble_eq_true rfl) dX12_relayed_15 rfl ?_
    refine zr_if_eq 39 dX12_relayed_18 (by decide) (fun hc => ?_) (fun hc => ?_)
    · rw [if_pos hc] at hf
      refine zr_iconst (-1) dX12_relayed_39 (by decide) ?_
      cases hf
      exact zr_iret dX12_relayed_40
    · rw [if_neg hc] at hf
      refine zr_aload_n 0 dX12_relayed_21 rfl ?_
      refine zr_iload_n 3 dX12_relayed_22 rfl ?_
      replace hf := zb1_s hf
      obtain ⟨v9, h8, hf⟩ := hf
      refine zr_callV (ci := 12) [.int x3] (cX12_isPerson_ok h8) zvs_X12_isPerson zl_1061 zl_1062 (fX12_isPerson_ck h8) rfl rfl zl_1060 rfl (Nat.le_of_ble_eq_true rfl) (Nat.le_of_ble_eq_true rfl) (Nat.le_of_ble_eq_true rfl) (Nat.le_of_ble_eq_true rfl) dX12_relayed_23 rfl ?_
      refine zr_if_eq 39 dX12_relayed_26 (by decide) (fun hc => ?_) (fun hc => ?_)
      · rw [if_pos hc] at hf
        refine zr_iconst (-1) dX12_relayed_39 (by decide) ?_
        cases hf
        exact zr_iret dX12_relayed_40
      · rw [if_neg hc] at hf
        refine zr_iload 4 dX12_relayed_29 rfl ?_
        refine zr_iconst 0 dX12_relayed_31 (by decide) ?_
        refine zr_iconst 2 dX12_relayed_32 (by decide) ?_
        replace hf := zb1_s hf
        obtain ⟨v11, h10, hf⟩ := hf
        refine zr_callS [.int x4, .int 0, .int 2] (cX12_in_ok h10) zvs_X12_in zl_898 zl_897 rfl (Nat.le_of_ble_eq_true rfl) (Nat.le_of_ble_eq_true rfl) (Nat.le_of_ble_eq_true rfl) (Nat.le_of_ble_eq_true rfl) dX12_relayed_33 rfl ?_
        refine zr_if_ne 41 dX12_relayed_36 (by decide) (fun hc => ?_) (fun hc => ?_)
        · rw [if_neg hc] at hf
          refine zr_aload_n 0 dX12_relayed_41 rfl ?_
          refine zr_iload_n 2 dX12_relayed_42 rfl ?_
          refine zr_iload 4 dX12_relayed_43 rfl ?_
          refine zr_iconst 1 dX12_relayed_45 (by decide) ?_
          replace hf := zb1_s hf
          obtain ⟨m13, h12, hf⟩ := hf
          refine zr_callV (ci := 12) [.int x2, .int x4, .int 1] (cX12_findSoon_ok h12) zvs_X12_findSoon zl_1275 zl_1276 (fX12_findSoon_ck h12) rfl rfl zl_1274 rfl (Nat.le_of_ble_eq_true rfl) (Nat.le_of_ble_eq_true rfl) (Nat.le_of_ble_eq_true rfl) (Nat.le_of_ble_eq_true rfl) dX12_relayed_46 rfl ?_
          refine zr_aload_n 0 dX12_relayed_49 rfl ?_
          replace hf := zb1_s hf
          obtain ⟨v14, h15, hf⟩ := hf
          refine zr_get (zm_gR_g h15) zk12 (by decide) zl_887 dX12_relayed_50 ?_
          refine zr_iload_n 3 dX12_relayed_53 rfl ?_
          replace hf := zb1_s hf
          obtain ⟨v16, h17, hf⟩ := hf
          refine zr_iald h17 dX12_relayed_54 ?_
          refine zr_ldcw zl_1187 dX12_relayed_55 ?_
          replace hf := zb1_s hf
          obtain ⟨s18, hg, hf⟩ := hf
          have hj19 : zz K cX12_relayed (5, RX12, some .int, 3, 0, 0, some (.int r), mo) 0 0 71 [] [.int s18] m13 := by
            cases hf
            exact zr_iret dX12_relayed_71
          clear hf
          have hf := hg
          clear hg
          refine zr_icmp_lt 65 dX12_relayed_58 (by decide) (fun hc => ?_) (fun hc => ?_)
          · rw [if_pos hc] at hf
            refine zr_aload_n 0 dX12_relayed_65 rfl ?_
            replace hf := zb1_s hf
            obtain ⟨v20, h21, hf⟩ := hf
            refine zr_get (zm_gR_g h21) zk12 (by decide) zl_887 dX12_relayed_66 ?_
            refine zr_iload_n 3 dX12_relayed_69 rfl ?_
            replace hf := zb1_s hf
            obtain ⟨v22, h23, hf⟩ := hf
            refine zr_iald h23 dX12_relayed_70 ?_
            cases hf
            exact zr_lv [] rfl hj19
          · rw [if_neg hc] at hf
            refine zr_iconst (-1) dX12_relayed_61 (by decide) ?_
            refine zr_goto 71 dX12_relayed_62 (by decide) ?_
            cases hf
            exact zr_lv [] rfl hj19
        · rw [if_pos hc] at hf
          refine zr_iconst (-1) dX12_relayed_39 (by decide) ?_
          cases hf
          exact zr_iret dX12_relayed_40
theorem dX12_weather_0 : decode cX12_weather 0 = .ok (.aload_n 0, 1) := by decide +kernel
theorem dX12_weather_1 : decode cX12_weather 1 = .ok (.iconst 0, 1) := by decide +kernel
theorem dX12_weather_2 : decode cX12_weather 2 = .ok (.putfield 93, 3) := by decide +kernel
theorem dX12_weather_5 : decode cX12_weather 5 = .ok (.iload_n 2, 1) := by decide +kernel
theorem dX12_weather_6 : decode cX12_weather 6 = .ok (.iconst (-1), 1) := by decide +kernel
theorem dX12_weather_7 : decode cX12_weather 7 = .ok (.bipush 99, 2) := by decide +kernel
theorem dX12_weather_9 : decode cX12_weather 9 = .ok (.invokestatic 101, 3) := by decide +kernel
theorem dX12_weather_12 : decode cX12_weather 12 = .ok (.ifCond .eq 11, 3) := by decide +kernel
theorem dX12_weather_15 : decode cX12_weather 15 = .ok (.aload_n 0, 1) := by decide +kernel
theorem dX12_weather_16 : decode cX12_weather 16 = .ok (.iload_n 1, 1) := by decide +kernel
theorem dX12_weather_17 : decode cX12_weather 17 = .ok (.invokevirtual 298, 3) := by decide +kernel
theorem dX12_weather_20 : decode cX12_weather 20 = .ok (.ifCond .ne 5, 3) := by decide +kernel
theorem dX12_weather_23 : decode cX12_weather 23 = .ok (.iconst (-1), 1) := by decide +kernel
theorem dX12_weather_24 : decode cX12_weather 24 = .ok (.ireturn, 1) := by decide +kernel
theorem dX12_weather_25 : decode cX12_weather 25 = .ok (.iload_n 2, 1) := by decide +kernel
theorem dX12_weather_26 : decode cX12_weather 26 = .ok (.iconst (-1), 1) := by decide +kernel
theorem dX12_weather_27 : decode cX12_weather 27 = .ok (.if_icmp .eq 33, 3) := by decide +kernel
theorem dX12_weather_30 : decode cX12_weather 30 = .ok (.aload_n 0, 1) := by decide +kernel
theorem dX12_weather_31 : decode cX12_weather 31 = .ok (.iconst 0, 1) := by decide +kernel
theorem dX12_weather_32 : decode cX12_weather 32 = .ok (.iload_n 2, 1) := by decide +kernel
theorem dX12_weather_33 : decode cX12_weather 33 = .ok (.invokevirtual 279, 3) := by decide +kernel
theorem dX12_weather_36 : decode cX12_weather 36 = .ok (.ifCond .eq 7, 3) := by decide +kernel
theorem dX12_weather_39 : decode cX12_weather 39 = .ok (.iconst 1, 1) := by decide +kernel
theorem dX12_weather_40 : decode cX12_weather 40 = .ok (.goto 4, 3) := by decide +kernel
theorem dX12_weather_43 : decode cX12_weather 43 = .ok (.iconst 0, 1) := by decide +kernel
theorem dX12_weather_44 : decode cX12_weather 44 = .ok (.aload_n 0, 1) := by decide +kernel
theorem dX12_weather_45 : decode cX12_weather 45 = .ok (.iconst 1, 1) := by decide +kernel
theorem dX12_weather_46 : decode cX12_weather 46 = .ok (.iload_n 2, 1) := by decide +kernel
theorem dX12_weather_47 : decode cX12_weather 47 = .ok (.invokevirtual 279, 3) := by decide +kernel
theorem dX12_weather_50 : decode cX12_weather 50 = .ok (.ifCond .eq 7, 3) := by decide +kernel
theorem dX12_weather_53 : decode cX12_weather 53 = .ok (.iconst 2, 1) := by decide +kernel
theorem dX12_weather_54 : decode cX12_weather 54 = .ok (.goto 4, 3) := by decide +kernel
theorem dX12_weather_57 : decode cX12_weather 57 = .ok (.iconst 0, 1) := by decide +kernel
theorem dX12_weather_58 : decode cX12_weather 58 = .ok (.iadd, 1) := by decide +kernel
theorem dX12_weather_59 : decode cX12_weather 59 = .ok (.ireturn, 1) := by decide +kernel
theorem dX12_weather_60 : decode cX12_weather 60 = .ok (.iconst 0, 1) := by decide +kernel
theorem dX12_weather_61 : decode cX12_weather 61 = .ok (.istore_n 3, 1) := by decide +kernel
theorem dX12_weather_62 : decode cX12_weather 62 = .ok (.iconst 0, 1) := by decide +kernel
theorem dX12_weather_63 : decode cX12_weather 63 = .ok (.istore 4, 2) := by decide +kernel
theorem dX12_weather_65 : decode cX12_weather 65 = .ok (.iconst 0, 1) := by decide +kernel
theorem dX12_weather_66 : decode cX12_weather 66 = .ok (.istore 5, 2) := by decide +kernel
theorem dX12_weather_68 : decode cX12_weather 68 = .ok (.iload 5, 2) := by decide +kernel
theorem dX12_weather_70 : decode cX12_weather 70 = .ok (.bipush 99, 2) := by decide +kernel
theorem dX12_weather_72 : decode cX12_weather 72 = .ok (.if_icmp .gt 46, 3) := by decide +kernel
theorem dX12_weather_75 : decode cX12_weather 75 = .ok (.aload_n 0, 1) := by decide +kernel
theorem dX12_weather_76 : decode cX12_weather 76 = .ok (.iconst 0, 1) := by decide +kernel
theorem dX12_weather_77 : decode cX12_weather 77 = .ok (.iload 5, 2) := by decide +kernel
theorem dX12_weather_79 : decode cX12_weather 79 = .ok (.invokevirtual 279, 3) := by decide +kernel
theorem dX12_weather_82 : decode cX12_weather 82 = .ok (.ifCond .ne 13, 3) := by decide +kernel
theorem dX12_weather_85 : decode cX12_weather 85 = .ok (.aload_n 0, 1) := by decide +kernel
theorem dX12_weather_86 : decode cX12_weather 86 = .ok (.iconst 1, 1) := by decide +kernel
theorem dX12_weather_87 : decode cX12_weather 87 = .ok (.iload 5, 2) := by decide +kernel
theorem dX12_weather_89 : decode cX12_weather 89 = .ok (.invokevirtual 279, 3) := by decide +kernel
theorem dX12_weather_92 : decode cX12_weather 92 = .ok (.ifCond .eq 7, 3) := by decide +kernel
theorem dX12_weather_95 : decode cX12_weather 95 = .ok (.iconst 0, 1) := by decide +kernel
theorem dX12_weather_96 : decode cX12_weather 96 = .ok (.goto 7, 3) := by decide +kernel
theorem dX12_weather_99 : decode cX12_weather 99 = .ok (.iload 4, 2) := by decide +kernel
theorem dX12_weather_101 : decode cX12_weather 101 = .ok (.iconst 1, 1) := by decide +kernel
theorem dX12_weather_102 : decode cX12_weather 102 = .ok (.iadd, 1) := by decide +kernel
theorem dX12_weather_103 : decode cX12_weather 103 = .ok (.istore 4, 2) := by decide +kernel
theorem dX12_weather_105 : decode cX12_weather 105 = .ok (.iload_n 3, 1) := by decide +kernel
theorem dX12_weather_106 : decode cX12_weather 106 = .ok (.iload 4, 2) := by decide +kernel
theorem dX12_weather_108 : decode cX12_weather 108 = .ok (.invokestatic 168, 3) := by decide +kernel
theorem dX12_weather_111 : decode cX12_weather 111 = .ok (.istore_n 3, 1) := by decide +kernel
theorem dX12_weather_112 : decode cX12_weather 112 = .ok (.iinc 5 1, 3) := by decide +kernel
theorem dX12_weather_115 : decode cX12_weather 115 = .ok (.goto (-47), 3) := by decide +kernel
theorem dX12_weather_118 : decode cX12_weather 118 = .ok (.iload_n 3, 1) := by decide +kernel
theorem dX12_weather_119 : decode cX12_weather 119 = .ok (.ireturn, 1) := by decide +kernel
noncomputable def fX12_weather_b95  : Option (Int32) :=
  some 0
noncomputable def fX12_weather_l68 (m6 : zM) (x0 : Nat) (F11 : Int32 → Int32 → Int32 → Option (Int32)) (x3_8 : Int32) (x4_9 : Int32) (x5_10 : Int32) : Option (Int32) :=
  if 99 < x5_10 then (
  some x3_8)
  else (
  zb1 (fX12_isSky m6 x0 0 x5_10) fun v16 =>
  zb1 (if v16 = 0 then (
  zb1 (fX12_isSky m6 x0 1 x5_10) fun v23 =>
  if v23 = 0 then (
  some (x4_9 + 1))
  else (
  fX12_weather_b95))
  else (
  fX12_weather_b95) : Option (Int32)) fun (s17 : Int32) =>
  zb1 (fX12_greater m6 x3_8 s17) fun v21 =>
  F11 v21 s17 (x5_10 + 1))
noncomputable def fX12_weather (μ : zM) (x0 : Nat) (x1 : Int32) (x2 : Int32) : Option (Int32 × zM) := zgd (zm_ck μ 12 x0) <|
  zb1 (zm_p μ 12 x0 0 (.int 0)) fun m1 =>
  zb1 (fX12_in m1 x2 (-1) 99) fun v4 =>
  if v4 = 0 then (
  some ((-1), m1))
  else (
  zb2 (fX12_hand m1 x0 x1) fun v7 m6 =>
  if v7 = 0 then (
  some ((-1), m6))
  else (
  if x2 = (-1) then (
  zb1 (zf3 (fX12_weather_l68 m6 x0) zfu 0 0 0 : Option (Int32)) fun (x3_13 : Int32) =>
  some (x3_13, m6))
  else (
  zb1 (fX12_isSky m6 x0 0 x2) fun v26 =>
  zb1 (if v26 = 0 then (
  some 0)
  else (
  some 1) : Option (Int32)) fun (s27 : Int32) =>
  zb1 (fX12_isSky m6 x0 1 x2) fun v30 =>
  zb1 (if v30 = 0 then (
  some 0)
  else (
  some 2) : Option (Int32)) fun (s31 : Int32) =>
  some (s27 + s31, m6))))
theorem fX12_weather_ck {μ : zM} {x0 : Nat} {x1 : Int32} {x2 : Int32} {z : Int32 × zM} (h : fX12_weather μ x0 x1 x2 = some z) : zm_ck μ 12 x0 = true := (zgd_s h).1
set_option maxHeartbeats 4000000 in
set_option maxRecDepth 100000 in
theorem cX12_weather_ok {μ : zM} {x0 : Nat} {x1 : Int32} {x2 : Int32} {r : Int32} {mo : zM} (hf : fX12_weather μ x0 x1 x2 = some (r, mo)) : zC yX12_weather cX12_weather 6 (some .int) 3 0 0 [.ref x0, .int x1, .int x2] μ (some (.int r)) mo := by
  replace hf := (zgd_s hf).2
  refine zC.of (by decide) (Nat.le_of_ble_eq_true rfl) (fun K hin => ?_)
  clear hin
  show zz K cX12_weather (6, RX12, some .int, 3, 0, 0, some (.int r), mo) 0 0 0 [(0, .ref x0), (1, .int x1), (2, .int x2)] [] μ
  refine zr_aload_n 0 dX12_weather_0 rfl ?_
  refine zr_iconst 0 dX12_weather_1 (by decide) ?_
  replace hf := zb1_s hf
  obtain ⟨m1, h2, hf⟩ := hf
  refine zr_put h2 zk12 (by decide) zl_899 rfl rfl rfl dX12_weather_2 ?_
  refine zr_iload_n 2 dX12_weather_5 rfl ?_
  refine zr_iconst (-1) dX12_weather_6 (by decide) ?_
  refine zr_bipush 99 dX12_weather_7 (by decide) ?_
  replace hf := zb1_s hf
  obtain ⟨v4, h3, hf⟩ := hf
  refine zr_callS [.int x2, .int (-1), .int 99] (cX12_in_ok h3) zvs_X12_in zl_898 zl_897 rfl (Nat.le_of_ble_eq_true rfl) (Nat.le_of_ble_eq_true rfl) (Nat.le_of_ble_eq_true rfl) (Nat.le_of_ble_eq_true rfl) dX12_weather_9 rfl ?_
  refine zr_if_eq 23 dX12_weather_12 (by decide) (fun hc => ?_) (fun hc => ?_)
  · rw [if_pos hc] at hf
    refine zr_iconst (-1) dX12_weather_23 (by decide) ?_
    cases hf
    exact zr_iret dX12_weather_24
  · rw [if_neg hc] at hf
    refine zr_aload_n 0 dX12_weather_15 rfl ?_
    refine zr_iload_n 1 dX12_weather_16 rfl ?_
    replace hf := zb2_s hf
    obtain ⟨v7, m6, h5, hf⟩ := hf
    refine zr_callV (ci := 12) [.int x1] (cX12_hand_ok h5) zvs_X12_hand zl_1057 zl_1058 (fX12_hand_ck h5) rfl rfl zl_1056 rfl (Nat.le_of_ble_eq_true rfl) (Nat.le_of_ble_eq_true rfl) (Nat.le_of_ble_eq_true rfl) (Nat.le_of_ble_eq_true rfl) dX12_weather_17 rfl ?_
    refine zr_if_ne 25 dX12_weather_20 (by decide) (fun hc => ?_) (fun hc => ?_)
    · rw [if_neg hc] at hf
      refine zr_iload_n 2 dX12_weather_25 rfl ?_
      refine zr_iconst (-1) dX12_weather_26 (by decide) ?_
      refine zr_icmp_eq 60 dX12_weather_27 (by decide) (fun hc => ?_) (fun hc => ?_)
      · rw [if_pos hc] at hf
        refine zr_iconst 0 dX12_weather_60 (by decide) ?_
        refine zr_istore_n [(3, .int 0), (0, .ref x0), (1, .int x1), (2, .int x2)] dX12_weather_61 (Nat.le_of_ble_eq_true rfl) rfl ?_
        refine zr_iconst 0 dX12_weather_62 (by decide) ?_
        refine zr_istore [(4, .int 0), (3, .int 0), (0, .ref x0), (1, .int x1), (2, .int x2)] dX12_weather_63 (Nat.le_of_ble_eq_true rfl) rfl ?_
        refine zr_iconst 0 dX12_weather_65 (by decide) ?_
        refine zr_istore [(5, .int 0), (4, .int 0), (3, .int 0), (0, .ref x0), (1, .int x1), (2, .int x2)] dX12_weather_66 (Nat.le_of_ble_eq_true rfl) rfl ?_
        replace hf := zb1_s hf
        obtain ⟨x3_13, hg, hf⟩ := hf
        have hj14 : zz K cX12_weather (6, RX12, some .int, 3, 0, 0, some (.int r), mo) 0 0 118 [(3, .int x3_13)] [] m6 := by
          refine zr_iload_n 0 dX12_weather_118 rfl ?_
          cases hf
          exact zr_iret dX12_weather_119
        clear hf
        have hf := hg
        clear hg
        have hL24 : ∀ (n : Nat) (x3_8 : Int32) (x4_9 : Int32) (x5_10 : Int32), zf3 (fX12_weather_l68 m6 x0) n x3_8 x4_9 x5_10 = some x3_13 → zz K cX12_weather (6, RX12, some .int, 3, 0, 0, some (.int r), mo) 0 0 68 [(0, .ref x0), (3, .int x3_8), (4, .int x4_9), (5, .int x5_10)] [] m6 := by
          intro n
          induction n with
          | zero => intro x3_8 x4_9 x5_10 hf; cases hf
          | succ n ih12 =>
            intro x3_8 x4_9 x5_10 hf
            replace hf := zf3_s hf
            generalize zf3 (fX12_weather_l68 m6 x0) n = F11 at hf ih12
            unfold fX12_weather_l68 at hf
            refine zr_iload 3 dX12_weather_68 rfl ?_
            refine zr_bipush 99 dX12_weather_70 (by decide) ?_
            refine zr_icmp_gt 118 dX12_weather_72 (by decide) (fun hc => ?_) (fun hc => ?_)
            · rw [if_pos hc] at hf
              cases hf
              exact zr_lv [1] rfl hj14
            · rw [if_neg hc] at hf
              refine zr_aload_n 0 dX12_weather_75 rfl ?_
              refine zr_iconst 0 dX12_weather_76 (by decide) ?_
              refine zr_iload 3 dX12_weather_77 rfl ?_
              replace hf := zb1_s hf
              obtain ⟨v16, h15, hf⟩ := hf
              refine zr_callV (ci := 12) [.int 0, .int x5_10] (cX12_isSky_ok h15) zvs_X12_isSky zl_1035 zl_1036 (fX12_isSky_ck h15) rfl rfl zl_1034 rfl (Nat.le_of_ble_eq_true rfl) (Nat.le_of_ble_eq_true rfl) (Nat.le_of_ble_eq_true rfl) (Nat.le_of_ble_eq_true rfl) dX12_weather_79 rfl ?_
              replace hf := zb1_s hf
              obtain ⟨s17, hg, hf⟩ := hf
              have hj18 : zz K cX12_weather (6, RX12, some .int, 3, 0, 0, some (.int r), mo) 0 0 103 [(0, .ref x0), (3, .int x3_8), (5, .int x5_10)] [.int s17] m6 := by
                refine zr_istore [(4, .int s17), (0, .ref x0), (3, .int x3_8), (5, .int x5_10)] dX12_weather_103 (Nat.le_of_ble_eq_true rfl) rfl ?_
                refine zr_iload_n 2 dX12_weather_105 rfl ?_
                refine zr_iload 0 dX12_weather_106 rfl ?_
                replace hf := zb1_s hf
                obtain ⟨v21, h20, hf⟩ := hf
                refine zr_callS [.int x3_8, .int s17] (cX12_greater_ok h20) zvs_X12_greater zl_940 zl_939 rfl (Nat.le_of_ble_eq_true rfl) (Nat.le_of_ble_eq_true rfl) (Nat.le_of_ble_eq_true rfl) (Nat.le_of_ble_eq_true rfl) dX12_weather_108 rfl ?_
                refine zr_istore_n [(3, .int v21), (4, .int s17), (0, .ref x0), (5, .int x5_10)] dX12_weather_111 (Nat.le_of_ble_eq_true rfl) rfl ?_
                refine zr_iinc (j := 3) (x5_10 + 1) [(5, .int (x5_10 + 1)), (3, .int v21), (4, .int s17), (0, .ref x0)] dX12_weather_112 rfl rfl (Nat.le_of_ble_eq_true rfl) rfl ?_
                refine zr_goto 68 dX12_weather_115 (by decide) ?_
                exact zr_lv [3, 1, 2, 0] rfl (ih12 v21 s17 (x5_10 + 1) hf)
              clear hf
              have hf := hg
              clear hg
              have hb19 : ∀ (_ : Unit), fX12_weather_b95 = some s17 → zz K cX12_weather (6, RX12, some .int, 3, 0, 0, some (.int r), mo) 0 0 95 [(0, .ref x0), (3, .int x3_8), (5, .int x5_10)] [] m6 := by
                intro _ hf
                unfold fX12_weather_b95 at hf
                refine zr_iconst 0 dX12_weather_95 (by decide) ?_
                refine zr_goto 103 dX12_weather_96 (by decide) ?_
                cases hf
                exact zr_lv [0, 1, 2] rfl hj18
              refine zr_if_ne 95 dX12_weather_82 (by decide) (fun hc => ?_) (fun hc => ?_)
              · rw [if_neg hc] at hf
                exact zr_lv [0, 1, 3] rfl (hb19 () hf)
              · rw [if_pos hc] at hf
                refine zr_aload_n 0 dX12_weather_85 rfl ?_
                refine zr_iconst 1 dX12_weather_86 (by decide) ?_
                refine zr_iload 3 dX12_weather_87 rfl ?_
                replace hf := zb1_s hf
                obtain ⟨v23, h22, hf⟩ := hf
                refine zr_callV (ci := 12) [.int 1, .int x5_10] (cX12_isSky_ok h22) zvs_X12_isSky zl_1035 zl_1036 (fX12_isSky_ck h22) rfl rfl zl_1034 rfl (Nat.le_of_ble_eq_true rfl) (Nat.le_of_ble_eq_true rfl) (Nat.le_of_ble_eq_true rfl) (Nat.le_of_ble_eq_true rfl) dX12_weather_89 rfl ?_
                refine zr_if_eq 99 dX12_weather_92 (by decide) (fun hc => ?_) (fun hc => ?_)
                · rw [if_pos hc] at hf
                  refine zr_iload 2 dX12_weather_99 rfl ?_
                  refine zr_iconst 1 dX12_weather_101 (by decide) ?_
                  refine zr_iadd dX12_weather_102 ?_
                  cases hf
                  exact zr_lv [0, 1, 3] rfl hj18
                · rw [if_neg hc] at hf
                  exact zr_lv [0, 1, 3] rfl (hb19 () hf)
        exact zr_lv [3, 2, 1, 0] rfl (hL24 _ 0 0 0 hf)
      · rw [if_neg hc] at hf
        refine zr_aload_n 0 dX12_weather_30 rfl ?_
        refine zr_iconst 0 dX12_weather_31 (by decide) ?_
        refine zr_iload_n 2 dX12_weather_32 rfl ?_
        replace hf := zb1_s hf
        obtain ⟨v26, h25, hf⟩ := hf
        refine zr_callV (ci := 12) [.int 0, .int x2] (cX12_isSky_ok h25) zvs_X12_isSky zl_1035 zl_1036 (fX12_isSky_ck h25) rfl rfl zl_1034 rfl (Nat.le_of_ble_eq_true rfl) (Nat.le_of_ble_eq_true rfl) (Nat.le_of_ble_eq_true rfl) (Nat.le_of_ble_eq_true rfl) dX12_weather_33 rfl ?_
        replace hf := zb1_s hf
        obtain ⟨s27, hg, hf⟩ := hf
        have hj28 : zz K cX12_weather (6, RX12, some .int, 3, 0, 0, some (.int r), mo) 0 0 44 [(0, .ref x0), (2, .int x2)] [.int s27] m6 := by
          refine zr_aload_n 0 dX12_weather_44 rfl ?_
          refine zr_iconst 1 dX12_weather_45 (by decide) ?_
          refine zr_iload_n 1 dX12_weather_46 rfl ?_
          replace hf := zb1_s hf
          obtain ⟨v30, h29, hf⟩ := hf
          refine zr_callV (ci := 12) [.int 1, .int x2] (cX12_isSky_ok h29) zvs_X12_isSky zl_1035 zl_1036 (fX12_isSky_ck h29) rfl rfl zl_1034 rfl (Nat.le_of_ble_eq_true rfl) (Nat.le_of_ble_eq_true rfl) (Nat.le_of_ble_eq_true rfl) (Nat.le_of_ble_eq_true rfl) dX12_weather_47 rfl ?_
          replace hf := zb1_s hf
          obtain ⟨s31, hg, hf⟩ := hf
          have hj32 : zz K cX12_weather (6, RX12, some .int, 3, 0, 0, some (.int r), mo) 0 0 58 [] [.int s31, .int s27] m6 := by
            refine zr_iadd dX12_weather_58 ?_
            cases hf
            exact zr_iret dX12_weather_59
          clear hf
          have hf := hg
          clear hg
          refine zr_if_eq 57 dX12_weather_50 (by decide) (fun hc => ?_) (fun hc => ?_)
          · rw [if_pos hc] at hf
            refine zr_iconst 0 dX12_weather_57 (by decide) ?_
            cases hf
            exact zr_lv [] rfl hj32
          · rw [if_neg hc] at hf
            refine zr_iconst 2 dX12_weather_53 (by decide) ?_
            refine zr_goto 58 dX12_weather_54 (by decide) ?_
            cases hf
            exact zr_lv [] rfl hj32
        clear hf
        have hf := hg
        clear hg
        refine zr_if_eq 43 dX12_weather_36 (by decide) (fun hc => ?_) (fun hc => ?_)
        · rw [if_pos hc] at hf
          refine zr_iconst 0 dX12_weather_43 (by decide) ?_
          cases hf
          exact zr_lv [0, 2] rfl hj28
        · rw [if_neg hc] at hf
          refine zr_iconst 1 dX12_weather_39 (by decide) ?_
          refine zr_goto 44 dX12_weather_40 (by decide) ?_
          cases hf
          exact zr_lv [0, 2] rfl hj28
    · rw [if_pos hc] at hf
      refine zr_iconst (-1) dX12_weather_23 (by decide) ?_
      cases hf
      exact zr_iret dX12_weather_24
theorem dX12_isNearer_0 : decode cX12_isNearer 0 = .ok (.aload_n 0, 1) := by decide +kernel
theorem dX12_isNearer_1 : decode cX12_isNearer 1 = .ok (.bipush 33, 2) := by decide +kernel
theorem dX12_isNearer_3 : decode cX12_isNearer 3 = .ok (.iload_n 1, 1) := by decide +kernel
theorem dX12_isNearer_4 : decode cX12_isNearer 4 = .ok (.iadd, 1) := by decide +kernel
theorem dX12_isNearer_5 : decode cX12_isNearer 5 = .ok (.invokevirtual 269, 3) := by decide +kernel
theorem dX12_isNearer_8 : decode cX12_isNearer 8 = .ok (.aload_n 0, 1) := by decide +kernel
theorem dX12_isNearer_9 : decode cX12_isNearer 9 = .ok (.bipush 33, 2) := by decide +kernel
theorem dX12_isNearer_11 : decode cX12_isNearer 11 = .ok (.iload_n 2, 1) := by decide +kernel
theorem dX12_isNearer_12 : decode cX12_isNearer 12 = .ok (.iadd, 1) := by decide +kernel
theorem dX12_isNearer_13 : decode cX12_isNearer 13 = .ok (.invokevirtual 269, 3) := by decide +kernel
theorem dX12_isNearer_16 : decode cX12_isNearer 16 = .ok (.invokestatic 282, 3) := by decide +kernel
theorem dX12_isNearer_19 : decode cX12_isNearer 19 = .ok (.istore 4, 2) := by decide +kernel
theorem dX12_isNearer_21 : decode cX12_isNearer 21 = .ok (.iload_n 3, 1) := by decide +kernel
theorem dX12_isNearer_22 : decode cX12_isNearer 22 = .ok (.iconst (-1), 1) := by decide +kernel
theorem dX12_isNearer_23 : decode cX12_isNearer 23 = .ok (.if_icmp .ne 9, 3) := by decide +kernel
theorem dX12_isNearer_26 : decode cX12_isNearer 26 = .ok (.ldc_w 423, 3) := by decide +kernel
theorem dX12_isNearer_29 : decode cX12_isNearer 29 = .ok (.goto 22, 3) := by decide +kernel
theorem dX12_isNearer_32 : decode cX12_isNearer 32 = .ok (.aload_n 0, 1) := by decide +kernel
theorem dX12_isNearer_33 : decode cX12_isNearer 33 = .ok (.bipush 33, 2) := by decide +kernel
theorem dX12_isNearer_35 : decode cX12_isNearer 35 = .ok (.iload_n 1, 1) := by decide +kernel
theorem dX12_isNearer_36 : decode cX12_isNearer 36 = .ok (.iadd, 1) := by decide +kernel
theorem dX12_isNearer_37 : decode cX12_isNearer 37 = .ok (.invokevirtual 269, 3) := by decide +kernel
theorem dX12_isNearer_40 : decode cX12_isNearer 40 = .ok (.aload_n 0, 1) := by decide +kernel
theorem dX12_isNearer_41 : decode cX12_isNearer 41 = .ok (.bipush 33, 2) := by decide +kernel
theorem dX12_isNearer_43 : decode cX12_isNearer 43 = .ok (.iload_n 3, 1) := by decide +kernel
theorem dX12_isNearer_44 : decode cX12_isNearer 44 = .ok (.iadd, 1) := by decide +kernel
theorem dX12_isNearer_45 : decode cX12_isNearer 45 = .ok (.invokevirtual 269, 3) := by decide +kernel
theorem dX12_isNearer_48 : decode cX12_isNearer 48 = .ok (.invokestatic 282, 3) := by decide +kernel
theorem dX12_isNearer_51 : decode cX12_isNearer 51 = .ok (.istore 5, 2) := by decide +kernel
theorem dX12_isNearer_53 : decode cX12_isNearer 53 = .ok (.iload 4, 2) := by decide +kernel
theorem dX12_isNearer_55 : decode cX12_isNearer 55 = .ok (.iload 5, 2) := by decide +kernel
theorem dX12_isNearer_57 : decode cX12_isNearer 57 = .ok (.if_icmp .lt 15, 3) := by decide +kernel
theorem dX12_isNearer_60 : decode cX12_isNearer 60 = .ok (.iload 4, 2) := by decide +kernel
theorem dX12_isNearer_62 : decode cX12_isNearer 62 = .ok (.iload 5, 2) := by decide +kernel
theorem dX12_isNearer_64 : decode cX12_isNearer 64 = .ok (.if_icmp .ne 12, 3) := by decide +kernel
theorem dX12_isNearer_67 : decode cX12_isNearer 67 = .ok (.iload_n 2, 1) := by decide +kernel
theorem dX12_isNearer_68 : decode cX12_isNearer 68 = .ok (.iload_n 3, 1) := by decide +kernel
theorem dX12_isNearer_69 : decode cX12_isNearer 69 = .ok (.if_icmp .ge 7, 3) := by decide +kernel
theorem dX12_isNearer_72 : decode cX12_isNearer 72 = .ok (.iconst 1, 1) := by decide +kernel
theorem dX12_isNearer_73 : decode cX12_isNearer 73 = .ok (.goto 4, 3) := by decide +kernel
theorem dX12_isNearer_76 : decode cX12_isNearer 76 = .ok (.iconst 0, 1) := by decide +kernel
theorem dX12_isNearer_77 : decode cX12_isNearer 77 = .ok (.ireturn, 1) := by decide +kernel
noncomputable def fX12_isNearer (μ : zM) (x0 : Nat) (x1 : Int32) (x2 : Int32) (x3 : Int32) : Option (Int32) := zgd (zm_ck μ 12 x0) <|
  zb1 (fX12_of μ x0 (33 + x1)) fun v2 =>
  zb1 (fX12_of μ x0 (33 + x2)) fun v4 =>
  zb1 (fX12_apart μ v2 v4) fun v6 =>
  zb1 (if x3 = (-1) then (
  some 1000000)
  else (
  zb1 (fX12_of μ x0 (33 + x1)) fun v14 =>
  zb1 (fX12_of μ x0 (33 + x3)) fun v16 =>
  zb1 (fX12_apart μ v14 v16) fun v18 =>
  some v18) : Option (Int32)) fun (s7 : Int32) =>
  zb1 (if v6 < s7 then (
  some 1)
  else (
  if v6 = s7 then (
  if x3 ≤ x2 then (
  some 0)
  else (
  some 1))
  else (
  some 0)) : Option (Int32)) fun (s9 : Int32) =>
  zb1 (zbz s9) fun v11 =>
  some v11
theorem fX12_isNearer_ck {μ : zM} {x0 : Nat} {x1 : Int32} {x2 : Int32} {x3 : Int32} {z : Int32} (h : fX12_isNearer μ x0 x1 x2 x3 = some z) : zm_ck μ 12 x0 = true := (zgd_s h).1
set_option maxHeartbeats 4000000 in
set_option maxRecDepth 100000 in
theorem cX12_isNearer_ok {μ : zM} {x0 : Nat} {x1 : Int32} {x2 : Int32} {x3 : Int32} {r : Int32} (hf : fX12_isNearer μ x0 x1 x2 x3 = some r) : zC yX12_isNearer cX12_isNearer 6 (some .boolean) 1 0 0 [.ref x0, .int x1, .int x2, .int x3] μ (some (.int r)) μ := by
  replace hf := (zgd_s hf).2
  refine zC.of (by decide) (Nat.le_of_ble_eq_true rfl) (fun K hin => ?_)
  clear hin
  show zz K cX12_isNearer (6, RX12, some .boolean, 1, 0, 0, some (.int r), μ) 0 0 0 [(0, .ref x0), (1, .int x1), (2, .int x2), (3, .int x3)] [] μ
  refine zr_aload_n 0 dX12_isNearer_0 rfl ?_
  refine zr_bipush 33 dX12_isNearer_1 (by decide) ?_
  refine zr_iload_n 1 dX12_isNearer_3 rfl ?_
  refine zr_iadd dX12_isNearer_4 ?_
  replace hf := zb1_s hf
  obtain ⟨v2, h1, hf⟩ := hf
  refine zr_callV (ci := 12) [.int (33 + x1)] (cX12_of_ok h1) zvs_X12_of zl_1029 zl_1030 (fX12_of_ck h1) rfl rfl zl_1028 rfl (Nat.le_of_ble_eq_true rfl) (Nat.le_of_ble_eq_true rfl) (Nat.le_of_ble_eq_true rfl) (Nat.le_of_ble_eq_true rfl) dX12_isNearer_5 rfl ?_
  refine zr_aload_n 0 dX12_isNearer_8 rfl ?_
  refine zr_bipush 33 dX12_isNearer_9 (by decide) ?_
  refine zr_iload_n 2 dX12_isNearer_11 rfl ?_
  refine zr_iadd dX12_isNearer_12 ?_
  replace hf := zb1_s hf
  obtain ⟨v4, h3, hf⟩ := hf
  refine zr_callV (ci := 12) [.int (33 + x2)] (cX12_of_ok h3) zvs_X12_of zl_1029 zl_1030 (fX12_of_ck h3) rfl rfl zl_1028 rfl (Nat.le_of_ble_eq_true rfl) (Nat.le_of_ble_eq_true rfl) (Nat.le_of_ble_eq_true rfl) (Nat.le_of_ble_eq_true rfl) dX12_isNearer_13 rfl ?_
  replace hf := zb1_s hf
  obtain ⟨v6, h5, hf⟩ := hf
  refine zr_callS [.int v2, .int v4] (cX12_apart_ok h5) zvs_X12_apart zl_1039 zl_1038 rfl (Nat.le_of_ble_eq_true rfl) (Nat.le_of_ble_eq_true rfl) (Nat.le_of_ble_eq_true rfl) (Nat.le_of_ble_eq_true rfl) dX12_isNearer_16 rfl ?_
  refine zr_istore [(4, .int v6), (0, .ref x0), (1, .int x1), (2, .int x2), (3, .int x3)] dX12_isNearer_19 (Nat.le_of_ble_eq_true rfl) rfl ?_
  refine zr_iload_n 4 dX12_isNearer_21 rfl ?_
  refine zr_iconst (-1) dX12_isNearer_22 (by decide) ?_
  replace hf := zb1_s hf
  obtain ⟨s7, hg, hf⟩ := hf
  have hj8 : zz K cX12_isNearer (6, RX12, some .boolean, 1, 0, 0, some (.int r), μ) 0 0 51 [(2, .int x2), (3, .int x3), (4, .int v6)] [.int s7] μ := by
    refine zr_istore [(5, .int s7), (2, .int x2), (3, .int x3), (4, .int v6)] dX12_isNearer_51 (Nat.le_of_ble_eq_true rfl) rfl ?_
    refine zr_iload 3 dX12_isNearer_53 rfl ?_
    refine zr_iload 0 dX12_isNearer_55 rfl ?_
    replace hf := zb1_s hf
    obtain ⟨s9, hg, hf⟩ := hf
    have hj10 : zz K cX12_isNearer (6, RX12, some .boolean, 1, 0, 0, some (.int r), μ) 0 0 77 [] [.int s9] μ := by
      replace hf := zb1_s hf
      obtain ⟨v11, hn12, hf⟩ := hf
      replace hn12 := zbz_s hn12
      obtain ⟨hn12, rfl⟩ := hn12
      cases hf
      exact zr_zret hn12 dX12_isNearer_77
    clear hf
    have hf := hg
    clear hg
    refine zr_icmp_lt 72 dX12_isNearer_57 (by decide) (fun hc => ?_) (fun hc => ?_)
    · rw [if_pos hc] at hf
      refine zr_iconst 1 dX12_isNearer_72 (by decide) ?_
      refine zr_goto 77 dX12_isNearer_73 (by decide) ?_
      cases hf
      exact zr_lv [] rfl hj10
    · rw [if_neg hc] at hf
      refine zr_iload 3 dX12_isNearer_60 rfl ?_
      refine zr_iload 0 dX12_isNearer_62 rfl ?_
      refine zr_icmp_ne 76 dX12_isNearer_64 (by decide) (fun hc => ?_) (fun hc => ?_)
      · rw [if_neg hc] at hf
        refine zr_iconst 0 dX12_isNearer_76 (by decide) ?_
        cases hf
        exact zr_lv [] rfl hj10
      · rw [if_pos hc] at hf
        refine zr_iload_n 1 dX12_isNearer_67 rfl ?_
        refine zr_iload_n 2 dX12_isNearer_68 rfl ?_
        refine zr_icmp_ge 76 dX12_isNearer_69 (by decide) (fun hc => ?_) (fun hc => ?_)
        · rw [if_pos hc] at hf
          refine zr_iconst 0 dX12_isNearer_76 (by decide) ?_
          cases hf
          exact zr_lv [] rfl hj10
        · rw [if_neg hc] at hf
          refine zr_iconst 1 dX12_isNearer_72 (by decide) ?_
          refine zr_goto 77 dX12_isNearer_73 (by decide) ?_
          cases hf
          exact zr_lv [] rfl hj10
  clear hf
  have hf := hg
  clear hg
  refine zr_icmp_ne 32 dX12_isNearer_23 (by decide) (fun hc => ?_) (fun hc => ?_)
  · rw [if_neg hc] at hf
    refine zr_aload_n 1 dX12_isNearer_32 rfl ?_
    refine zr_bipush 33 dX12_isNearer_33 (by decide) ?_
    refine zr_iload_n 2 dX12_isNearer_35 rfl ?_
    refine zr_iadd dX12_isNearer_36 ?_
    replace hf := zb1_s hf
    obtain ⟨v14, h13, hf⟩ := hf
    refine zr_callV (ci := 12) [.int (33 + x1)] (cX12_of_ok h13) zvs_X12_of zl_1029 zl_1030 (fX12_of_ck h13) rfl rfl zl_1028 rfl (Nat.le_of_ble_eq_true rfl) (Nat.le_of_ble_eq_true rfl) (Nat.le_of_ble_eq_true rfl) (Nat.le_of_ble_eq_true rfl) dX12_isNearer_37 rfl ?_
    refine zr_aload_n 1 dX12_isNearer_40 rfl ?_
    refine zr_bipush 33 dX12_isNearer_41 (by decide) ?_
    refine zr_iload_n 4 dX12_isNearer_43 rfl ?_
    refine zr_iadd dX12_isNearer_44 ?_
    replace hf := zb1_s hf
    obtain ⟨v16, h15, hf⟩ := hf
    refine zr_callV (ci := 12) [.int (33 + x3)] (cX12_of_ok h15) zvs_X12_of zl_1029 zl_1030 (fX12_of_ck h15) rfl rfl zl_1028 rfl (Nat.le_of_ble_eq_true rfl) (Nat.le_of_ble_eq_true rfl) (Nat.le_of_ble_eq_true rfl) (Nat.le_of_ble_eq_true rfl) dX12_isNearer_45 rfl ?_
    replace hf := zb1_s hf
    obtain ⟨v18, h17, hf⟩ := hf
    refine zr_callS [.int v14, .int v16] (cX12_apart_ok h17) zvs_X12_apart zl_1039 zl_1038 rfl (Nat.le_of_ble_eq_true rfl) (Nat.le_of_ble_eq_true rfl) (Nat.le_of_ble_eq_true rfl) (Nat.le_of_ble_eq_true rfl) dX12_isNearer_48 rfl ?_
    cases hf
    exact zr_lv [3, 4, 0] rfl hj8
  · rw [if_pos hc] at hf
    refine zr_ldcw zl_1187 dX12_isNearer_26 ?_
    refine zr_goto 51 dX12_isNearer_29 (by decide) ?_
    cases hf
    exact zr_lv [3, 4, 0] rfl hj8
theorem zl_1292 : Cond.code yX12_isNearer cX12_isNearer 6 (some .boolean) ∈ zt := zt_at 2013 (by decide +kernel)
theorem zvs_X12_isNearer : zvS yX12_isNearer cX12_isNearer 6 (some .boolean) 3 := ⟨zl_1292, zl_893, ⟨by decide +kernel, by decide +kernel, by decide +kernel⟩, by decide⟩
theorem zl_1293 : Cond.methodLink RX12 514 yX12_isNearer ∈ zt := zt_at 2010 (by decide +kernel)
theorem zl_1294 : Cond.instanceMethod yX12_isNearer ∈ zt := zt_at 2012 (by decide +kernel)
theorem zl_1295 : Cond.selects RX12 yX12_isNearer yX12_isNearer ∈ zt := zt_at 126 (by decide +kernel)
theorem dX12_nextFor_0 : decode cX12_nextFor 0 = .ok (.iconst (-1), 1) := by decide +kernel
theorem dX12_nextFor_1 : decode cX12_nextFor 1 = .ok (.istore_n 2, 1) := by decide +kernel
theorem dX12_nextFor_2 : decode cX12_nextFor 2 = .ok (.iconst 0, 1) := by decide +kernel
theorem dX12_nextFor_3 : decode cX12_nextFor 3 = .ok (.istore_n 3, 1) := by decide +kernel
theorem dX12_nextFor_4 : decode cX12_nextFor 4 = .ok (.iload_n 3, 1) := by decide +kernel
theorem dX12_nextFor_5 : decode cX12_nextFor 5 = .ok (.aload_n 0, 1) := by decide +kernel
theorem dX12_nextFor_6 : decode cX12_nextFor 6 = .ok (.getfield 276, 3) := by decide +kernel
theorem dX12_nextFor_9 : decode cX12_nextFor 9 = .ok (.if_icmp .ge 47, 3) := by decide +kernel
theorem dX12_nextFor_12 : decode cX12_nextFor 12 = .ok (.aload_n 0, 1) := by decide +kernel
theorem dX12_nextFor_13 : decode cX12_nextFor 13 = .ok (.iload_n 3, 1) := by decide +kernel
theorem dX12_nextFor_14 : decode cX12_nextFor 14 = .ok (.iconst 1, 1) := by decide +kernel
theorem dX12_nextFor_15 : decode cX12_nextFor 15 = .ok (.invokevirtual 391, 3) := by decide +kernel
theorem dX12_nextFor_18 : decode cX12_nextFor 18 = .ok (.ifCond .eq 30, 3) := by decide +kernel
theorem dX12_nextFor_21 : decode cX12_nextFor 21 = .ok (.aload_n 0, 1) := by decide +kernel
theorem dX12_nextFor_22 : decode cX12_nextFor 22 = .ok (.getfield 86, 3) := by decide +kernel
theorem dX12_nextFor_25 : decode cX12_nextFor 25 = .ok (.iload_n 1, 1) := by decide +kernel
theorem dX12_nextFor_26 : decode cX12_nextFor 26 = .ok (.iaload, 1) := by decide +kernel
theorem dX12_nextFor_27 : decode cX12_nextFor 27 = .ok (.iload_n 3, 1) := by decide +kernel
theorem dX12_nextFor_28 : decode cX12_nextFor 28 = .ok (.invokestatic 380, 3) := by decide +kernel
theorem dX12_nextFor_31 : decode cX12_nextFor 31 = .ok (.ifCond .ne 17, 3) := by decide +kernel
theorem dX12_nextFor_34 : decode cX12_nextFor 34 = .ok (.aload_n 0, 1) := by decide +kernel
theorem dX12_nextFor_35 : decode cX12_nextFor 35 = .ok (.iload_n 1, 1) := by decide +kernel
theorem dX12_nextFor_36 : decode cX12_nextFor 36 = .ok (.iload_n 3, 1) := by decide +kernel
theorem dX12_nextFor_37 : decode cX12_nextFor 37 = .ok (.iload_n 2, 1) := by decide +kernel
theorem dX12_nextFor_38 : decode cX12_nextFor 38 = .ok (.invokevirtual 514, 3) := by decide +kernel
theorem dX12_nextFor_41 : decode cX12_nextFor 41 = .ok (.ifCond .eq 7, 3) := by decide +kernel
theorem dX12_nextFor_44 : decode cX12_nextFor 44 = .ok (.iload_n 3, 1) := by decide +kernel
theorem dX12_nextFor_45 : decode cX12_nextFor 45 = .ok (.goto 4, 3) := by decide +kernel
theorem dX12_nextFor_48 : decode cX12_nextFor 48 = .ok (.iload_n 2, 1) := by decide +kernel
theorem dX12_nextFor_49 : decode cX12_nextFor 49 = .ok (.istore_n 2, 1) := by decide +kernel
theorem dX12_nextFor_50 : decode cX12_nextFor 50 = .ok (.iinc 3 1, 3) := by decide +kernel
theorem dX12_nextFor_53 : decode cX12_nextFor 53 = .ok (.goto (-49), 3) := by decide +kernel
theorem dX12_nextFor_56 : decode cX12_nextFor 56 = .ok (.iload_n 2, 1) := by decide +kernel
theorem dX12_nextFor_57 : decode cX12_nextFor 57 = .ok (.ireturn, 1) := by decide +kernel
noncomputable def fX12_nextFor_l4 (μ : zM) (x0 : Nat) (x1 : Int32) (F3 : Int32 → Int32 → Option (Int32)) (x2_1 : Int32) (x3_2 : Int32) : Option (Int32) :=
  zb1 (zm_gI μ 12 x0 25) fun v7 =>
  if v7 ≤ x3_2 then (
  some x2_1)
  else (
  zb1 (fX12_isKind μ x0 x3_2 1) fun v10 =>
  zb1 (if v10 = 0 then (
  some x2_1)
  else (
  zb1 (zm_gR μ 12 x0 52) fun v13 =>
  zb1 (zm_aI μ 0 v13 x1) fun v15 =>
  zb1 (fX12_has μ v15 x3_2) fun v18 =>
  if v18 = 0 then (
  zb1 (fX12_isNearer μ x0 x1 x3_2 x2_1) fun v20 =>
  if v20 = 0 then (
  some x2_1)
  else (
  some x3_2))
  else (
  some x2_1)) : Option (Int32)) fun (s11 : Int32) =>
  F3 s11 (x3_2 + 1))
noncomputable def fX12_nextFor (μ : zM) (x0 : Nat) (x1 : Int32) : Option (Int32) := zgd (zm_ck μ 12 x0) <|
  zb1 (zf2 (fX12_nextFor_l4 μ x0 x1) zfu (-1) 0 : Option (Int32)) fun (x2_5 : Int32) =>
  some x2_5
theorem fX12_nextFor_ck {μ : zM} {x0 : Nat} {x1 : Int32} {z : Int32} (h : fX12_nextFor μ x0 x1 = some z) : zm_ck μ 12 x0 = true := (zgd_s h).1
set_option maxHeartbeats 4000000 in
set_option maxRecDepth 100000 in
theorem cX12_nextFor_ok {μ : zM} {x0 : Nat} {x1 : Int32} {r : Int32} (hf : fX12_nextFor μ x0 x1 = some r) : zC yX12_nextFor cX12_nextFor 4 (some .int) 3 0 0 [.ref x0, .int x1] μ (some (.int r)) μ := by
  replace hf := (zgd_s hf).2
  refine zC.of (by decide) (Nat.le_of_ble_eq_true rfl) (fun K hin => ?_)
  clear hin
  show zz K cX12_nextFor (4, RX12, some .int, 3, 0, 0, some (.int r), μ) 0 0 0 [(0, .ref x0), (1, .int x1)] [] μ
  refine zr_iconst (-1) dX12_nextFor_0 (by decide) ?_
  refine zr_istore_n [(2, .int (-1)), (0, .ref x0), (1, .int x1)] dX12_nextFor_1 (Nat.le_of_ble_eq_true rfl) rfl ?_
  refine zr_iconst 0 dX12_nextFor_2 (by decide) ?_
  refine zr_istore_n [(3, .int 0), (2, .int (-1)), (0, .ref x0), (1, .int x1)] dX12_nextFor_3 (Nat.le_of_ble_eq_true rfl) rfl ?_
  replace hf := zb1_s hf
  obtain ⟨x2_5, hg, hf⟩ := hf
  have hj6 : zz K cX12_nextFor (4, RX12, some .int, 3, 0, 0, some (.int r), μ) 0 0 56 [(2, .int x2_5)] [] μ := by
    refine zr_iload_n 0 dX12_nextFor_56 rfl ?_
    cases hf
    exact zr_iret dX12_nextFor_57
  clear hf
  have hf := hg
  clear hg
  have hL21 : ∀ (n : Nat) (x2_1 : Int32) (x3_2 : Int32), zf2 (fX12_nextFor_l4 μ x0 x1) n x2_1 x3_2 = some x2_5 → zz K cX12_nextFor (4, RX12, some .int, 3, 0, 0, some (.int r), μ) 0 0 4 [(0, .ref x0), (1, .int x1), (2, .int x2_1), (3, .int x3_2)] [] μ := by
    intro n
    induction n with
    | zero => intro x2_1 x3_2 hf; cases hf
    | succ n ih4 =>
      intro x2_1 x3_2 hf
      replace hf := zf2_s hf
      generalize zf2 (fX12_nextFor_l4 μ x0 x1) n = F3 at hf ih4
      unfold fX12_nextFor_l4 at hf
      refine zr_iload_n 3 dX12_nextFor_4 rfl ?_
      refine zr_aload_n 0 dX12_nextFor_5 rfl ?_
      replace hf := zb1_s hf
      obtain ⟨v7, h8, hf⟩ := hf
      refine zr_get (zm_gI_g h8) zk12 (by decide) zl_1032 dX12_nextFor_6 ?_
      refine zr_icmp_ge 56 dX12_nextFor_9 (by decide) (fun hc => ?_) (fun hc => ?_)
      · rw [if_pos hc] at hf
        cases hf
        exact zr_lv [2] rfl hj6
      · rw [if_neg hc] at hf
        refine zr_aload_n 0 dX12_nextFor_12 rfl ?_
        refine zr_iload_n 3 dX12_nextFor_13 rfl ?_
        refine zr_iconst 1 dX12_nextFor_14 (by decide) ?_
        replace hf := zb1_s hf
        obtain ⟨v10, h9, hf⟩ := hf
        refine zr_callV (ci := 12) [.int x3_2, .int 1] (cX12_isKind_ok h9) zvs_X12_isKind zl_1157 zl_1158 (fX12_isKind_ck h9) rfl rfl zl_1156 rfl (Nat.le_of_ble_eq_true rfl) (Nat.le_of_ble_eq_true rfl) (Nat.le_of_ble_eq_true rfl) (Nat.le_of_ble_eq_true rfl) dX12_nextFor_15 rfl ?_
        replace hf := zb1_s hf
        obtain ⟨s11, hg, hf⟩ := hf
        have hj12 : zz K cX12_nextFor (4, RX12, some .int, 3, 0, 0, some (.int r), μ) 0 0 49 [(0, .ref x0), (1, .int x1), (3, .int x3_2)] [.int s11] μ := by
          refine zr_istore_n [(2, .int s11), (0, .ref x0), (1, .int x1), (3, .int x3_2)] dX12_nextFor_49 (Nat.le_of_ble_eq_true rfl) rfl ?_
          refine zr_iinc (j := 3) (x3_2 + 1) [(3, .int (x3_2 + 1)), (2, .int s11), (0, .ref x0), (1, .int x1)] dX12_nextFor_50 rfl rfl (Nat.le_of_ble_eq_true rfl) rfl ?_
          refine zr_goto 4 dX12_nextFor_53 (by decide) ?_
          exact zr_lv [2, 3, 1, 0] rfl (ih4 s11 (x3_2 + 1) hf)
        clear hf
        have hf := hg
        clear hg
        refine zr_if_eq 48 dX12_nextFor_18 (by decide) (fun hc => ?_) (fun hc => ?_)
        · rw [if_pos hc] at hf
          refine zr_iload_n 2 dX12_nextFor_48 rfl ?_
          cases hf
          exact zr_lv [0, 1, 3] rfl hj12
        · rw [if_neg hc] at hf
          refine zr_aload_n 0 dX12_nextFor_21 rfl ?_
          replace hf := zb1_s hf
          obtain ⟨v13, h14, hf⟩ := hf
          refine zr_get (zm_gR_g h14) zk12 (by decide) zl_889 dX12_nextFor_22 ?_
          refine zr_iload_n 1 dX12_nextFor_25 rfl ?_
          replace hf := zb1_s hf
          obtain ⟨v15, h16, hf⟩ := hf
          refine zr_iald h16 dX12_nextFor_26 ?_
          refine zr_iload_n 3 dX12_nextFor_27 rfl ?_
          replace hf := zb1_s hf
          obtain ⟨v18, h17, hf⟩ := hf
          refine zr_callS [.int v15, .int x3_2] (cX12_has_ok h17) zvs_X12_has zl_1146 zl_1145 rfl (Nat.le_of_ble_eq_true rfl) (Nat.le_of_ble_eq_true rfl) (Nat.le_of_ble_eq_true rfl) (Nat.le_of_ble_eq_true rfl) dX12_nextFor_28 rfl ?_
          refine zr_if_ne 48 dX12_nextFor_31 (by decide) (fun hc => ?_) (fun hc => ?_)
          · rw [if_neg hc] at hf
            refine zr_iload_n 2 dX12_nextFor_48 rfl ?_
            cases hf
            exact zr_lv [0, 1, 3] rfl hj12
          · rw [if_pos hc] at hf
            refine zr_aload_n 0 dX12_nextFor_34 rfl ?_
            refine zr_iload_n 1 dX12_nextFor_35 rfl ?_
            refine zr_iload_n 3 dX12_nextFor_36 rfl ?_
            refine zr_iload_n 2 dX12_nextFor_37 rfl ?_
            replace hf := zb1_s hf
            obtain ⟨v20, h19, hf⟩ := hf
            refine zr_callV (ci := 12) [.int x1, .int x3_2, .int x2_1] (cX12_isNearer_ok h19) zvs_X12_isNearer zl_1294 zl_1295 (fX12_isNearer_ck h19) rfl rfl zl_1293 rfl (Nat.le_of_ble_eq_true rfl) (Nat.le_of_ble_eq_true rfl) (Nat.le_of_ble_eq_true rfl) (Nat.le_of_ble_eq_true rfl) dX12_nextFor_38 rfl ?_
            refine zr_if_eq 48 dX12_nextFor_41 (by decide) (fun hc => ?_) (fun hc => ?_)
            · rw [if_pos hc] at hf
              refine zr_iload_n 2 dX12_nextFor_48 rfl ?_
              cases hf
              exact zr_lv [0, 1, 3] rfl hj12
            · rw [if_neg hc] at hf
              refine zr_iload_n 3 dX12_nextFor_44 rfl ?_
              refine zr_goto 49 dX12_nextFor_45 (by decide) ?_
              cases hf
              exact zr_lv [0, 1, 3] rfl hj12
  exact zr_lv [2, 3, 1, 0] rfl (hL21 _ (-1) 0 hf)
theorem zl_1296 : Cond.code yX12_nextFor cX12_nextFor 4 (some .int) ∈ zt := zt_at 2009 (by decide +kernel)
theorem zvs_X12_nextFor : zvS yX12_nextFor cX12_nextFor 4 (some .int) 1 := ⟨zl_1296, zl_893, ⟨by decide +kernel, by decide +kernel, by decide +kernel⟩, by decide⟩
theorem zl_1297 : Cond.methodLink RX12 517 yX12_nextFor ∈ zt := zt_at 2006 (by decide +kernel)
theorem zl_1298 : Cond.instanceMethod yX12_nextFor ∈ zt := zt_at 2008 (by decide +kernel)
theorem zl_1299 : Cond.selects RX12 yX12_nextFor yX12_nextFor ∈ zt := zt_at 125 (by decide +kernel)
theorem dX12_asksOn_0 : decode cX12_asksOn 0 = .ok (.aload_n 0, 1) := by decide +kernel
theorem dX12_asksOn_1 : decode cX12_asksOn 1 = .ok (.getfield 83, 3) := by decide +kernel
theorem dX12_asksOn_4 : decode cX12_asksOn 4 = .ok (.iload_n 1, 1) := by decide +kernel
theorem dX12_asksOn_5 : decode cX12_asksOn 5 = .ok (.iaload, 1) := by decide +kernel
theorem dX12_asksOn_6 : decode cX12_asksOn 6 = .ok (.iconst (-1), 1) := by decide +kernel
theorem dX12_asksOn_7 : decode cX12_asksOn 7 = .ok (.if_icmp .ne 11, 3) := by decide +kernel
theorem dX12_asksOn_10 : decode cX12_asksOn 10 = .ok (.aload_n 0, 1) := by decide +kernel
theorem dX12_asksOn_11 : decode cX12_asksOn 11 = .ok (.iload_n 1, 1) := by decide +kernel
theorem dX12_asksOn_12 : decode cX12_asksOn 12 = .ok (.invokevirtual 517, 3) := by decide +kernel
theorem dX12_asksOn_15 : decode cX12_asksOn 15 = .ok (.goto 4, 3) := by decide +kernel
theorem dX12_asksOn_18 : decode cX12_asksOn 18 = .ok (.iconst (-1), 1) := by decide +kernel
theorem dX12_asksOn_19 : decode cX12_asksOn 19 = .ok (.istore_n 2, 1) := by decide +kernel
theorem dX12_asksOn_20 : decode cX12_asksOn 20 = .ok (.iload_n 2, 1) := by decide +kernel
theorem dX12_asksOn_21 : decode cX12_asksOn 21 = .ok (.iconst (-1), 1) := by decide +kernel
theorem dX12_asksOn_22 : decode cX12_asksOn 22 = .ok (.if_icmp .ne 5, 3) := by decide +kernel
theorem dX12_asksOn_25 : decode cX12_asksOn 25 = .ok (.iconst 0, 1) := by decide +kernel
theorem dX12_asksOn_26 : decode cX12_asksOn 26 = .ok (.ireturn, 1) := by decide +kernel
theorem dX12_asksOn_27 : decode cX12_asksOn 27 = .ok (.aload_n 0, 1) := by decide +kernel
theorem dX12_asksOn_28 : decode cX12_asksOn 28 = .ok (.getfield 86, 3) := by decide +kernel
theorem dX12_asksOn_31 : decode cX12_asksOn 31 = .ok (.iload_n 1, 1) := by decide +kernel
theorem dX12_asksOn_32 : decode cX12_asksOn 32 = .ok (.dup2, 1) := by decide +kernel
theorem dX12_asksOn_33 : decode cX12_asksOn 33 = .ok (.iaload, 1) := by decide +kernel
theorem dX12_asksOn_34 : decode cX12_asksOn 34 = .ok (.iconst 1, 1) := by decide +kernel
theorem dX12_asksOn_35 : decode cX12_asksOn 35 = .ok (.iload_n 2, 1) := by decide +kernel
theorem dX12_asksOn_36 : decode cX12_asksOn 36 = .ok (.ishl, 1) := by decide +kernel
theorem dX12_asksOn_37 : decode cX12_asksOn 37 = .ok (.ior, 1) := by decide +kernel
theorem dX12_asksOn_38 : decode cX12_asksOn 38 = .ok (.iastore, 1) := by decide +kernel
theorem dX12_asksOn_39 : decode cX12_asksOn 39 = .ok (.aload_n 0, 1) := by decide +kernel
theorem dX12_asksOn_40 : decode cX12_asksOn 40 = .ok (.getfield 83, 3) := by decide +kernel
theorem dX12_asksOn_43 : decode cX12_asksOn 43 = .ok (.iload_n 2, 1) := by decide +kernel
theorem dX12_asksOn_44 : decode cX12_asksOn 44 = .ok (.iaload, 1) := by decide +kernel
theorem dX12_asksOn_45 : decode cX12_asksOn 45 = .ok (.iconst (-1), 1) := by decide +kernel
theorem dX12_asksOn_46 : decode cX12_asksOn 46 = .ok (.if_icmp .eq 18, 3) := by decide +kernel
theorem dX12_asksOn_49 : decode cX12_asksOn 49 = .ok (.aload_n 0, 1) := by decide +kernel
theorem dX12_asksOn_50 : decode cX12_asksOn 50 = .ok (.iload_n 2, 1) := by decide +kernel
theorem dX12_asksOn_51 : decode cX12_asksOn 51 = .ok (.iload_n 1, 1) := by decide +kernel
theorem dX12_asksOn_52 : decode cX12_asksOn 52 = .ok (.aload_n 0, 1) := by decide +kernel
theorem dX12_asksOn_53 : decode cX12_asksOn 53 = .ok (.getfield 83, 3) := by decide +kernel
theorem dX12_asksOn_56 : decode cX12_asksOn 56 = .ok (.iload_n 2, 1) := by decide +kernel
theorem dX12_asksOn_57 : decode cX12_asksOn 57 = .ok (.iaload, 1) := by decide +kernel
theorem dX12_asksOn_58 : decode cX12_asksOn 58 = .ok (.invokevirtual 514, 3) := by decide +kernel
theorem dX12_asksOn_61 : decode cX12_asksOn 61 = .ok (.ifCond .eq 39, 3) := by decide +kernel
theorem dX12_asksOn_64 : decode cX12_asksOn 64 = .ok (.aload_n 0, 1) := by decide +kernel
theorem dX12_asksOn_65 : decode cX12_asksOn 65 = .ok (.getfield 83, 3) := by decide +kernel
theorem dX12_asksOn_68 : decode cX12_asksOn 68 = .ok (.iload_n 2, 1) := by decide +kernel
theorem dX12_asksOn_69 : decode cX12_asksOn 69 = .ok (.iaload, 1) := by decide +kernel
theorem dX12_asksOn_70 : decode cX12_asksOn 70 = .ok (.iconst (-1), 1) := by decide +kernel
theorem dX12_asksOn_71 : decode cX12_asksOn 71 = .ok (.if_icmp .eq 15, 3) := by decide +kernel
theorem dX12_asksOn_74 : decode cX12_asksOn 74 = .ok (.aload_n 0, 1) := by decide +kernel
theorem dX12_asksOn_75 : decode cX12_asksOn 75 = .ok (.getfield 83, 3) := by decide +kernel
theorem dX12_asksOn_78 : decode cX12_asksOn 78 = .ok (.aload_n 0, 1) := by decide +kernel
theorem dX12_asksOn_79 : decode cX12_asksOn 79 = .ok (.getfield 83, 3) := by decide +kernel
theorem dX12_asksOn_82 : decode cX12_asksOn 82 = .ok (.iload_n 2, 1) := by decide +kernel
theorem dX12_asksOn_83 : decode cX12_asksOn 83 = .ok (.iaload, 1) := by decide +kernel
theorem dX12_asksOn_84 : decode cX12_asksOn 84 = .ok (.iconst (-1), 1) := by decide +kernel
theorem dX12_asksOn_85 : decode cX12_asksOn 85 = .ok (.iastore, 1) := by decide +kernel
theorem dX12_asksOn_86 : decode cX12_asksOn 86 = .ok (.aload_n 0, 1) := by decide +kernel
theorem dX12_asksOn_87 : decode cX12_asksOn 87 = .ok (.getfield 83, 3) := by decide +kernel
theorem dX12_asksOn_90 : decode cX12_asksOn 90 = .ok (.iload_n 2, 1) := by decide +kernel
theorem dX12_asksOn_91 : decode cX12_asksOn 91 = .ok (.iload_n 1, 1) := by decide +kernel
theorem dX12_asksOn_92 : decode cX12_asksOn 92 = .ok (.iastore, 1) := by decide +kernel
theorem dX12_asksOn_93 : decode cX12_asksOn 93 = .ok (.aload_n 0, 1) := by decide +kernel
theorem dX12_asksOn_94 : decode cX12_asksOn 94 = .ok (.getfield 83, 3) := by decide +kernel
theorem dX12_asksOn_97 : decode cX12_asksOn 97 = .ok (.iload_n 1, 1) := by decide +kernel
theorem dX12_asksOn_98 : decode cX12_asksOn 98 = .ok (.iload_n 2, 1) := by decide +kernel
theorem dX12_asksOn_99 : decode cX12_asksOn 99 = .ok (.iastore, 1) := by decide +kernel
theorem dX12_asksOn_100 : decode cX12_asksOn 100 = .ok (.iconst 1, 1) := by decide +kernel
theorem dX12_asksOn_101 : decode cX12_asksOn 101 = .ok (.ireturn, 1) := by decide +kernel
noncomputable def fX12_asksOn_b64 (m11 : zM) (x0 : Nat) (s5 : Int32) (x1 : Int32) : Option (zM) :=
  zb1 (zm_gR m11 12 x0 51) fun v19 =>
  zb1 (zm_aI m11 0 v19 s5) fun v21 =>
  zc1 (if v21 = (-1) then (
  some m11)
  else (
  zb1 (zm_gR m11 12 x0 51) fun v33 =>
  zb1 (zm_gR m11 12 x0 51) fun v35 =>
  zb1 (zm_aI m11 0 v35 s5) fun v37 =>
  zb1 (zm_sI m11 0 v33 v37 (-1)) fun m39 =>
  some m39) : Option (zM)) fun (m23 : zM) =>
  zb1 (zm_gR m23 12 x0 51) fun v25 =>
  zb1 (zm_sI m23 0 v25 s5 x1) fun m27 =>
  zb1 (zm_gR m27 12 x0 51) fun v29 =>
  zb1 (zm_sI m27 0 v29 x1 s5) fun m31 =>
  some m31
noncomputable def fX12_asksOn (μ : zM) (x0 : Nat) (x1 : Int32) : Option (Int32 × zM) := zgd (zm_ck μ 12 x0) <|
  zb1 (zm_gR μ 12 x0 51) fun v1 =>
  zb1 (zm_aI μ 0 v1 x1) fun v3 =>
  zb1 (if v3 = (-1) then (
  zb1 (fX12_nextFor μ x0 x1) fun v49 =>
  some v49)
  else (
  some (-1)) : Option (Int32)) fun (s5 : Int32) =>
  if s5 = (-1) then (
  some (0, μ))
  else (
  zb1 (zm_gR μ 12 x0 52) fun v7 =>
  zb1 (zm_aI μ 0 v7 x1) fun v9 =>
  zb1 (zm_sI μ 0 v7 x1 (v9 ||| (1 <<< (s5 &&& 31)))) fun m11 =>
  zb1 (zm_gR m11 12 x0 51) fun v13 =>
  zb1 (zm_aI m11 0 v13 s5) fun v15 =>
  zc1 (if v15 = (-1) then (
  fX12_asksOn_b64 m11 x0 s5 x1)
  else (
  zb1 (zm_gR m11 12 x0 51) fun v42 =>
  zb1 (zm_aI m11 0 v42 s5) fun v44 =>
  zb1 (fX12_isNearer m11 x0 s5 x1 v44) fun v47 =>
  if v47 = 0 then (
  some m11)
  else (
  fX12_asksOn_b64 m11 x0 s5 x1)) : Option (zM)) fun (m17 : zM) =>
  some (1, m17))
theorem fX12_asksOn_ck {μ : zM} {x0 : Nat} {x1 : Int32} {z : Int32 × zM} (h : fX12_asksOn μ x0 x1 = some z) : zm_ck μ 12 x0 = true := (zgd_s h).1
set_option maxHeartbeats 4000000 in
set_option maxRecDepth 100000 in
theorem cX12_asksOn_ok {μ : zM} {x0 : Nat} {x1 : Int32} {r : Int32} {mo : zM} (hf : fX12_asksOn μ x0 x1 = some (r, mo)) : zC yX12_asksOn cX12_asksOn 3 (some .boolean) 4 0 0 [.ref x0, .int x1] μ (some (.int r)) mo := by
  replace hf := (zgd_s hf).2
  refine zC.of (by decide) (Nat.le_of_ble_eq_true rfl) (fun K hin => ?_)
  clear hin
  show zz K cX12_asksOn (3, RX12, some .boolean, 4, 0, 0, some (.int r), mo) 0 0 0 [(0, .ref x0), (1, .int x1)] [] μ
  refine zr_aload_n 0 dX12_asksOn_0 rfl ?_
  replace hf := zb1_s hf
  obtain ⟨v1, h2, hf⟩ := hf
  refine zr_get (zm_gR_g h2) zk12 (by decide) zl_888 dX12_asksOn_1 ?_
  refine zr_iload_n 1 dX12_asksOn_4 rfl ?_
  replace hf := zb1_s hf
  obtain ⟨v3, h4, hf⟩ := hf
  refine zr_iald h4 dX12_asksOn_5 ?_
  refine zr_iconst (-1) dX12_asksOn_6 (by decide) ?_
  replace hf := zb1_s hf
  obtain ⟨s5, hg, hf⟩ := hf
  have hj6 : zz K cX12_asksOn (3, RX12, some .boolean, 4, 0, 0, some (.int r), mo) 0 0 19 [(0, .ref x0), (1, .int x1)] [.int s5] μ := by
    refine zr_istore_n [(2, .int s5), (0, .ref x0), (1, .int x1)] dX12_asksOn_19 (Nat.le_of_ble_eq_true rfl) rfl ?_
    refine zr_iload_n 0 dX12_asksOn_20 rfl ?_
    refine zr_iconst (-1) dX12_asksOn_21 (by decide) ?_
    refine zr_icmp_ne 27 dX12_asksOn_22 (by decide) (fun hc => ?_) (fun hc => ?_)
    · rw [if_neg hc] at hf
      refine zr_aload_n 1 dX12_asksOn_27 rfl ?_
      replace hf := zb1_s hf
      obtain ⟨v7, h8, hf⟩ := hf
      refine zr_get (zm_gR_g h8) zk12 (by decide) zl_889 dX12_asksOn_28 ?_
      refine zr_iload_n 2 dX12_asksOn_31 rfl ?_
      refine zr_dup2 dX12_asksOn_32 rfl rfl ?_
      replace hf := zb1_s hf
      obtain ⟨v9, h10, hf⟩ := hf
      refine zr_iald h10 dX12_asksOn_33 ?_
      refine zr_iconst 1 dX12_asksOn_34 (by decide) ?_
      refine zr_iload_n 0 dX12_asksOn_35 rfl ?_
      refine zr_ishl dX12_asksOn_36 ?_
      refine zr_ior dX12_asksOn_37 ?_
      replace hf := zb1_s hf
      obtain ⟨m11, h12, hf⟩ := hf
      refine zr_iast h12 dX12_asksOn_38 ?_
      refine zr_aload_n 1 dX12_asksOn_39 rfl ?_
      replace hf := zb1_s hf
      obtain ⟨v13, h14, hf⟩ := hf
      refine zr_get (zm_gR_g h14) zk12 (by decide) zl_888 dX12_asksOn_40 ?_
      refine zr_iload_n 0 dX12_asksOn_43 rfl ?_
      replace hf := zb1_s hf
      obtain ⟨v15, h16, hf⟩ := hf
      refine zr_iald h16 dX12_asksOn_44 ?_
      refine zr_iconst (-1) dX12_asksOn_45 (by decide) ?_
      replace hf := zc1_s hf
      obtain ⟨m17, hg, hf⟩ := hf
      have hj18 : zz K cX12_asksOn (3, RX12, some .boolean, 4, 0, 0, some (.int r), mo) 0 0 100 [] [] m17 := by
        refine zr_iconst 1 dX12_asksOn_100 (by decide) ?_
        cases hf
        exact zr_zret rfl dX12_asksOn_101
      clear hf
      have hf := hg
      clear hg
      have hb41 : ∀ (_ : Unit), fX12_asksOn_b64 m11 x0 s5 x1 = some m17 → zz K cX12_asksOn (3, RX12, some .boolean, 4, 0, 0, some (.int r), mo) 0 0 64 [(0, .ref x0), (1, .int x1), (2, .int s5)] [] m11 := by
        intro _ hf
        unfold fX12_asksOn_b64 at hf
        refine zr_aload_n 0 dX12_asksOn_64 rfl ?_
        replace hf := zb1_s hf
        obtain ⟨v19, h20, hf⟩ := hf
        refine zr_get (zm_gR_g h20) zk12 (by decide) zl_888 dX12_asksOn_65 ?_
        refine zr_iload_n 2 dX12_asksOn_68 rfl ?_
        replace hf := zb1_s hf
        obtain ⟨v21, h22, hf⟩ := hf
        refine zr_iald h22 dX12_asksOn_69 ?_
        refine zr_iconst (-1) dX12_asksOn_70 (by decide) ?_
        replace hf := zc1_s hf
        obtain ⟨m23, hg, hf⟩ := hf
        have hj24 : zz K cX12_asksOn (3, RX12, some .boolean, 4, 0, 0, some (.int r), mo) 0 0 86 [(0, .ref x0), (1, .int x1), (2, .int s5)] [] m23 := by
          refine zr_aload_n 0 dX12_asksOn_86 rfl ?_
          replace hf := zb1_s hf
          obtain ⟨v25, h26, hf⟩ := hf
          refine zr_get (zm_gR_g h26) zk12 (by decide) zl_888 dX12_asksOn_87 ?_
          refine zr_iload_n 2 dX12_asksOn_90 rfl ?_
          refine zr_iload_n 1 dX12_asksOn_91 rfl ?_
          replace hf := zb1_s hf
          obtain ⟨m27, h28, hf⟩ := hf
          refine zr_iast h28 dX12_asksOn_92 ?_
          refine zr_aload_n 0 dX12_asksOn_93 rfl ?_
          replace hf := zb1_s hf
          obtain ⟨v29, h30, hf⟩ := hf
          refine zr_get (zm_gR_g h30) zk12 (by decide) zl_888 dX12_asksOn_94 ?_
          refine zr_iload_n 1 dX12_asksOn_97 rfl ?_
          refine zr_iload_n 2 dX12_asksOn_98 rfl ?_
          replace hf := zb1_s hf
          obtain ⟨m31, h32, hf⟩ := hf
          refine zr_iast h32 dX12_asksOn_99 ?_
          cases hf
          exact zr_lv [] rfl hj18
        clear hf
        have hf := hg
        clear hg
        refine zr_icmp_eq 86 dX12_asksOn_71 (by decide) (fun hc => ?_) (fun hc => ?_)
        · rw [if_pos hc] at hf
          cases hf
          exact zr_lv [0, 1, 2] rfl hj24
        · rw [if_neg hc] at hf
          refine zr_aload_n 0 dX12_asksOn_74 rfl ?_
          replace hf := zb1_s hf
          obtain ⟨v33, h34, hf⟩ := hf
          refine zr_get (zm_gR_g h34) zk12 (by decide) zl_888 dX12_asksOn_75 ?_
          refine zr_aload_n 0 dX12_asksOn_78 rfl ?_
          replace hf := zb1_s hf
          obtain ⟨v35, h36, hf⟩ := hf
          refine zr_get (zm_gR_g h36) zk12 (by decide) zl_888 dX12_asksOn_79 ?_
          refine zr_iload_n 2 dX12_asksOn_82 rfl ?_
          replace hf := zb1_s hf
          obtain ⟨v37, h38, hf⟩ := hf
          refine zr_iald h38 dX12_asksOn_83 ?_
          refine zr_iconst (-1) dX12_asksOn_84 (by decide) ?_
          replace hf := zb1_s hf
          obtain ⟨m39, h40, hf⟩ := hf
          refine zr_iast h40 dX12_asksOn_85 ?_
          cases hf
          exact zr_lv [0, 1, 2] rfl hj24
      refine zr_icmp_eq 64 dX12_asksOn_46 (by decide) (fun hc => ?_) (fun hc => ?_)
      · rw [if_pos hc] at hf
        exact zr_lv [1, 2, 0] rfl (hb41 () hf)
      · rw [if_neg hc] at hf
        refine zr_aload_n 1 dX12_asksOn_49 rfl ?_
        refine zr_iload_n 0 dX12_asksOn_50 rfl ?_
        refine zr_iload_n 2 dX12_asksOn_51 rfl ?_
        refine zr_aload_n 1 dX12_asksOn_52 rfl ?_
        replace hf := zb1_s hf
        obtain ⟨v42, h43, hf⟩ := hf
        refine zr_get (zm_gR_g h43) zk12 (by decide) zl_888 dX12_asksOn_53 ?_
        refine zr_iload_n 0 dX12_asksOn_56 rfl ?_
        replace hf := zb1_s hf
        obtain ⟨v44, h45, hf⟩ := hf
        refine zr_iald h45 dX12_asksOn_57 ?_
        replace hf := zb1_s hf
        obtain ⟨v47, h46, hf⟩ := hf
        refine zr_callV (ci := 12) [.int s5, .int x1, .int v44] (cX12_isNearer_ok h46) zvs_X12_isNearer zl_1294 zl_1295 (fX12_isNearer_ck h46) rfl rfl zl_1293 rfl (Nat.le_of_ble_eq_true rfl) (Nat.le_of_ble_eq_true rfl) (Nat.le_of_ble_eq_true rfl) (Nat.le_of_ble_eq_true rfl) dX12_asksOn_58 rfl ?_
        refine zr_if_eq 100 dX12_asksOn_61 (by decide) (fun hc => ?_) (fun hc => ?_)
        · rw [if_pos hc] at hf
          cases hf
          exact zr_lv [] rfl hj18
        · rw [if_neg hc] at hf
          exact zr_lv [1, 2, 0] rfl (hb41 () hf)
    · rw [if_pos hc] at hf
      refine zr_iconst 0 dX12_asksOn_25 (by decide) ?_
      cases hf
      exact zr_zret rfl dX12_asksOn_26
  clear hf
  have hf := hg
  clear hg
  refine zr_icmp_ne 18 dX12_asksOn_7 (by decide) (fun hc => ?_) (fun hc => ?_)
  · rw [if_neg hc] at hf
    refine zr_iconst (-1) dX12_asksOn_18 (by decide) ?_
    cases hf
    exact zr_lv [0, 1] rfl hj6
  · rw [if_pos hc] at hf
    refine zr_aload_n 0 dX12_asksOn_10 rfl ?_
    refine zr_iload_n 1 dX12_asksOn_11 rfl ?_
    replace hf := zb1_s hf
    obtain ⟨v49, h48, hf⟩ := hf
    refine zr_callV (ci := 12) [.int x1] (cX12_nextFor_ok h48) zvs_X12_nextFor zl_1298 zl_1299 (fX12_nextFor_ck h48) rfl rfl zl_1297 rfl (Nat.le_of_ble_eq_true rfl) (Nat.le_of_ble_eq_true rfl) (Nat.le_of_ble_eq_true rfl) (Nat.le_of_ble_eq_true rfl) dX12_asksOn_12 rfl ?_
    refine zr_goto 19 dX12_asksOn_15 (by decide) ?_
    cases hf
    exact zr_lv [0, 1] rfl hj6
theorem zl_1300 : Cond.code yX12_asksOn cX12_asksOn 3 (some .boolean) ∈ zt := zt_at 2005 (by decide +kernel)
theorem zvs_X12_asksOn : zvS yX12_asksOn cX12_asksOn 3 (some .boolean) 1 := ⟨zl_1300, zl_893, ⟨by decide +kernel, by decide +kernel, by decide +kernel⟩, by decide⟩
theorem zl_1301 : Cond.methodLink RX12 520 yX12_asksOn ∈ zt := zt_at 2002 (by decide +kernel)
theorem zl_1302 : Cond.instanceMethod yX12_asksOn ∈ zt := zt_at 2004 (by decide +kernel)
theorem zl_1303 : Cond.selects RX12 yX12_asksOn yX12_asksOn ∈ zt := zt_at 124 (by decide +kernel)
theorem dX12_matched_0 : decode cX12_matched 0 = .ok (.aload_n 0, 1) := by decide +kernel
theorem dX12_matched_1 : decode cX12_matched 1 = .ok (.iconst 0, 1) := by decide +kernel
theorem dX12_matched_2 : decode cX12_matched 2 = .ok (.putfield 93, 3) := by decide +kernel
theorem dX12_matched_5 : decode cX12_matched 5 = .ok (.aload_n 0, 1) := by decide +kernel
theorem dX12_matched_6 : decode cX12_matched 6 = .ok (.iload_n 1, 1) := by decide +kernel
theorem dX12_matched_7 : decode cX12_matched 7 = .ok (.invokevirtual 298, 3) := by decide +kernel
theorem dX12_matched_10 : decode cX12_matched 10 = .ok (.ifCond .eq 11, 3) := by decide +kernel
theorem dX12_matched_13 : decode cX12_matched 13 = .ok (.aload_n 0, 1) := by decide +kernel
theorem dX12_matched_14 : decode cX12_matched 14 = .ok (.iload_n 2, 1) := by decide +kernel
theorem dX12_matched_15 : decode cX12_matched 15 = .ok (.invokevirtual 301, 3) := by decide +kernel
theorem dX12_matched_18 : decode cX12_matched 18 = .ok (.ifCond .ne 5, 3) := by decide +kernel
theorem dX12_matched_21 : decode cX12_matched 21 = .ok (.iconst (-1), 1) := by decide +kernel
theorem dX12_matched_22 : decode cX12_matched 22 = .ok (.ireturn, 1) := by decide +kernel
theorem dX12_matched_23 : decode cX12_matched 23 = .ok (.iconst 0, 1) := by decide +kernel
theorem dX12_matched_24 : decode cX12_matched 24 = .ok (.istore_n 3, 1) := by decide +kernel
theorem dX12_matched_25 : decode cX12_matched 25 = .ok (.iload_n 3, 1) := by decide +kernel
theorem dX12_matched_26 : decode cX12_matched 26 = .ok (.bipush 6, 2) := by decide +kernel
theorem dX12_matched_28 : decode cX12_matched 28 = .ok (.if_icmp .ge 23, 3) := by decide +kernel
theorem dX12_matched_31 : decode cX12_matched 31 = .ok (.aload_n 0, 1) := by decide +kernel
theorem dX12_matched_32 : decode cX12_matched 32 = .ok (.getfield 83, 3) := by decide +kernel
theorem dX12_matched_35 : decode cX12_matched 35 = .ok (.iload_n 3, 1) := by decide +kernel
theorem dX12_matched_36 : decode cX12_matched 36 = .ok (.iconst (-1), 1) := by decide +kernel
theorem dX12_matched_37 : decode cX12_matched 37 = .ok (.iastore, 1) := by decide +kernel
theorem dX12_matched_38 : decode cX12_matched 38 = .ok (.aload_n 0, 1) := by decide +kernel
theorem dX12_matched_39 : decode cX12_matched 39 = .ok (.getfield 86, 3) := by decide +kernel
theorem dX12_matched_42 : decode cX12_matched 42 = .ok (.iload_n 3, 1) := by decide +kernel
theorem dX12_matched_43 : decode cX12_matched 43 = .ok (.iconst 0, 1) := by decide +kernel
theorem dX12_matched_44 : decode cX12_matched 44 = .ok (.iastore, 1) := by decide +kernel
theorem dX12_matched_45 : decode cX12_matched 45 = .ok (.iinc 3 1, 3) := by decide +kernel
theorem dX12_matched_48 : decode cX12_matched 48 = .ok (.goto (-23), 3) := by decide +kernel
theorem dX12_matched_51 : decode cX12_matched 51 = .ok (.iconst 1, 1) := by decide +kernel
theorem dX12_matched_52 : decode cX12_matched 52 = .ok (.istore_n 3, 1) := by decide +kernel
theorem dX12_matched_53 : decode cX12_matched 53 = .ok (.iload_n 3, 1) := by decide +kernel
theorem dX12_matched_54 : decode cX12_matched 54 = .ok (.ifCond .eq 67, 3) := by decide +kernel
theorem dX12_matched_57 : decode cX12_matched 57 = .ok (.iconst 0, 1) := by decide +kernel
theorem dX12_matched_58 : decode cX12_matched 58 = .ok (.istore_n 3, 1) := by decide +kernel
theorem dX12_matched_59 : decode cX12_matched 59 = .ok (.iconst 0, 1) := by decide +kernel
theorem dX12_matched_60 : decode cX12_matched 60 = .ok (.istore 4, 2) := by decide +kernel
theorem dX12_matched_62 : decode cX12_matched 62 = .ok (.iload 4, 2) := by decide +kernel
theorem dX12_matched_64 : decode cX12_matched 64 = .ok (.aload_n 0, 1) := by decide +kernel
theorem dX12_matched_65 : decode cX12_matched 65 = .ok (.getfield 276, 3) := by decide +kernel
theorem dX12_matched_68 : decode cX12_matched 68 = .ok (.if_icmp .ge 50, 3) := by decide +kernel
theorem dX12_matched_71 : decode cX12_matched 71 = .ok (.aload_n 0, 1) := by decide +kernel
theorem dX12_matched_72 : decode cX12_matched 72 = .ok (.iload 4, 2) := by decide +kernel
theorem dX12_matched_74 : decode cX12_matched 74 = .ok (.iconst 0, 1) := by decide +kernel
theorem dX12_matched_75 : decode cX12_matched 75 = .ok (.invokevirtual 391, 3) := by decide +kernel
theorem dX12_matched_78 : decode cX12_matched 78 = .ok (.ifCond .eq 16, 3) := by decide +kernel
theorem dX12_matched_81 : decode cX12_matched 81 = .ok (.aload_n 0, 1) := by decide +kernel
theorem dX12_matched_82 : decode cX12_matched 82 = .ok (.iload 4, 2) := by decide +kernel
theorem dX12_matched_84 : decode cX12_matched 84 = .ok (.invokevirtual 520, 3) := by decide +kernel
theorem dX12_matched_87 : decode cX12_matched 87 = .ok (.ifCond .eq 7, 3) := by decide +kernel
theorem dX12_matched_90 : decode cX12_matched 90 = .ok (.iconst 1, 1) := by decide +kernel
theorem dX12_matched_91 : decode cX12_matched 91 = .ok (.goto 4, 3) := by decide +kernel
theorem dX12_matched_94 : decode cX12_matched 94 = .ok (.iconst 0, 1) := by decide +kernel
theorem dX12_matched_95 : decode cX12_matched 95 = .ok (.istore 5, 2) := by decide +kernel
theorem dX12_matched_97 : decode cX12_matched 97 = .ok (.iload_n 3, 1) := by decide +kernel
theorem dX12_matched_98 : decode cX12_matched 98 = .ok (.ifCond .ne 8, 3) := by decide +kernel
theorem dX12_matched_101 : decode cX12_matched 101 = .ok (.iload 5, 2) := by decide +kernel
theorem dX12_matched_103 : decode cX12_matched 103 = .ok (.ifCond .eq 7, 3) := by decide +kernel
theorem dX12_matched_106 : decode cX12_matched 106 = .ok (.iconst 1, 1) := by decide +kernel
theorem dX12_matched_107 : decode cX12_matched 107 = .ok (.goto 4, 3) := by decide +kernel
theorem dX12_matched_110 : decode cX12_matched 110 = .ok (.iconst 0, 1) := by decide +kernel
theorem dX12_matched_111 : decode cX12_matched 111 = .ok (.istore_n 3, 1) := by decide +kernel
theorem dX12_matched_112 : decode cX12_matched 112 = .ok (.iinc 4 1, 3) := by decide +kernel
theorem dX12_matched_115 : decode cX12_matched 115 = .ok (.goto (-53), 3) := by decide +kernel
theorem dX12_matched_118 : decode cX12_matched 118 = .ok (.goto (-65), 3) := by decide +kernel
theorem dX12_matched_121 : decode cX12_matched 121 = .ok (.aload_n 0, 1) := by decide +kernel
theorem dX12_matched_122 : decode cX12_matched 122 = .ok (.getfield 83, 3) := by decide +kernel
theorem dX12_matched_125 : decode cX12_matched 125 = .ok (.iload_n 2, 1) := by decide +kernel
theorem dX12_matched_126 : decode cX12_matched 126 = .ok (.iaload, 1) := by decide +kernel
theorem dX12_matched_127 : decode cX12_matched 127 = .ok (.ireturn, 1) := by decide +kernel
noncomputable def fX12_matched_l25 (x0 : Nat) (F10 : Int32 → zM → Option (zM)) (x3_8 : Int32) (m9 : zM) : Option (zM) :=
  if 6 ≤ x3_8 then (
  some m9)
  else (
  zb1 (zm_gR m9 12 x0 51) fun v14 =>
  zb1 (zm_sI m9 0 v14 x3_8 (-1)) fun m16 =>
  zb1 (zm_gR m16 12 x0 52) fun v18 =>
  zb1 (zm_sI m16 0 v18 x3_8 0) fun m20 =>
  F10 (x3_8 + 1) m20)
noncomputable def fX12_matched_b94 (m44 : zM) : Option (Int32 × zM) :=
  some (0, m44)
noncomputable def fX12_matched_l62 (x0 : Nat) (F32 : Int32 → Int32 → zM → Option (Int32 × zM)) (x3_29 : Int32) (x4_30 : Int32) (m31 : zM) : Option (Int32 × zM) :=
  zb1 (zm_gI m31 12 x0 25) fun v37 =>
  if v37 ≤ x4_30 then (
  some (x3_29, m31))
  else (
  zb1 (fX12_isKind m31 x0 x4_30 0) fun v40 =>
  zc2 (if v40 = 0 then (
  fX12_matched_b94 m31)
  else (
  zb2 (fX12_asksOn m31 x0 x4_30) fun v50 m49 =>
  if v50 = 0 then (
  fX12_matched_b94 m49)
  else (
  some (1, m49))) : Option (Int32 × zM)) fun (s41 : Int32) (m42 : zM) =>
  zb1 (if x3_29 = 0 then (
  if s41 = 0 then (
  some 0)
  else (
  some 1))
  else (
  some 1) : Option (Int32)) fun (s46 : Int32) =>
  F32 s46 (x4_30 + 1) m42)
noncomputable def fX12_matched_l53 (x0 : Nat) (F25 : Int32 → zM → Option (zM)) (x3_23 : Int32) (m24 : zM) : Option (zM) :=
  if x3_23 = 0 then (
  some m24)
  else (
  zb2 (zf3 (fX12_matched_l62 x0) zfu 0 0 m24 : Option (Int32 × zM)) fun (x3_34 : Int32) (m35 : zM) =>
  F25 x3_34 m35)
noncomputable def fX12_matched (μ : zM) (x0 : Nat) (x1 : Int32) (x2 : Int32) : Option (Int32 × zM) := zgd (zm_ck μ 12 x0) <|
  zb1 (zm_p μ 12 x0 0 (.int 0)) fun m1 =>
  zb2 (fX12_hand m1 x0 x1) fun v5 m4 =>
  if v5 = 0 then (
  some ((-1), m4))
  else (
  zb1 (fX12_isPerson m4 x0 x2) fun v7 =>
  if v7 = 0 then (
  some ((-1), m4))
  else (
  zb1 (zf2 (fX12_matched_l25 x0) zfu 0 m4 : Option (zM)) fun (m12 : zM) =>
  zb1 (zf2 (fX12_matched_l53 x0) zfu 1 m12 : Option (zM)) fun (m27 : zM) =>
  zb1 (zm_gR m27 12 x0 51) fun v53 =>
  zb1 (zm_aI m27 0 v53 x2) fun v55 =>
  some (v55, m27)))
theorem fX12_matched_ck {μ : zM} {x0 : Nat} {x1 : Int32} {x2 : Int32} {z : Int32 × zM} (h : fX12_matched μ x0 x1 x2 = some z) : zm_ck μ 12 x0 = true := (zgd_s h).1
set_option maxHeartbeats 4000000 in
set_option maxRecDepth 100000 in
theorem cX12_matched_ok {μ : zM} {x0 : Nat} {x1 : Int32} {x2 : Int32} {r : Int32} {mo : zM} (hf : fX12_matched μ x0 x1 x2 = some (r, mo)) : zC yX12_matched cX12_matched 6 (some .int) 5 0 0 [.ref x0, .int x1, .int x2] μ (some (.int r)) mo := by
  replace hf := (zgd_s hf).2
  refine zC.of (by decide) (Nat.le_of_ble_eq_true rfl) (fun K hin => ?_)
  clear hin
  show zz K cX12_matched (6, RX12, some .int, 5, 0, 0, some (.int r), mo) 0 0 0 [(0, .ref x0), (1, .int x1), (2, .int x2)] [] μ
  refine zr_aload_n 0 dX12_matched_0 rfl ?_
  refine zr_iconst 0 dX12_matched_1 (by decide) ?_
  replace hf := zb1_s hf
  obtain ⟨m1, h2, hf⟩ := hf
  refine zr_put h2 zk12 (by decide) zl_899 rfl rfl rfl dX12_matched_2 ?_
  refine zr_aload_n 0 dX12_matched_5 rfl ?_
  refine zr_iload_n 1 dX12_matched_6 rfl ?_
  replace hf := zb2_s hf
  obtain ⟨v5, m4, h3, hf⟩ := hf
  refine zr_callV (ci := 12) [.int x1] (cX12_hand_ok h3) zvs_X12_hand zl_1057 zl_1058 (fX12_hand_ck h3) rfl rfl zl_1056 rfl (Nat.le_of_ble_eq_true rfl) (Nat.le_of_ble_eq_true rfl) (Nat.le_of_ble_eq_true rfl) (Nat.le_of_ble_eq_true rfl) dX12_matched_7 rfl ?_
  refine zr_if_eq 21 dX12_matched_10 (by decide) (fun hc => ?_) (fun hc => ?_)
  · rw [if_pos hc] at hf
    refine zr_iconst (-1) dX12_matched_21 (by decide) ?_
    cases hf
    exact zr_iret dX12_matched_22
  · rw [if_neg hc] at hf
    refine zr_aload_n 0 dX12_matched_13 rfl ?_
    refine zr_iload_n 2 dX12_matched_14 rfl ?_
    replace hf := zb1_s hf
    obtain ⟨v7, h6, hf⟩ := hf
    refine zr_callV (ci := 12) [.int x2] (cX12_isPerson_ok h6) zvs_X12_isPerson zl_1061 zl_1062 (fX12_isPerson_ck h6) rfl rfl zl_1060 rfl (Nat.le_of_ble_eq_true rfl) (Nat.le_of_ble_eq_true rfl) (Nat.le_of_ble_eq_true rfl) (Nat.le_of_ble_eq_true rfl) dX12_matched_15 rfl ?_
    refine zr_if_ne 23 dX12_matched_18 (by decide) (fun hc => ?_) (fun hc => ?_)
    · rw [if_neg hc] at hf
      refine zr_iconst 0 dX12_matched_23 (by decide) ?_
      refine zr_istore_n [(3, .int 0), (0, .ref x0), (1, .int x1), (2, .int x2)] dX12_matched_24 (Nat.le_of_ble_eq_true rfl) rfl ?_
      replace hf := zb1_s hf
      obtain ⟨m12, hg, hf⟩ := hf
      have hj13 : zz K cX12_matched (6, RX12, some .int, 5, 0, 0, some (.int r), mo) 0 0 51 [(0, .ref x0), (2, .int x2)] [] m12 := by
        refine zr_iconst 1 dX12_matched_51 (by decide) ?_
        refine zr_istore_n [(3, .int 1), (0, .ref x0), (2, .int x2)] dX12_matched_52 (Nat.le_of_ble_eq_true rfl) rfl ?_
        replace hf := zb1_s hf
        obtain ⟨m27, hg, hf⟩ := hf
        have hj28 : zz K cX12_matched (6, RX12, some .int, 5, 0, 0, some (.int r), mo) 0 0 121 [(0, .ref x0), (2, .int x2)] [] m27 := by
          refine zr_aload_n 0 dX12_matched_121 rfl ?_
          replace hf := zb1_s hf
          obtain ⟨v53, h54, hf⟩ := hf
          refine zr_get (zm_gR_g h54) zk12 (by decide) zl_888 dX12_matched_122 ?_
          refine zr_iload_n 1 dX12_matched_125 rfl ?_
          replace hf := zb1_s hf
          obtain ⟨v55, h56, hf⟩ := hf
          refine zr_iald h56 dX12_matched_126 ?_
          cases hf
          exact zr_iret dX12_matched_127
        clear hf
        have hf := hg
        clear hg
        have hL52 : ∀ (n : Nat) (x3_23 : Int32) (m24 : zM), zf2 (fX12_matched_l53 x0) n x3_23 m24 = some m27 → zz K cX12_matched (6, RX12, some .int, 5, 0, 0, some (.int r), mo) 0 0 53 [(0, .ref x0), (2, .int x2), (3, .int x3_23)] [] m24 := by
          intro n
          induction n with
          | zero => intro x3_23 m24 hf; cases hf
          | succ n ih26 =>
            intro x3_23 m24 hf
            replace hf := zf2_s hf
            generalize zf2 (fX12_matched_l53 x0) n = F25 at hf ih26
            unfold fX12_matched_l53 at hf
            refine zr_iload_n 2 dX12_matched_53 rfl ?_
            refine zr_if_eq 121 dX12_matched_54 (by decide) (fun hc => ?_) (fun hc => ?_)
            · rw [if_pos hc] at hf
              cases hf
              exact zr_lv [0, 1] rfl hj28
            · rw [if_neg hc] at hf
              refine zr_iconst 0 dX12_matched_57 (by decide) ?_
              refine zr_istore_n [(3, .int 0), (0, .ref x0), (2, .int x2)] dX12_matched_58 (Nat.le_of_ble_eq_true rfl) rfl ?_
              refine zr_iconst 0 dX12_matched_59 (by decide) ?_
              refine zr_istore [(4, .int 0), (3, .int 0), (0, .ref x0), (2, .int x2)] dX12_matched_60 (Nat.le_of_ble_eq_true rfl) rfl ?_
              replace hf := zb2_s hf
              obtain ⟨x3_34, m35, hg, hf⟩ := hf
              have hj36 : zz K cX12_matched (6, RX12, some .int, 5, 0, 0, some (.int r), mo) 0 0 118 [(0, .ref x0), (2, .int x2), (3, .int x3_34)] [] m35 := by
                refine zr_goto 53 dX12_matched_118 (by decide) ?_
                exact zr_lv [0, 1, 2] rfl (ih26 x3_34 m35 hf)
              clear hf
              have hf := hg
              clear hg
              have hL51 : ∀ (n : Nat) (x3_29 : Int32) (x4_30 : Int32) (m31 : zM), zf3 (fX12_matched_l62 x0) n x3_29 x4_30 m31 = some (x3_34, m35) → zz K cX12_matched (6, RX12, some .int, 5, 0, 0, some (.int r), mo) 0 0 62 [(0, .ref x0), (2, .int x2), (3, .int x3_29), (4, .int x4_30)] [] m31 := by
                intro n
                induction n with
                | zero => intro x3_29 x4_30 m31 hf; cases hf
                | succ n ih33 =>
                  intro x3_29 x4_30 m31 hf
                  replace hf := zf3_s hf
                  generalize zf3 (fX12_matched_l62 x0) n = F32 at hf ih33
                  unfold fX12_matched_l62 at hf
                  refine zr_iload 3 dX12_matched_62 rfl ?_
                  refine zr_aload_n 0 dX12_matched_64 rfl ?_
                  replace hf := zb1_s hf
                  obtain ⟨v37, h38, hf⟩ := hf
                  refine zr_get (zm_gI_g h38) zk12 (by decide) zl_1032 dX12_matched_65 ?_
                  refine zr_icmp_ge 118 dX12_matched_68 (by decide) (fun hc => ?_) (fun hc => ?_)
                  · rw [if_pos hc] at hf
                    cases hf
                    exact zr_lv [0, 1, 2] rfl hj36
                  · rw [if_neg hc] at hf
                    refine zr_aload_n 0 dX12_matched_71 rfl ?_
                    refine zr_iload 3 dX12_matched_72 rfl ?_
                    refine zr_iconst 0 dX12_matched_74 (by decide) ?_
                    replace hf := zb1_s hf
                    obtain ⟨v40, h39, hf⟩ := hf
                    refine zr_callV (ci := 12) [.int x4_30, .int 0] (cX12_isKind_ok h39) zvs_X12_isKind zl_1157 zl_1158 (fX12_isKind_ck h39) rfl rfl zl_1156 rfl (Nat.le_of_ble_eq_true rfl) (Nat.le_of_ble_eq_true rfl) (Nat.le_of_ble_eq_true rfl) (Nat.le_of_ble_eq_true rfl) dX12_matched_75 rfl ?_
                    replace hf := zc2_s hf
                    obtain ⟨s41, m42, hg, hf⟩ := hf
                    have hj43 : zz K cX12_matched (6, RX12, some .int, 5, 0, 0, some (.int r), mo) 0 0 95 [(0, .ref x0), (2, .int x2), (3, .int x3_29), (4, .int x4_30)] [.int s41] m42 := by
                      refine zr_istore [(5, .int s41), (0, .ref x0), (2, .int x2), (3, .int x3_29), (4, .int x4_30)] dX12_matched_95 (Nat.le_of_ble_eq_true rfl) rfl ?_
                      refine zr_iload_n 3 dX12_matched_97 rfl ?_
                      replace hf := zb1_s hf
                      obtain ⟨s46, hg, hf⟩ := hf
                      have hj47 : zz K cX12_matched (6, RX12, some .int, 5, 0, 0, some (.int r), mo) 0 0 111 [(0, .ref x0), (2, .int x2), (4, .int x4_30)] [.int s46] m42 := by
                        refine zr_istore_n [(3, .int s46), (0, .ref x0), (2, .int x2), (4, .int x4_30)] dX12_matched_111 (Nat.le_of_ble_eq_true rfl) rfl ?_
                        refine zr_iinc (j := 3) (x4_30 + 1) [(4, .int (x4_30 + 1)), (3, .int s46), (0, .ref x0), (2, .int x2)] dX12_matched_112 rfl rfl (Nat.le_of_ble_eq_true rfl) rfl ?_
                        refine zr_goto 62 dX12_matched_115 (by decide) ?_
                        exact zr_lv [2, 3, 1, 0] rfl (ih33 s46 (x4_30 + 1) m42 hf)
                      clear hf
                      have hf := hg
                      clear hg
                      refine zr_if_ne 106 dX12_matched_98 (by decide) (fun hc => ?_) (fun hc => ?_)
                      · rw [if_neg hc] at hf
                        refine zr_iconst 1 dX12_matched_106 (by decide) ?_
                        refine zr_goto 111 dX12_matched_107 (by decide) ?_
                        cases hf
                        exact zr_lv [1, 2, 4] rfl hj47
                      · rw [if_pos hc] at hf
                        refine zr_iload 0 dX12_matched_101 rfl ?_
                        refine zr_if_eq 110 dX12_matched_103 (by decide) (fun hc => ?_) (fun hc => ?_)
                        · rw [if_pos hc] at hf
                          refine zr_iconst 0 dX12_matched_110 (by decide) ?_
                          cases hf
                          exact zr_lv [1, 2, 4] rfl hj47
                        · rw [if_neg hc] at hf
                          refine zr_iconst 1 dX12_matched_106 (by decide) ?_
                          refine zr_goto 111 dX12_matched_107 (by decide) ?_
                          cases hf
                          exact zr_lv [1, 2, 4] rfl hj47
                    clear hf
                    have hf := hg
                    clear hg
                    have hb45 : ∀ (m44 : zM), fX12_matched_b94 m44 = some (s41, m42) → zz K cX12_matched (6, RX12, some .int, 5, 0, 0, some (.int r), mo) 0 0 94 [(0, .ref x0), (2, .int x2), (3, .int x3_29), (4, .int x4_30)] [] m44 := by
                      intro m44 hf
                      unfold fX12_matched_b94 at hf
                      refine zr_iconst 0 dX12_matched_94 (by decide) ?_
                      cases hf
                      exact zr_lv [0, 1, 2, 3] rfl hj43
                    refine zr_if_eq 94 dX12_matched_78 (by decide) (fun hc => ?_) (fun hc => ?_)
                    · rw [if_pos hc] at hf
                      exact zr_lv [0, 1, 2, 3] rfl (hb45 m31 hf)
                    · rw [if_neg hc] at hf
                      refine zr_aload_n 0 dX12_matched_81 rfl ?_
                      refine zr_iload 3 dX12_matched_82 rfl ?_
                      replace hf := zb2_s hf
                      obtain ⟨v50, m49, h48, hf⟩ := hf
                      refine zr_callV (ci := 12) [.int x4_30] (cX12_asksOn_ok h48) zvs_X12_asksOn zl_1302 zl_1303 (fX12_asksOn_ck h48) rfl rfl zl_1301 rfl (Nat.le_of_ble_eq_true rfl) (Nat.le_of_ble_eq_true rfl) (Nat.le_of_ble_eq_true rfl) (Nat.le_of_ble_eq_true rfl) dX12_matched_84 rfl ?_
                      refine zr_if_eq 94 dX12_matched_87 (by decide) (fun hc => ?_) (fun hc => ?_)
                      · rw [if_pos hc] at hf
                        exact zr_lv [0, 1, 2, 3] rfl (hb45 m49 hf)
                      · rw [if_neg hc] at hf
                        refine zr_iconst 1 dX12_matched_90 (by decide) ?_
                        refine zr_goto 95 dX12_matched_91 (by decide) ?_
                        cases hf
                        exact zr_lv [0, 1, 2, 3] rfl hj43
              exact zr_lv [2, 3, 1, 0] rfl (hL51 _ 0 0 m24 hf)
        exact zr_lv [1, 2, 0] rfl (hL52 _ 1 m12 hf)
      clear hf
      have hf := hg
      clear hg
      have hL22 : ∀ (n : Nat) (x3_8 : Int32) (m9 : zM), zf2 (fX12_matched_l25 x0) n x3_8 m9 = some m12 → zz K cX12_matched (6, RX12, some .int, 5, 0, 0, some (.int r), mo) 0 0 25 [(0, .ref x0), (2, .int x2), (3, .int x3_8)] [] m9 := by
        intro n
        induction n with
        | zero => intro x3_8 m9 hf; cases hf
        | succ n ih11 =>
          intro x3_8 m9 hf
          replace hf := zf2_s hf
          generalize zf2 (fX12_matched_l25 x0) n = F10 at hf ih11
          unfold fX12_matched_l25 at hf
          refine zr_iload_n 2 dX12_matched_25 rfl ?_
          refine zr_bipush 6 dX12_matched_26 (by decide) ?_
          refine zr_icmp_ge 51 dX12_matched_28 (by decide) (fun hc => ?_) (fun hc => ?_)
          · rw [if_pos hc] at hf
            cases hf
            exact zr_lv [0, 1] rfl hj13
          · rw [if_neg hc] at hf
            refine zr_aload_n 0 dX12_matched_31 rfl ?_
            replace hf := zb1_s hf
            obtain ⟨v14, h15, hf⟩ := hf
            refine zr_get (zm_gR_g h15) zk12 (by decide) zl_888 dX12_matched_32 ?_
            refine zr_iload_n 2 dX12_matched_35 rfl ?_
            refine zr_iconst (-1) dX12_matched_36 (by decide) ?_
            replace hf := zb1_s hf
            obtain ⟨m16, h17, hf⟩ := hf
            refine zr_iast h17 dX12_matched_37 ?_
            refine zr_aload_n 0 dX12_matched_38 rfl ?_
            replace hf := zb1_s hf
            obtain ⟨v18, h19, hf⟩ := hf
            refine zr_get (zm_gR_g h19) zk12 (by decide) zl_889 dX12_matched_39 ?_
            refine zr_iload_n 2 dX12_matched_42 rfl ?_
            refine zr_iconst 0 dX12_matched_43 (by decide) ?_
            replace hf := zb1_s hf
            obtain ⟨m20, h21, hf⟩ := hf
            refine zr_iast h21 dX12_matched_44 ?_
            refine zr_iinc (j := 2) (x3_8 + 1) [(3, .int (x3_8 + 1)), (0, .ref x0), (2, .int x2)] dX12_matched_45 rfl rfl (Nat.le_of_ble_eq_true rfl) rfl ?_
            refine zr_goto 25 dX12_matched_48 (by decide) ?_
            exact zr_lv [1, 2, 0] rfl (ih11 (x3_8 + 1) m20 hf)
      exact zr_lv [1, 3, 0] rfl (hL22 _ 0 m4 hf)
    · rw [if_pos hc] at hf
      refine zr_iconst (-1) dX12_matched_21 (by decide) ?_
      cases hf
      exact zr_iret dX12_matched_22
