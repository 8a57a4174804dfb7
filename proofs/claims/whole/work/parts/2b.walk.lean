theorem zl_74 : Cond.fieldLink RX0 108 "TwoEchoes$Valley" "kind" "[I" ∈ zt := zt_at 195 (by decide +kernel)
theorem zl_75 : Cond.code yX0_isNearer cX0_isNearer 6 (some .boolean) ∈ zt := zt_at 1313 (by decide +kernel)
theorem zvs_X0_isNearer : zvS yX0_isNearer cX0_isNearer 6 (some .boolean) 4 := ⟨zl_75, zl_31, ⟨by decide +kernel, by decide +kernel, by decide +kernel⟩, by decide⟩
theorem zl_76 : Cond.methodLink RX0 111 yX0_isNearer ∈ zt := zt_at 1311 (by decide +kernel)
theorem zl_77 : Cond.static yX0_isNearer ∈ zt := zt_at 1312 (by decide +kernel)
theorem dX0_nearestUnasked_0 : decode cX0_nearestUnasked 0 = .ok (.iconst (-1), 1) := by decide +kernel
theorem dX0_nearestUnasked_1 : decode cX0_nearestUnasked 1 = .ok (.istore_n 3, 1) := by decide +kernel
theorem dX0_nearestUnasked_2 : decode cX0_nearestUnasked 2 = .ok (.iconst 0, 1) := by decide +kernel
theorem dX0_nearestUnasked_3 : decode cX0_nearestUnasked 3 = .ok (.istore 4, 2) := by decide +kernel
theorem dX0_nearestUnasked_5 : decode cX0_nearestUnasked 5 = .ok (.iload 4, 2) := by decide +kernel
theorem dX0_nearestUnasked_7 : decode cX0_nearestUnasked 7 = .ok (.aload_n 1, 1) := by decide +kernel
theorem dX0_nearestUnasked_8 : decode cX0_nearestUnasked 8 = .ok (.getfield 21, 3) := by decide +kernel
theorem dX0_nearestUnasked_11 : decode cX0_nearestUnasked 11 = .ok (.if_icmp .ge 56, 3) := by decide +kernel
theorem dX0_nearestUnasked_14 : decode cX0_nearestUnasked 14 = .ok (.aload_n 1, 1) := by decide +kernel
theorem dX0_nearestUnasked_15 : decode cX0_nearestUnasked 15 = .ok (.getfield 108, 3) := by decide +kernel
theorem dX0_nearestUnasked_18 : decode cX0_nearestUnasked 18 = .ok (.iload 4, 2) := by decide +kernel
theorem dX0_nearestUnasked_20 : decode cX0_nearestUnasked 20 = .ok (.iaload, 1) := by decide +kernel
theorem dX0_nearestUnasked_21 : decode cX0_nearestUnasked 21 = .ok (.iconst 1, 1) := by decide +kernel
theorem dX0_nearestUnasked_22 : decode cX0_nearestUnasked 22 = .ok (.if_icmp .ne 39, 3) := by decide +kernel
theorem dX0_nearestUnasked_25 : decode cX0_nearestUnasked 25 = .ok (.aload_n 0, 1) := by decide +kernel
theorem dX0_nearestUnasked_26 : decode cX0_nearestUnasked 26 = .ok (.getfield 18, 3) := by decide +kernel
theorem dX0_nearestUnasked_29 : decode cX0_nearestUnasked 29 = .ok (.iload_n 2, 1) := by decide +kernel
theorem dX0_nearestUnasked_30 : decode cX0_nearestUnasked 30 = .ok (.iaload, 1) := by decide +kernel
theorem dX0_nearestUnasked_31 : decode cX0_nearestUnasked 31 = .ok (.iload 4, 2) := by decide +kernel
theorem dX0_nearestUnasked_33 : decode cX0_nearestUnasked 33 = .ok (.ishr, 1) := by decide +kernel
theorem dX0_nearestUnasked_34 : decode cX0_nearestUnasked 34 = .ok (.iconst 1, 1) := by decide +kernel
theorem dX0_nearestUnasked_35 : decode cX0_nearestUnasked 35 = .ok (.iand, 1) := by decide +kernel
theorem dX0_nearestUnasked_36 : decode cX0_nearestUnasked 36 = .ok (.ifCond .eq 6, 3) := by decide +kernel
theorem dX0_nearestUnasked_39 : decode cX0_nearestUnasked 39 = .ok (.goto 22, 3) := by decide +kernel
theorem dX0_nearestUnasked_42 : decode cX0_nearestUnasked 42 = .ok (.iload_n 3, 1) := by decide +kernel
theorem dX0_nearestUnasked_43 : decode cX0_nearestUnasked 43 = .ok (.iconst (-1), 1) := by decide +kernel
theorem dX0_nearestUnasked_44 : decode cX0_nearestUnasked 44 = .ok (.if_icmp .eq 14, 3) := by decide +kernel
theorem dX0_nearestUnasked_47 : decode cX0_nearestUnasked 47 = .ok (.aload_n 1, 1) := by decide +kernel
theorem dX0_nearestUnasked_48 : decode cX0_nearestUnasked 48 = .ok (.iload 4, 2) := by decide +kernel
theorem dX0_nearestUnasked_50 : decode cX0_nearestUnasked 50 = .ok (.iload_n 3, 1) := by decide +kernel
theorem dX0_nearestUnasked_51 : decode cX0_nearestUnasked 51 = .ok (.iload_n 2, 1) := by decide +kernel
theorem dX0_nearestUnasked_52 : decode cX0_nearestUnasked 52 = .ok (.invokestatic 111, 3) := by decide +kernel
theorem dX0_nearestUnasked_55 : decode cX0_nearestUnasked 55 = .ok (.ifCond .eq 6, 3) := by decide +kernel
theorem dX0_nearestUnasked_58 : decode cX0_nearestUnasked 58 = .ok (.iload 4, 2) := by decide +kernel
theorem dX0_nearestUnasked_60 : decode cX0_nearestUnasked 60 = .ok (.istore_n 3, 1) := by decide +kernel
theorem dX0_nearestUnasked_61 : decode cX0_nearestUnasked 61 = .ok (.iinc 4 1, 3) := by decide +kernel
theorem dX0_nearestUnasked_64 : decode cX0_nearestUnasked 64 = .ok (.goto (-59), 3) := by decide +kernel
theorem dX0_nearestUnasked_67 : decode cX0_nearestUnasked 67 = .ok (.iload_n 3, 1) := by decide +kernel
theorem dX0_nearestUnasked_68 : decode cX0_nearestUnasked 68 = .ok (.ireturn, 1) := by decide +kernel
noncomputable def fX0_nearestUnasked_l5 (μ : zM) (x1 : Nat) (x0 : Nat) (x2 : Int32) (F3 : Int32 → Int32 → Option (Int32)) (x3_1 : Int32) (x4_2 : Int32) : Option (Int32) :=
  zb1 (zm_gI μ 9 x1 4) fun v7 =>
  if v7 ≤ x4_2 then (
  some x3_1)
  else (
  zb1 (zm_gR μ 9 x1 5) fun v9 =>
  zb1 (zm_aI μ 0 v9 x4_2) fun v11 =>
  zb1 (if v11 = 1 then (
  zb1 (zm_gR μ 0 x0 2) fun v15 =>
  zb1 (zm_aI μ 0 v15 x2) fun v17 =>
  if ((v17 >>> (x4_2 &&& 31)) &&& 1) = 0 then (
  if x3_1 = (-1) then (
  some x4_2)
  else (
  zb1 (fX0_isNearer μ x1 x4_2 x3_1 x2) fun v20 =>
  if v20 = 0 then (
  some x3_1)
  else (
  some x4_2)))
  else (
  some x3_1))
  else (
  some x3_1) : Option (Int32)) fun (x3_13 : Int32) =>
  F3 x3_13 (x4_2 + 1))
noncomputable def fX0_nearestUnasked (μ : zM) (x0 : Nat) (x1 : Nat) (x2 : Int32) : Option (Int32) := zgd (zm_ck μ 0 x0) <|
  zb1 (zf2 (fX0_nearestUnasked_l5 μ x1 x0 x2) zfu (-1) 0 : Option (Int32)) fun (x3_5 : Int32) =>
  some x3_5
theorem fX0_nearestUnasked_ck {μ : zM} {x0 : Nat} {x1 : Nat} {x2 : Int32} {z : Int32} (h : fX0_nearestUnasked μ x0 x1 x2 = some z) : zm_ck μ 0 x0 = true := (zgd_s h).1
set_option maxHeartbeats 4000000 in
set_option maxRecDepth 100000 in
theorem cX0_nearestUnasked_ok {μ : zM} {x0 : Nat} {x1 : Nat} {x2 : Int32} {r : Int32} (hf : fX0_nearestUnasked μ x0 x1 x2 = some r) : zC yX0_nearestUnasked cX0_nearestUnasked 5 (some .int) 3 0 0 [.ref x0, .ref x1, .int x2] μ (some (.int r)) μ := by
  replace hf := (zgd_s hf).2
  refine zC.of (by decide) (Nat.le_of_ble_eq_true rfl) (fun K hin => ?_)
  clear hin
  show zz K cX0_nearestUnasked (5, RX0, some .int, 3, 0, 0, some (.int r), μ) 0 0 0 [(0, .ref x0), (1, .ref x1), (2, .int x2)] [] μ
  refine zr_iconst (-1) dX0_nearestUnasked_0 (by decide) ?_
  refine zr_istore_n [(3, .int (-1)), (0, .ref x0), (1, .ref x1), (2, .int x2)] dX0_nearestUnasked_1 (Nat.le_of_ble_eq_true rfl) rfl ?_
  refine zr_iconst 0 dX0_nearestUnasked_2 (by decide) ?_
  refine zr_istore [(4, .int 0), (3, .int (-1)), (0, .ref x0), (1, .ref x1), (2, .int x2)] dX0_nearestUnasked_3 (Nat.le_of_ble_eq_true rfl) rfl ?_
  replace hf := zb1_s hf
  obtain ⟨x3_5, hg, hf⟩ := hf
  have hj6 : zz K cX0_nearestUnasked (5, RX0, some .int, 3, 0, 0, some (.int r), μ) 0 0 67 [(3, .int x3_5)] [] μ := by
    refine zr_iload_n 0 dX0_nearestUnasked_67 rfl ?_
    cases hf
    exact zr_iret dX0_nearestUnasked_68
  clear hf
  have hf := hg
  clear hg
  have hL21 : ∀ (n : Nat) (x3_1 : Int32) (x4_2 : Int32), zf2 (fX0_nearestUnasked_l5 μ x1 x0 x2) n x3_1 x4_2 = some x3_5 → zz K cX0_nearestUnasked (5, RX0, some .int, 3, 0, 0, some (.int r), μ) 0 0 5 [(0, .ref x0), (1, .ref x1), (2, .int x2), (3, .int x3_1), (4, .int x4_2)] [] μ := by
    intro n
    induction n with
    | zero => intro x3_1 x4_2 hf; cases hf
    | succ n ih4 =>
      intro x3_1 x4_2 hf
      replace hf := zf2_s hf
      generalize zf2 (fX0_nearestUnasked_l5 μ x1 x0 x2) n = F3 at hf ih4
      unfold fX0_nearestUnasked_l5 at hf
      refine zr_iload 4 dX0_nearestUnasked_5 rfl ?_
      refine zr_aload_n 1 dX0_nearestUnasked_7 rfl ?_
      replace hf := zb1_s hf
      obtain ⟨v7, h8, hf⟩ := hf
      refine zr_get (zm_gI_g h8) zk9 (by decide) zl_23 dX0_nearestUnasked_8 ?_
      refine zr_icmp_ge 67 dX0_nearestUnasked_11 (by decide) (fun hc => ?_) (fun hc => ?_)
      · rw [if_pos hc] at hf
        cases hf
        exact zr_lv [3] rfl hj6
      · rw [if_neg hc] at hf
        refine zr_aload_n 1 dX0_nearestUnasked_14 rfl ?_
        replace hf := zb1_s hf
        obtain ⟨v9, h10, hf⟩ := hf
        refine zr_get (zm_gR_g h10) zk9 (by decide) zl_74 dX0_nearestUnasked_15 ?_
        refine zr_iload 4 dX0_nearestUnasked_18 rfl ?_
        replace hf := zb1_s hf
        obtain ⟨v11, h12, hf⟩ := hf
        refine zr_iald h12 dX0_nearestUnasked_20 ?_
        refine zr_iconst 1 dX0_nearestUnasked_21 (by decide) ?_
        replace hf := zb1_s hf
        obtain ⟨x3_13, hg, hf⟩ := hf
        have hj14 : zz K cX0_nearestUnasked (5, RX0, some .int, 3, 0, 0, some (.int r), μ) 0 0 61 [(0, .ref x0), (1, .ref x1), (2, .int x2), (3, .int x3_13), (4, .int x4_2)] [] μ := by
          refine zr_iinc (j := 4) (x4_2 + 1) [(4, .int (x4_2 + 1)), (0, .ref x0), (1, .ref x1), (2, .int x2), (3, .int x3_13)] dX0_nearestUnasked_61 rfl rfl (Nat.le_of_ble_eq_true rfl) rfl ?_
          refine zr_goto 5 dX0_nearestUnasked_64 (by decide) ?_
          exact zr_lv [1, 2, 3, 4, 0] rfl (ih4 x3_13 (x4_2 + 1) hf)
        clear hf
        have hf := hg
        clear hg
        refine zr_icmp_ne 61 dX0_nearestUnasked_22 (by decide) (fun hc => ?_) (fun hc => ?_)
        · rw [if_neg hc] at hf
          cases hf
          exact zr_lv [0, 1, 2, 3, 4] rfl hj14
        · rw [if_pos hc] at hf
          refine zr_aload_n 0 dX0_nearestUnasked_25 rfl ?_
          replace hf := zb1_s hf
          obtain ⟨v15, h16, hf⟩ := hf
          refine zr_get (zm_gR_g h16) zk0 (by decide) zl_6 dX0_nearestUnasked_26 ?_
          refine zr_iload_n 2 dX0_nearestUnasked_29 rfl ?_
          replace hf := zb1_s hf
          obtain ⟨v17, h18, hf⟩ := hf
          refine zr_iald h18 dX0_nearestUnasked_30 ?_
          refine zr_iload 4 dX0_nearestUnasked_31 rfl ?_
          refine zr_ishr dX0_nearestUnasked_33 ?_
          refine zr_iconst 1 dX0_nearestUnasked_34 (by decide) ?_
          refine zr_iand dX0_nearestUnasked_35 ?_
          refine zr_if_eq 42 dX0_nearestUnasked_36 (by decide) (fun hc => ?_) (fun hc => ?_)
          · rw [if_pos hc] at hf
            refine zr_iload_n 3 dX0_nearestUnasked_42 rfl ?_
            refine zr_iconst (-1) dX0_nearestUnasked_43 (by decide) ?_
            refine zr_icmp_eq 58 dX0_nearestUnasked_44 (by decide) (fun hc => ?_) (fun hc => ?_)
            · rw [if_pos hc] at hf
              refine zr_iload 4 dX0_nearestUnasked_58 rfl ?_
              refine zr_istore_n [(3, .int x4_2), (0, .ref x0), (1, .ref x1), (2, .int x2), (4, .int x4_2)] dX0_nearestUnasked_60 (Nat.le_of_ble_eq_true rfl) rfl ?_
              cases hf
              exact zr_lv [1, 2, 3, 0, 4] rfl hj14
            · rw [if_neg hc] at hf
              refine zr_aload_n 1 dX0_nearestUnasked_47 rfl ?_
              refine zr_iload 4 dX0_nearestUnasked_48 rfl ?_
              refine zr_iload_n 3 dX0_nearestUnasked_50 rfl ?_
              refine zr_iload_n 2 dX0_nearestUnasked_51 rfl ?_
              replace hf := zb1_s hf
              obtain ⟨v20, h19, hf⟩ := hf
              refine zr_callS [.ref x1, .int x4_2, .int x3_1, .int x2] (cX0_isNearer_ok h19) zvs_X0_isNearer zl_77 zl_76 rfl (Nat.le_of_ble_eq_true rfl) (Nat.le_of_ble_eq_true rfl) (Nat.le_of_ble_eq_true rfl) (Nat.le_of_ble_eq_true rfl) dX0_nearestUnasked_52 rfl ?_
              refine zr_if_eq 61 dX0_nearestUnasked_55 (by decide) (fun hc => ?_) (fun hc => ?_)
              · rw [if_pos hc] at hf
                cases hf
                exact zr_lv [0, 1, 2, 3, 4] rfl hj14
              · rw [if_neg hc] at hf
                refine zr_iload 4 dX0_nearestUnasked_58 rfl ?_
                refine zr_istore_n [(3, .int x4_2), (0, .ref x0), (1, .ref x1), (2, .int x2), (4, .int x4_2)] dX0_nearestUnasked_60 (Nat.le_of_ble_eq_true rfl) rfl ?_
                cases hf
                exact zr_lv [1, 2, 3, 0, 4] rfl hj14
          · rw [if_neg hc] at hf
            refine zr_goto 61 dX0_nearestUnasked_39 (by decide) ?_
            cases hf
            exact zr_lv [0, 1, 2, 3, 4] rfl hj14
  exact zr_lv [2, 3, 4, 1, 0] rfl (hL21 _ (-1) 0 hf)
theorem zl_78 : Cond.code yX0_nearestUnasked cX0_nearestUnasked 5 (some .int) ∈ zt := zt_at 1310 (by decide +kernel)
theorem zvs_X0_nearestUnasked : zvS yX0_nearestUnasked cX0_nearestUnasked 5 (some .int) 2 := ⟨zl_78, zl_31, ⟨by decide +kernel, by decide +kernel, by decide +kernel⟩, by decide⟩
theorem zl_79 : Cond.methodLink RX0 100 yX0_nearestUnasked ∈ zt := zt_at 1307 (by decide +kernel)
theorem zl_80 : Cond.instanceMethod yX0_nearestUnasked ∈ zt := zt_at 1309 (by decide +kernel)
theorem zl_81 : Cond.selects RX0 yX0_nearestUnasked yX0_nearestUnasked ∈ zt := zt_at 45 (by decide +kernel)
theorem dX0_nextAsker_0 : decode cX0_nextAsker 0 = .ok (.iconst 0, 1) := by decide +kernel
theorem dX0_nextAsker_1 : decode cX0_nextAsker 1 = .ok (.istore_n 2, 1) := by decide +kernel
theorem dX0_nextAsker_2 : decode cX0_nextAsker 2 = .ok (.iload_n 2, 1) := by decide +kernel
theorem dX0_nextAsker_3 : decode cX0_nextAsker 3 = .ok (.aload_n 1, 1) := by decide +kernel
theorem dX0_nextAsker_4 : decode cX0_nextAsker 4 = .ok (.getfield 21, 3) := by decide +kernel
theorem dX0_nextAsker_7 : decode cX0_nextAsker 7 = .ok (.if_icmp .ge 40, 3) := by decide +kernel
theorem dX0_nextAsker_10 : decode cX0_nextAsker 10 = .ok (.aload_n 1, 1) := by decide +kernel
theorem dX0_nextAsker_11 : decode cX0_nextAsker 11 = .ok (.getfield 108, 3) := by decide +kernel
theorem dX0_nextAsker_14 : decode cX0_nextAsker 14 = .ok (.iload_n 2, 1) := by decide +kernel
theorem dX0_nextAsker_15 : decode cX0_nextAsker 15 = .ok (.iaload, 1) := by decide +kernel
theorem dX0_nextAsker_16 : decode cX0_nextAsker 16 = .ok (.ifCond .ne 25, 3) := by decide +kernel
theorem dX0_nextAsker_19 : decode cX0_nextAsker 19 = .ok (.aload_n 0, 1) := by decide +kernel
theorem dX0_nextAsker_20 : decode cX0_nextAsker 20 = .ok (.getfield 15, 3) := by decide +kernel
theorem dX0_nextAsker_23 : decode cX0_nextAsker 23 = .ok (.iload_n 2, 1) := by decide +kernel
theorem dX0_nextAsker_24 : decode cX0_nextAsker 24 = .ok (.iaload, 1) := by decide +kernel
theorem dX0_nextAsker_25 : decode cX0_nextAsker 25 = .ok (.iconst (-1), 1) := by decide +kernel
theorem dX0_nextAsker_26 : decode cX0_nextAsker 26 = .ok (.if_icmp .ne 15, 3) := by decide +kernel
theorem dX0_nextAsker_29 : decode cX0_nextAsker 29 = .ok (.aload_n 0, 1) := by decide +kernel
theorem dX0_nextAsker_30 : decode cX0_nextAsker 30 = .ok (.aload_n 1, 1) := by decide +kernel
theorem dX0_nextAsker_31 : decode cX0_nextAsker 31 = .ok (.iload_n 2, 1) := by decide +kernel
theorem dX0_nextAsker_32 : decode cX0_nextAsker 32 = .ok (.invokevirtual 100, 3) := by decide +kernel
theorem dX0_nextAsker_35 : decode cX0_nextAsker 35 = .ok (.iconst (-1), 1) := by decide +kernel
theorem dX0_nextAsker_36 : decode cX0_nextAsker 36 = .ok (.if_icmp .eq 5, 3) := by decide +kernel
theorem dX0_nextAsker_39 : decode cX0_nextAsker 39 = .ok (.iload_n 2, 1) := by decide +kernel
theorem dX0_nextAsker_40 : decode cX0_nextAsker 40 = .ok (.ireturn, 1) := by decide +kernel
theorem dX0_nextAsker_41 : decode cX0_nextAsker 41 = .ok (.iinc 2 1, 3) := by decide +kernel
theorem dX0_nextAsker_44 : decode cX0_nextAsker 44 = .ok (.goto (-42), 3) := by decide +kernel
theorem dX0_nextAsker_47 : decode cX0_nextAsker 47 = .ok (.iconst (-1), 1) := by decide +kernel
theorem dX0_nextAsker_48 : decode cX0_nextAsker 48 = .ok (.ireturn, 1) := by decide +kernel
noncomputable def fX0_nextAsker_l2 (μ : zM) (x1 : Nat) (x0 : Nat) (F2 : Int32 → Option (Int32)) (x2_1 : Int32) : Option (Int32) :=
  zb1 (zm_gI μ 9 x1 4) fun v4 =>
  if v4 ≤ x2_1 then (
  some (-1))
  else (
  zb1 (zm_gR μ 9 x1 5) fun v6 =>
  zb1 (zm_aI μ 0 v6 x2_1) fun v8 =>
  if v8 = 0 then (
  zb1 (zm_gR μ 0 x0 1) fun v10 =>
  zb1 (zm_aI μ 0 v10 x2_1) fun v12 =>
  if v12 = (-1) then (
  zb1 (fX0_nearestUnasked μ x0 x1 x2_1) fun v15 =>
  if v15 = (-1) then (
  F2 (x2_1 + 1))
  else (
  some x2_1))
  else (
  F2 (x2_1 + 1)))
  else (
  F2 (x2_1 + 1)))
noncomputable def fX0_nextAsker (μ : zM) (x0 : Nat) (x1 : Nat) : Option (Int32) := zgd (zm_ck μ 0 x0) <|
  zf1 (fX0_nextAsker_l2 μ x1 x0) zfu 0
theorem fX0_nextAsker_ck {μ : zM} {x0 : Nat} {x1 : Nat} {z : Int32} (h : fX0_nextAsker μ x0 x1 = some z) : zm_ck μ 0 x0 = true := (zgd_s h).1
set_option maxHeartbeats 4000000 in
set_option maxRecDepth 100000 in
theorem cX0_nextAsker_ok {μ : zM} {x0 : Nat} {x1 : Nat} {r : Int32} (hf : fX0_nextAsker μ x0 x1 = some r) : zC yX0_nextAsker cX0_nextAsker 3 (some .int) 4 0 0 [.ref x0, .ref x1] μ (some (.int r)) μ := by
  replace hf := (zgd_s hf).2
  refine zC.of (by decide) (Nat.le_of_ble_eq_true rfl) (fun K hin => ?_)
  clear hin
  show zz K cX0_nextAsker (3, RX0, some .int, 4, 0, 0, some (.int r), μ) 0 0 0 [(0, .ref x0), (1, .ref x1)] [] μ
  refine zr_iconst 0 dX0_nextAsker_0 (by decide) ?_
  refine zr_istore_n [(2, .int 0), (0, .ref x0), (1, .ref x1)] dX0_nextAsker_1 (Nat.le_of_ble_eq_true rfl) rfl ?_
  have hL16 : ∀ (n : Nat) (x2_1 : Int32), zf1 (fX0_nextAsker_l2 μ x1 x0) n x2_1 = some r → zz K cX0_nextAsker (3, RX0, some .int, 4, 0, 0, some (.int r), μ) 0 0 2 [(0, .ref x0), (1, .ref x1), (2, .int x2_1)] [] μ := by
    intro n
    induction n with
    | zero => intro x2_1 hf; cases hf
    | succ n ih3 =>
      intro x2_1 hf
      replace hf := zf1_s hf
      generalize zf1 (fX0_nextAsker_l2 μ x1 x0) n = F2 at hf ih3
      unfold fX0_nextAsker_l2 at hf
      refine zr_iload_n 2 dX0_nextAsker_2 rfl ?_
      refine zr_aload_n 1 dX0_nextAsker_3 rfl ?_
      replace hf := zb1_s hf
      obtain ⟨v4, h5, hf⟩ := hf
      refine zr_get (zm_gI_g h5) zk9 (by decide) zl_23 dX0_nextAsker_4 ?_
      refine zr_icmp_ge 47 dX0_nextAsker_7 (by decide) (fun hc => ?_) (fun hc => ?_)
      · rw [if_pos hc] at hf
        refine zr_iconst (-1) dX0_nextAsker_47 (by decide) ?_
        cases hf
        exact zr_iret dX0_nextAsker_48
      · rw [if_neg hc] at hf
        refine zr_aload_n 1 dX0_nextAsker_10 rfl ?_
        replace hf := zb1_s hf
        obtain ⟨v6, h7, hf⟩ := hf
        refine zr_get (zm_gR_g h7) zk9 (by decide) zl_74 dX0_nextAsker_11 ?_
        refine zr_iload_n 2 dX0_nextAsker_14 rfl ?_
        replace hf := zb1_s hf
        obtain ⟨v8, h9, hf⟩ := hf
        refine zr_iald h9 dX0_nextAsker_15 ?_
        refine zr_if_ne 41 dX0_nextAsker_16 (by decide) (fun hc => ?_) (fun hc => ?_)
        · rw [if_neg hc] at hf
          refine zr_iinc (j := 2) (x2_1 + 1) [(2, .int (x2_1 + 1)), (0, .ref x0), (1, .ref x1)] dX0_nextAsker_41 rfl rfl (Nat.le_of_ble_eq_true rfl) rfl ?_
          refine zr_goto 2 dX0_nextAsker_44 (by decide) ?_
          exact zr_lv [1, 2, 0] rfl (ih3 (x2_1 + 1) hf)
        · rw [if_pos hc] at hf
          refine zr_aload_n 0 dX0_nextAsker_19 rfl ?_
          replace hf := zb1_s hf
          obtain ⟨v10, h11, hf⟩ := hf
          refine zr_get (zm_gR_g h11) zk0 (by decide) zl_5 dX0_nextAsker_20 ?_
          refine zr_iload_n 2 dX0_nextAsker_23 rfl ?_
          replace hf := zb1_s hf
          obtain ⟨v12, h13, hf⟩ := hf
          refine zr_iald h13 dX0_nextAsker_24 ?_
          refine zr_iconst (-1) dX0_nextAsker_25 (by decide) ?_
          refine zr_icmp_ne 41 dX0_nextAsker_26 (by decide) (fun hc => ?_) (fun hc => ?_)
          · rw [if_neg hc] at hf
            refine zr_iinc (j := 2) (x2_1 + 1) [(2, .int (x2_1 + 1)), (0, .ref x0), (1, .ref x1)] dX0_nextAsker_41 rfl rfl (Nat.le_of_ble_eq_true rfl) rfl ?_
            refine zr_goto 2 dX0_nextAsker_44 (by decide) ?_
            exact zr_lv [1, 2, 0] rfl (ih3 (x2_1 + 1) hf)
          · rw [if_pos hc] at hf
            refine zr_aload_n 0 dX0_nextAsker_29 rfl ?_
            refine zr_aload_n 1 dX0_nextAsker_30 rfl ?_
            refine zr_iload_n 2 dX0_nextAsker_31 rfl ?_
            replace hf := zb1_s hf
            obtain ⟨v15, h14, hf⟩ := hf
            refine zr_callV (ci := 0) [.ref x1, .int x2_1] (cX0_nearestUnasked_ok h14) zvs_X0_nearestUnasked zl_80 zl_81 (fX0_nearestUnasked_ck h14) rfl rfl zl_79 rfl (Nat.le_of_ble_eq_true rfl) (Nat.le_of_ble_eq_true rfl) (Nat.le_of_ble_eq_true rfl) (Nat.le_of_ble_eq_true rfl) dX0_nextAsker_32 rfl ?_
            refine zr_iconst (-1) dX0_nextAsker_35 (by decide) ?_
            refine zr_icmp_eq 41 dX0_nextAsker_36 (by decide) (fun hc => ?_) (fun hc => ?_)
            · rw [if_pos hc] at hf
              refine zr_iinc (j := 2) (x2_1 + 1) [(2, .int (x2_1 + 1)), (0, .ref x0), (1, .ref x1)] dX0_nextAsker_41 rfl rfl (Nat.le_of_ble_eq_true rfl) rfl ?_
              refine zr_goto 2 dX0_nextAsker_44 (by decide) ?_
              exact zr_lv [1, 2, 0] rfl (ih3 (x2_1 + 1) hf)
            · rw [if_neg hc] at hf
              refine zr_iload_n 2 dX0_nextAsker_39 rfl ?_
              cases hf
              exact zr_iret dX0_nextAsker_40
  exact zr_lv [1, 2, 0] rfl (hL16 _ 0 hf)
theorem dX0_ask_0 : decode cX0_ask 0 = .ok (.iload_n 3, 1) := by decide +kernel
theorem dX0_ask_1 : decode cX0_ask 1 = .ok (.iconst (-1), 1) := by decide +kernel
theorem dX0_ask_2 : decode cX0_ask 2 = .ok (.if_icmp .ne 4, 3) := by decide +kernel
theorem dX0_ask_5 : decode cX0_ask 5 = .ok (.return_, 1) := by decide +kernel
theorem dX0_ask_6 : decode cX0_ask 6 = .ok (.aload_n 0, 1) := by decide +kernel
theorem dX0_ask_7 : decode cX0_ask 7 = .ok (.getfield 18, 3) := by decide +kernel
theorem dX0_ask_10 : decode cX0_ask 10 = .ok (.iload_n 2, 1) := by decide +kernel
theorem dX0_ask_11 : decode cX0_ask 11 = .ok (.dup2, 1) := by decide +kernel
theorem dX0_ask_12 : decode cX0_ask 12 = .ok (.iaload, 1) := by decide +kernel
theorem dX0_ask_13 : decode cX0_ask 13 = .ok (.iconst 1, 1) := by decide +kernel
theorem dX0_ask_14 : decode cX0_ask 14 = .ok (.iload_n 3, 1) := by decide +kernel
theorem dX0_ask_15 : decode cX0_ask 15 = .ok (.ishl, 1) := by decide +kernel
theorem dX0_ask_16 : decode cX0_ask 16 = .ok (.ior, 1) := by decide +kernel
theorem dX0_ask_17 : decode cX0_ask 17 = .ok (.iastore, 1) := by decide +kernel
theorem dX0_ask_18 : decode cX0_ask 18 = .ok (.aload_n 0, 1) := by decide +kernel
theorem dX0_ask_19 : decode cX0_ask 19 = .ok (.getfield 15, 3) := by decide +kernel
theorem dX0_ask_22 : decode cX0_ask 22 = .ok (.iload_n 3, 1) := by decide +kernel
theorem dX0_ask_23 : decode cX0_ask 23 = .ok (.iaload, 1) := by decide +kernel
theorem dX0_ask_24 : decode cX0_ask 24 = .ok (.istore 4, 2) := by decide +kernel
theorem dX0_ask_26 : decode cX0_ask 26 = .ok (.iload 4, 2) := by decide +kernel
theorem dX0_ask_28 : decode cX0_ask 28 = .ok (.iconst (-1), 1) := by decide +kernel
theorem dX0_ask_29 : decode cX0_ask 29 = .ok (.if_icmp .eq 15, 3) := by decide +kernel
theorem dX0_ask_32 : decode cX0_ask 32 = .ok (.aload_n 1, 1) := by decide +kernel
theorem dX0_ask_33 : decode cX0_ask 33 = .ok (.iload_n 2, 1) := by decide +kernel
theorem dX0_ask_34 : decode cX0_ask 34 = .ok (.iload 4, 2) := by decide +kernel
theorem dX0_ask_36 : decode cX0_ask 36 = .ok (.iload_n 3, 1) := by decide +kernel
theorem dX0_ask_37 : decode cX0_ask 37 = .ok (.invokestatic 111, 3) := by decide +kernel
theorem dX0_ask_40 : decode cX0_ask 40 = .ok (.ifCond .ne 4, 3) := by decide +kernel
theorem dX0_ask_43 : decode cX0_ask 43 = .ok (.return_, 1) := by decide +kernel
theorem dX0_ask_44 : decode cX0_ask 44 = .ok (.iload 4, 2) := by decide +kernel
theorem dX0_ask_46 : decode cX0_ask 46 = .ok (.iconst (-1), 1) := by decide +kernel
theorem dX0_ask_47 : decode cX0_ask 47 = .ok (.if_icmp .eq 11, 3) := by decide +kernel
theorem dX0_ask_50 : decode cX0_ask 50 = .ok (.aload_n 0, 1) := by decide +kernel
theorem dX0_ask_51 : decode cX0_ask 51 = .ok (.getfield 15, 3) := by decide +kernel
theorem dX0_ask_54 : decode cX0_ask 54 = .ok (.iload 4, 2) := by decide +kernel
theorem dX0_ask_56 : decode cX0_ask 56 = .ok (.iconst (-1), 1) := by decide +kernel
theorem dX0_ask_57 : decode cX0_ask 57 = .ok (.iastore, 1) := by decide +kernel
theorem dX0_ask_58 : decode cX0_ask 58 = .ok (.aload_n 0, 1) := by decide +kernel
theorem dX0_ask_59 : decode cX0_ask 59 = .ok (.getfield 15, 3) := by decide +kernel
theorem dX0_ask_62 : decode cX0_ask 62 = .ok (.iload_n 3, 1) := by decide +kernel
theorem dX0_ask_63 : decode cX0_ask 63 = .ok (.iload_n 2, 1) := by decide +kernel
theorem dX0_ask_64 : decode cX0_ask 64 = .ok (.iastore, 1) := by decide +kernel
theorem dX0_ask_65 : decode cX0_ask 65 = .ok (.aload_n 0, 1) := by decide +kernel
theorem dX0_ask_66 : decode cX0_ask 66 = .ok (.getfield 15, 3) := by decide +kernel
theorem dX0_ask_69 : decode cX0_ask 69 = .ok (.iload_n 2, 1) := by decide +kernel
theorem dX0_ask_70 : decode cX0_ask 70 = .ok (.iload_n 3, 1) := by decide +kernel
theorem dX0_ask_71 : decode cX0_ask 71 = .ok (.iastore, 1) := by decide +kernel
theorem dX0_ask_72 : decode cX0_ask 72 = .ok (.return_, 1) := by decide +kernel
noncomputable def fX0_ask_b44 (v9 : Int32) (m5 : zM) (x0 : Nat) (x3 : Int32) (x2 : Int32) : Option (zM) :=
  zc1 (if v9 = (-1) then (
  some m5)
  else (
  zb1 (zm_gR m5 0 x0 1) fun v21 =>
  zb1 (zm_sI m5 0 v21 v9 (-1)) fun m23 =>
  some m23) : Option (zM)) fun (m11 : zM) =>
  zb1 (zm_gR m11 0 x0 1) fun v13 =>
  zb1 (zm_sI m11 0 v13 x3 x2) fun m15 =>
  zb1 (zm_gR m15 0 x0 1) fun v17 =>
  zb1 (zm_sI m15 0 v17 x2 x3) fun m19 =>
  some m19
noncomputable def fX0_ask (μ : zM) (x0 : Nat) (x1 : Nat) (x2 : Int32) (x3 : Int32) : Option (zM) := zgd (zm_ck μ 0 x0) <|
  if x3 = (-1) then (
  some μ)
  else (
  zb1 (zm_gR μ 0 x0 2) fun v1 =>
  zb1 (zm_aI μ 0 v1 x2) fun v3 =>
  zb1 (zm_sI μ 0 v1 x2 (v3 ||| (1 <<< (x3 &&& 31)))) fun m5 =>
  zb1 (zm_gR m5 0 x0 1) fun v7 =>
  zb1 (zm_aI m5 0 v7 x3) fun v9 =>
  if v9 = (-1) then (
  fX0_ask_b44 v9 m5 x0 x3 x2)
  else (
  zb1 (fX0_isNearer m5 x1 x2 v9 x3) fun v27 =>
  if v27 = 0 then (
  some m5)
  else (
  fX0_ask_b44 v9 m5 x0 x3 x2)))
theorem fX0_ask_ck {μ : zM} {x0 : Nat} {x1 : Nat} {x2 : Int32} {x3 : Int32} {z : zM} (h : fX0_ask μ x0 x1 x2 x3 = some z) : zm_ck μ 0 x0 = true := (zgd_s h).1
set_option maxHeartbeats 4000000 in
set_option maxRecDepth 100000 in
theorem cX0_ask_ok {μ : zM} {x0 : Nat} {x1 : Nat} {x2 : Int32} {x3 : Int32} {mo : zM} (hf : fX0_ask μ x0 x1 x2 x3 = some mo) : zC yX0_ask cX0_ask 5 (none) 3 0 0 [.ref x0, .ref x1, .int x2, .int x3] μ (none) mo := by
  replace hf := (zgd_s hf).2
  refine zC.of (by decide) (Nat.le_of_ble_eq_true rfl) (fun K hin => ?_)
  clear hin
  show zz K cX0_ask (5, RX0, none, 3, 0, 0, none, mo) 0 0 0 [(0, .ref x0), (1, .ref x1), (2, .int x2), (3, .int x3)] [] μ
  refine zr_iload_n 3 dX0_ask_0 rfl ?_
  refine zr_iconst (-1) dX0_ask_1 (by decide) ?_
  refine zr_icmp_ne 6 dX0_ask_2 (by decide) (fun hc => ?_) (fun hc => ?_)
  · rw [if_neg hc] at hf
    refine zr_aload_n 0 dX0_ask_6 rfl ?_
    replace hf := zb1_s hf
    obtain ⟨v1, h2, hf⟩ := hf
    refine zr_get (zm_gR_g h2) zk0 (by decide) zl_6 dX0_ask_7 ?_
    refine zr_iload_n 2 dX0_ask_10 rfl ?_
    refine zr_dup2 dX0_ask_11 rfl rfl ?_
    replace hf := zb1_s hf
    obtain ⟨v3, h4, hf⟩ := hf
    refine zr_iald h4 dX0_ask_12 ?_
    refine zr_iconst 1 dX0_ask_13 (by decide) ?_
    refine zr_iload_n 3 dX0_ask_14 rfl ?_
    refine zr_ishl dX0_ask_15 ?_
    refine zr_ior dX0_ask_16 ?_
    replace hf := zb1_s hf
    obtain ⟨m5, h6, hf⟩ := hf
    refine zr_iast h6 dX0_ask_17 ?_
    refine zr_aload_n 0 dX0_ask_18 rfl ?_
    replace hf := zb1_s hf
    obtain ⟨v7, h8, hf⟩ := hf
    refine zr_get (zm_gR_g h8) zk0 (by decide) zl_5 dX0_ask_19 ?_
    refine zr_iload_n 3 dX0_ask_22 rfl ?_
    replace hf := zb1_s hf
    obtain ⟨v9, h10, hf⟩ := hf
    refine zr_iald h10 dX0_ask_23 ?_
    refine zr_istore [(4, .int v9), (0, .ref x0), (1, .ref x1), (2, .int x2), (3, .int x3)] dX0_ask_24 (Nat.le_of_ble_eq_true rfl) rfl ?_
    refine zr_iload 0 dX0_ask_26 rfl ?_
    refine zr_iconst (-1) dX0_ask_28 (by decide) ?_
    have hb25 : ∀ (_ : Unit), fX0_ask_b44 v9 m5 x0 x3 x2 = some mo → zz K cX0_ask (5, RX0, none, 3, 0, 0, none, mo) 0 0 44 [(0, .ref x0), (2, .int x2), (3, .int x3), (4, .int v9)] [] m5 := by
      intro _ hf
      unfold fX0_ask_b44 at hf
      refine zr_iload 3 dX0_ask_44 rfl ?_
      refine zr_iconst (-1) dX0_ask_46 (by decide) ?_
      replace hf := zc1_s hf
      obtain ⟨m11, hg, hf⟩ := hf
      have hj12 : zz K cX0_ask (5, RX0, none, 3, 0, 0, none, mo) 0 0 58 [(0, .ref x0), (2, .int x2), (3, .int x3)] [] m11 := by
        refine zr_aload_n 0 dX0_ask_58 rfl ?_
        replace hf := zb1_s hf
        obtain ⟨v13, h14, hf⟩ := hf
        refine zr_get (zm_gR_g h14) zk0 (by decide) zl_5 dX0_ask_59 ?_
        refine zr_iload_n 2 dX0_ask_62 rfl ?_
        refine zr_iload_n 1 dX0_ask_63 rfl ?_
        replace hf := zb1_s hf
        obtain ⟨m15, h16, hf⟩ := hf
        refine zr_iast h16 dX0_ask_64 ?_
        refine zr_aload_n 0 dX0_ask_65 rfl ?_
        replace hf := zb1_s hf
        obtain ⟨v17, h18, hf⟩ := hf
        refine zr_get (zm_gR_g h18) zk0 (by decide) zl_5 dX0_ask_66 ?_
        refine zr_iload_n 1 dX0_ask_69 rfl ?_
        refine zr_iload_n 2 dX0_ask_70 rfl ?_
        replace hf := zb1_s hf
        obtain ⟨m19, h20, hf⟩ := hf
        refine zr_iast h20 dX0_ask_71 ?_
        cases hf
        exact zr_vret dX0_ask_72
      clear hf
      have hf := hg
      clear hg
      refine zr_icmp_eq 58 dX0_ask_47 (by decide) (fun hc => ?_) (fun hc => ?_)
      · rw [if_pos hc] at hf
        cases hf
        exact zr_lv [0, 1, 2] rfl hj12
      · rw [if_neg hc] at hf
        refine zr_aload_n 0 dX0_ask_50 rfl ?_
        replace hf := zb1_s hf
        obtain ⟨v21, h22, hf⟩ := hf
        refine zr_get (zm_gR_g h22) zk0 (by decide) zl_5 dX0_ask_51 ?_
        refine zr_iload 3 dX0_ask_54 rfl ?_
        refine zr_iconst (-1) dX0_ask_56 (by decide) ?_
        replace hf := zb1_s hf
        obtain ⟨m23, h24, hf⟩ := hf
        refine zr_iast h24 dX0_ask_57 ?_
        cases hf
        exact zr_lv [0, 1, 2] rfl hj12
    refine zr_icmp_eq 44 dX0_ask_29 (by decide) (fun hc => ?_) (fun hc => ?_)
    · rw [if_pos hc] at hf
      exact zr_lv [1, 3, 4, 0] rfl (hb25 () hf)
    · rw [if_neg hc] at hf
      refine zr_aload_n 2 dX0_ask_32 rfl ?_
      refine zr_iload_n 3 dX0_ask_33 rfl ?_
      refine zr_iload 0 dX0_ask_34 rfl ?_
      refine zr_iload_n 4 dX0_ask_36 rfl ?_
      replace hf := zb1_s hf
      obtain ⟨v27, h26, hf⟩ := hf
      refine zr_callS [.ref x1, .int x2, .int v9, .int x3] (cX0_isNearer_ok h26) zvs_X0_isNearer zl_77 zl_76 rfl (Nat.le_of_ble_eq_true rfl) (Nat.le_of_ble_eq_true rfl) (Nat.le_of_ble_eq_true rfl) (Nat.le_of_ble_eq_true rfl) dX0_ask_37 rfl ?_
      refine zr_if_ne 44 dX0_ask_40 (by decide) (fun hc => ?_) (fun hc => ?_)
      · rw [if_neg hc] at hf
        exact zr_lv [1, 3, 4, 0] rfl (hb25 () hf)
      · rw [if_pos hc] at hf
        cases hf
        exact zr_vret dX0_ask_43
  · rw [if_pos hc] at hf
    cases hf
    exact zr_vret dX0_ask_5
theorem zl_82 : Cond.code yX0_nextAsker cX0_nextAsker 3 (some .int) ∈ zt := zt_at 1306 (by decide +kernel)
theorem zvs_X0_nextAsker : zvS yX0_nextAsker cX0_nextAsker 3 (some .int) 1 := ⟨zl_82, zl_31, ⟨by decide +kernel, by decide +kernel, by decide +kernel⟩, by decide⟩
theorem zl_83 : Cond.methodLink RX0 96 yX0_nextAsker ∈ zt := zt_at 1303 (by decide +kernel)
theorem zl_84 : Cond.instanceMethod yX0_nextAsker ∈ zt := zt_at 1305 (by decide +kernel)
theorem zl_85 : Cond.selects RX0 yX0_nextAsker yX0_nextAsker ∈ zt := zt_at 44 (by decide +kernel)
theorem zl_86 : Cond.code yX0_ask cX0_ask 5 (none) ∈ zt := zt_at 1317 (by decide +kernel)
theorem zvs_X0_ask : zvS yX0_ask cX0_ask 5 (none) 3 := ⟨zl_86, zl_31, ⟨by decide +kernel, by decide +kernel, by decide +kernel⟩, by decide⟩
theorem zl_87 : Cond.methodLink RX0 104 yX0_ask ∈ zt := zt_at 1314 (by decide +kernel)
theorem zl_88 : Cond.instanceMethod yX0_ask ∈ zt := zt_at 1316 (by decide +kernel)
theorem zl_89 : Cond.selects RX0 yX0_ask yX0_ask ∈ zt := zt_at 46 (by decide +kernel)
theorem dX0_match_0 : decode cX0_match 0 = .ok (.aload_n 0, 1) := by decide +kernel
theorem dX0_match_1 : decode cX0_match 1 = .ok (.getfield 15, 3) := by decide +kernel
theorem dX0_match_4 : decode cX0_match 4 = .ok (.iconst (-1), 1) := by decide +kernel
theorem dX0_match_5 : decode cX0_match 5 = .ok (.invokestatic 54, 3) := by decide +kernel
theorem dX0_match_8 : decode cX0_match 8 = .ok (.aload_n 0, 1) := by decide +kernel
theorem dX0_match_9 : decode cX0_match 9 = .ok (.getfield 18, 3) := by decide +kernel
theorem dX0_match_12 : decode cX0_match 12 = .ok (.iconst 0, 1) := by decide +kernel
theorem dX0_match_13 : decode cX0_match 13 = .ok (.invokestatic 54, 3) := by decide +kernel
theorem dX0_match_16 : decode cX0_match 16 = .ok (.iconst 0, 1) := by decide +kernel
theorem dX0_match_17 : decode cX0_match 17 = .ok (.istore_n 2, 1) := by decide +kernel
theorem dX0_match_18 : decode cX0_match 18 = .ok (.iload_n 2, 1) := by decide +kernel
theorem dX0_match_19 : decode cX0_match 19 = .ok (.bipush 36, 2) := by decide +kernel
theorem dX0_match_21 : decode cX0_match 21 = .ok (.if_icmp .ge 33, 3) := by decide +kernel
theorem dX0_match_24 : decode cX0_match 24 = .ok (.aload_n 0, 1) := by decide +kernel
theorem dX0_match_25 : decode cX0_match 25 = .ok (.aload_n 1, 1) := by decide +kernel
theorem dX0_match_26 : decode cX0_match 26 = .ok (.invokevirtual 96, 3) := by decide +kernel
theorem dX0_match_29 : decode cX0_match 29 = .ok (.istore_n 3, 1) := by decide +kernel
theorem dX0_match_30 : decode cX0_match 30 = .ok (.iload_n 3, 1) := by decide +kernel
theorem dX0_match_31 : decode cX0_match 31 = .ok (.iconst (-1), 1) := by decide +kernel
theorem dX0_match_32 : decode cX0_match 32 = .ok (.if_icmp .ne 4, 3) := by decide +kernel
theorem dX0_match_35 : decode cX0_match 35 = .ok (.return_, 1) := by decide +kernel
theorem dX0_match_36 : decode cX0_match 36 = .ok (.aload_n 0, 1) := by decide +kernel
theorem dX0_match_37 : decode cX0_match 37 = .ok (.aload_n 1, 1) := by decide +kernel
theorem dX0_match_38 : decode cX0_match 38 = .ok (.iload_n 3, 1) := by decide +kernel
theorem dX0_match_39 : decode cX0_match 39 = .ok (.aload_n 0, 1) := by decide +kernel
theorem dX0_match_40 : decode cX0_match 40 = .ok (.aload_n 1, 1) := by decide +kernel
theorem dX0_match_41 : decode cX0_match 41 = .ok (.iload_n 3, 1) := by decide +kernel
theorem dX0_match_42 : decode cX0_match 42 = .ok (.invokevirtual 100, 3) := by decide +kernel
theorem dX0_match_45 : decode cX0_match 45 = .ok (.invokevirtual 104, 3) := by decide +kernel
theorem dX0_match_48 : decode cX0_match 48 = .ok (.iinc 2 1, 3) := by decide +kernel
theorem dX0_match_51 : decode cX0_match 51 = .ok (.goto (-33), 3) := by decide +kernel
theorem dX0_match_54 : decode cX0_match 54 = .ok (.return_, 1) := by decide +kernel
noncomputable def fX0_match_l18 (x0 : Nat) (x1 : Nat) (F11 : Int32 → zM → Option (zM)) (x2_9 : Int32) (m10 : zM) : Option (zM) :=
  if 36 ≤ x2_9 then (
  some m10)
  else (
  zb1 (fX0_nextAsker m10 x0 x1) fun v14 =>
  if v14 = (-1) then (
  some m10)
  else (
  zb1 (fX0_nearestUnasked m10 x0 x1 v14) fun v16 =>
  zb1 (fX0_ask m10 x0 x1 v14 v16) fun m18 =>
  F11 (x2_9 + 1) m18))
noncomputable def fX0_match (μ : zM) (x0 : Nat) (x1 : Nat) : Option (zM) := zgd (zm_ck μ 0 x0) <|
  zb1 (zm_gR μ 0 x0 1) fun v1 =>
  zb1 (fJ7_fill_53178 μ v1 (-1)) fun m4 =>
  zb1 (zm_gR m4 0 x0 2) fun v5 =>
  zb1 (fJ7_fill_53178 m4 v5 0) fun m8 =>
  zf2 (fX0_match_l18 x0 x1) zfu 0 m8
theorem fX0_match_ck {μ : zM} {x0 : Nat} {x1 : Nat} {z : zM} (h : fX0_match μ x0 x1 = some z) : zm_ck μ 0 x0 = true := (zgd_s h).1
set_option maxHeartbeats 4000000 in
set_option maxRecDepth 100000 in
theorem cX0_match_ok {μ : zM} {x0 : Nat} {x1 : Nat} {mo : zM} (hf : fX0_match μ x0 x1 = some mo) : zC yX0_match cX0_match 4 (none) 5 0 0 [.ref x0, .ref x1] μ (none) mo := by
  replace hf := (zgd_s hf).2
  refine zC.of (by decide) (Nat.le_of_ble_eq_true rfl) (fun K hin => ?_)
  clear hin
  show zz K cX0_match (4, RX0, none, 5, 0, 0, none, mo) 0 0 0 [(0, .ref x0), (1, .ref x1)] [] μ
  refine zr_aload_n 0 dX0_match_0 rfl ?_
  replace hf := zb1_s hf
  obtain ⟨v1, h2, hf⟩ := hf
  refine zr_get (zm_gR_g h2) zk0 (by decide) zl_5 dX0_match_1 ?_
  refine zr_iconst (-1) dX0_match_4 (by decide) ?_
  replace hf := zb1_s hf
  obtain ⟨m4, h3, hf⟩ := hf
  refine zr_callS [.ref v1, .int (-1)] (cJ7_fill_53178_ok h3) zvs_J7_fill_53178 zl_49 zl_48 rfl (Nat.le_of_ble_eq_true rfl) (Nat.le_of_ble_eq_true rfl) (Nat.le_of_ble_eq_true rfl) (Nat.le_of_ble_eq_true rfl) dX0_match_5 rfl ?_
  refine zr_aload_n 0 dX0_match_8 rfl ?_
  replace hf := zb1_s hf
  obtain ⟨v5, h6, hf⟩ := hf
  refine zr_get (zm_gR_g h6) zk0 (by decide) zl_6 dX0_match_9 ?_
  refine zr_iconst 0 dX0_match_12 (by decide) ?_
  replace hf := zb1_s hf
  obtain ⟨m8, h7, hf⟩ := hf
  refine zr_callS [.ref v5, .int 0] (cJ7_fill_53178_ok h7) zvs_J7_fill_53178 zl_49 zl_48 rfl (Nat.le_of_ble_eq_true rfl) (Nat.le_of_ble_eq_true rfl) (Nat.le_of_ble_eq_true rfl) (Nat.le_of_ble_eq_true rfl) dX0_match_13 rfl ?_
  refine zr_iconst 0 dX0_match_16 (by decide) ?_
  refine zr_istore_n [(2, .int 0), (0, .ref x0), (1, .ref x1)] dX0_match_17 (Nat.le_of_ble_eq_true rfl) rfl ?_
  have hL19 : ∀ (n : Nat) (x2_9 : Int32) (m10 : zM), zf2 (fX0_match_l18 x0 x1) n x2_9 m10 = some mo → zz K cX0_match (4, RX0, none, 5, 0, 0, none, mo) 0 0 18 [(0, .ref x0), (1, .ref x1), (2, .int x2_9)] [] m10 := by
    intro n
    induction n with
    | zero => intro x2_9 m10 hf; cases hf
    | succ n ih12 =>
      intro x2_9 m10 hf
      replace hf := zf2_s hf
      generalize zf2 (fX0_match_l18 x0 x1) n = F11 at hf ih12
      unfold fX0_match_l18 at hf
      refine zr_iload_n 2 dX0_match_18 rfl ?_
      refine zr_bipush 36 dX0_match_19 (by decide) ?_
      refine zr_icmp_ge 54 dX0_match_21 (by decide) (fun hc => ?_) (fun hc => ?_)
      · rw [if_pos hc] at hf
        cases hf
        exact zr_vret dX0_match_54
      · rw [if_neg hc] at hf
        refine zr_aload_n 0 dX0_match_24 rfl ?_
        refine zr_aload_n 1 dX0_match_25 rfl ?_
        replace hf := zb1_s hf
        obtain ⟨v14, h13, hf⟩ := hf
        refine zr_callV (ci := 0) [.ref x1] (cX0_nextAsker_ok h13) zvs_X0_nextAsker zl_84 zl_85 (fX0_nextAsker_ck h13) rfl rfl zl_83 rfl (Nat.le_of_ble_eq_true rfl) (Nat.le_of_ble_eq_true rfl) (Nat.le_of_ble_eq_true rfl) (Nat.le_of_ble_eq_true rfl) dX0_match_26 rfl ?_
        refine zr_istore_n [(3, .int v14), (0, .ref x0), (1, .ref x1), (2, .int x2_9)] dX0_match_29 (Nat.le_of_ble_eq_true rfl) rfl ?_
        refine zr_iload_n 0 dX0_match_30 rfl ?_
        refine zr_iconst (-1) dX0_match_31 (by decide) ?_
        refine zr_icmp_ne 36 dX0_match_32 (by decide) (fun hc => ?_) (fun hc => ?_)
        · rw [if_neg hc] at hf
          refine zr_aload_n 1 dX0_match_36 rfl ?_
          refine zr_aload_n 2 dX0_match_37 rfl ?_
          refine zr_iload_n 0 dX0_match_38 rfl ?_
          refine zr_aload_n 1 dX0_match_39 rfl ?_
          refine zr_aload_n 2 dX0_match_40 rfl ?_
          refine zr_iload_n 0 dX0_match_41 rfl ?_
          replace hf := zb1_s hf
          obtain ⟨v16, h15, hf⟩ := hf
          refine zr_callV (ci := 0) [.ref x1, .int v14] (cX0_nearestUnasked_ok h15) zvs_X0_nearestUnasked zl_80 zl_81 (fX0_nearestUnasked_ck h15) rfl rfl zl_79 rfl (Nat.le_of_ble_eq_true rfl) (Nat.le_of_ble_eq_true rfl) (Nat.le_of_ble_eq_true rfl) (Nat.le_of_ble_eq_true rfl) dX0_match_42 rfl ?_
          replace hf := zb1_s hf
          obtain ⟨m18, h17, hf⟩ := hf
          refine zr_callV (ci := 0) [.ref x1, .int v14, .int v16] (cX0_ask_ok h17) zvs_X0_ask zl_88 zl_89 (fX0_ask_ck h17) rfl rfl zl_87 rfl (Nat.le_of_ble_eq_true rfl) (Nat.le_of_ble_eq_true rfl) (Nat.le_of_ble_eq_true rfl) (Nat.le_of_ble_eq_true rfl) dX0_match_45 rfl ?_
          refine zr_iinc (j := 3) (x2_9 + 1) [(2, .int (x2_9 + 1)), (3, .int v14), (0, .ref x0), (1, .ref x1)] dX0_match_48 rfl rfl (Nat.le_of_ble_eq_true rfl) rfl ?_
          refine zr_goto 18 dX0_match_51 (by decide) ?_
          exact zr_lv [2, 3, 0] rfl (ih12 (x2_9 + 1) m18 hf)
        · rw [if_pos hc] at hf
          cases hf
          exact zr_vret dX0_match_35
  exact zr_lv [1, 2, 0] rfl (hL19 _ 0 m8 hf)
theorem zl_90 : Cond.methodLink RX1 3 Lib.objectInit ∈ zt := zt_at 418 (by decide +kernel)
theorem zl_91 : Cond.fieldLink RX1 9 "TwoEchoes$Course" "now" "I" ∈ zt := zt_at 419 (by decide +kernel)
theorem zl_92 : Cond.fieldLink RX1 15 "TwoEchoes$Course" "sayings" "I" ∈ zt := zt_at 420 (by decide +kernel)
theorem zl_93 : Cond.fieldLink RX1 18 "TwoEchoes$Course" "x" "I" ∈ zt := zt_at 421 (by decide +kernel)
theorem zl_94 : Cond.fieldLink RX1 21 "TwoEchoes$Course" "places" "[I" ∈ zt := zt_at 422 (by decide +kernel)
theorem zl_95 : Cond.fieldLink RX1 25 "TwoEchoes$Course" "words" "[I" ∈ zt := zt_at 423 (by decide +kernel)
theorem zl_96 : Cond.fieldLink RX1 28 "TwoEchoes$Course" "hearings" "[I" ∈ zt := zt_at 424 (by decide +kernel)
theorem dX1_init_0 : decode cX1_init 0 = .ok (.aload_n 0, 1) := by decide +kernel
theorem dX1_init_1 : decode cX1_init 1 = .ok (.invokespecial 3, 3) := by decide +kernel
theorem dX1_init_4 : decode cX1_init 4 = .ok (.aload_n 0, 1) := by decide +kernel
theorem dX1_init_5 : decode cX1_init 5 = .ok (.iconst 0, 1) := by decide +kernel
theorem dX1_init_6 : decode cX1_init 6 = .ok (.putfield 9, 3) := by decide +kernel
theorem dX1_init_9 : decode cX1_init 9 = .ok (.aload_n 0, 1) := by decide +kernel
theorem dX1_init_10 : decode cX1_init 10 = .ok (.iconst 0, 1) := by decide +kernel
theorem dX1_init_11 : decode cX1_init 11 = .ok (.putfield 15, 3) := by decide +kernel
theorem dX1_init_14 : decode cX1_init 14 = .ok (.aload_n 0, 1) := by decide +kernel
theorem dX1_init_15 : decode cX1_init 15 = .ok (.iconst 0, 1) := by decide +kernel
theorem dX1_init_16 : decode cX1_init 16 = .ok (.putfield 18, 3) := by decide +kernel
theorem dX1_init_19 : decode cX1_init 19 = .ok (.aload_n 0, 1) := by decide +kernel
theorem dX1_init_20 : decode cX1_init 20 = .ok (.bipush 6, 2) := by decide +kernel
theorem dX1_init_22 : decode cX1_init 22 = .ok (.newarray .int, 2) := by decide +kernel
theorem dX1_init_24 : decode cX1_init 24 = .ok (.putfield 21, 3) := by decide +kernel
theorem dX1_init_27 : decode cX1_init 27 = .ok (.aload_n 0, 1) := by decide +kernel
theorem dX1_init_28 : decode cX1_init 28 = .ok (.sipush 600, 3) := by decide +kernel
theorem dX1_init_31 : decode cX1_init 31 = .ok (.newarray .int, 2) := by decide +kernel
theorem dX1_init_33 : decode cX1_init 33 = .ok (.putfield 25, 3) := by decide +kernel
theorem dX1_init_36 : decode cX1_init 36 = .ok (.aload_n 0, 1) := by decide +kernel
theorem dX1_init_37 : decode cX1_init 37 = .ok (.sipush 600, 3) := by decide +kernel
theorem dX1_init_40 : decode cX1_init 40 = .ok (.newarray .int, 2) := by decide +kernel
theorem dX1_init_42 : decode cX1_init 42 = .ok (.putfield 28, 3) := by decide +kernel
theorem dX1_init_45 : decode cX1_init 45 = .ok (.return_, 1) := by decide +kernel
noncomputable def fX1_init (μ : zM) (x0 : Nat) : Option (zM) :=
  zb1 (zm_p μ 1 x0 0 (.int 0)) fun m1 =>
  zb1 (zm_p m1 1 x0 1 (.int 0)) fun m3 =>
  zb1 (zm_p m3 1 x0 2 (.int 0)) fun m5 =>
  zb1 (some (zm_nw m5 (.inl (0, 6, .inl (fun _ => 0))))) fun m7 =>
  zb1 (zm_p m7 1 x0 3 (.ref m5.2.1)) fun m9 =>
  zb1 (some (zm_nw m9 (.inl (0, 600, .inl (fun _ => 0))))) fun m11 =>
  zb1 (zm_p m11 1 x0 4 (.ref m9.2.1)) fun m13 =>
  zb1 (some (zm_nw m13 (.inl (0, 600, .inl (fun _ => 0))))) fun m15 =>
  zb1 (zm_p m15 1 x0 5 (.ref m13.2.1)) fun m17 =>
  some m17
set_option maxHeartbeats 4000000 in
set_option maxRecDepth 100000 in
theorem cX1_init_ok {μ : zM} {x0 : Nat} {mo : zM} (hf : fX1_init μ x0 = some mo) : zC yX1_init cX1_init 1 (none) 1 3 1206 [.ref x0] μ (none) mo := by
  unfold fX1_init at hf
  refine zC.of (by decide) (Nat.le_of_ble_eq_true rfl) (fun K hin => ?_)
  replace hin := hin rfl
  show zz K cX1_init (1, RX1, none, 1, 3, 1206, none, mo) 0 0 0 [(0, .ref x0)] [] μ
  refine zr_aload_n 0 dX1_init_0 rfl ?_
  refine zr_objInit zl_90 zl_1 zl_2 (Nat.le_of_ble_eq_true rfl) (Nat.le_of_ble_eq_true rfl) dX1_init_1 ?_
  refine zr_aload_n 0 dX1_init_4 rfl ?_
  refine zr_iconst 0 dX1_init_5 (by decide) ?_
  replace hf := zb1_s hf
  obtain ⟨m1, h2, hf⟩ := hf
  refine zr_put h2 zk1 (by decide) zl_91 rfl rfl rfl dX1_init_6 ?_
  refine zr_aload_n 0 dX1_init_9 rfl ?_
  refine zr_iconst 0 dX1_init_10 (by decide) ?_
  replace hf := zb1_s hf
  obtain ⟨m3, h4, hf⟩ := hf
  refine zr_put h4 zk1 (by decide) zl_92 rfl rfl rfl dX1_init_11 ?_
  refine zr_aload_n 0 dX1_init_14 rfl ?_
  refine zr_iconst 0 dX1_init_15 (by decide) ?_
  replace hf := zb1_s hf
  obtain ⟨m5, h6, hf⟩ := hf
  refine zr_put h6 zk1 (by decide) zl_93 rfl rfl rfl dX1_init_16 ?_
  refine zr_aload_n 0 dX1_init_19 rfl ?_
  refine zr_bipush 6 dX1_init_20 (by decide) ?_
  refine zr_newa (t := 0) (N := 6) (atype := .int) (by decide) rfl zl_3 (by decide) (by decide) (by decide) (Nat.le_of_ble_eq_true rfl) (Nat.le_of_ble_eq_true rfl) dX1_init_22 ?_
  replace hf := zb1_s hf
  obtain ⟨m7, h8, hf⟩ := hf
  obtain rfl := Option.some.inj h8
  replace hf := zb1_s hf
  obtain ⟨m9, h10, hf⟩ := hf
  refine zr_putF h10 hin rfl zk1 (by decide) zl_94 rfl rfl rfl dX1_init_24 ?_
  refine zr_aload_n 0 dX1_init_27 rfl ?_
  refine zr_sipush 600 dX1_init_28 (by decide) ?_
  refine zr_newa (t := 0) (N := 600) (atype := .int) (by decide) rfl zl_3 (by decide) (by decide) (by decide) (Nat.le_of_ble_eq_true rfl) (Nat.le_of_ble_eq_true rfl) dX1_init_31 ?_
  replace hf := zb1_s hf
  obtain ⟨m11, h12, hf⟩ := hf
  obtain rfl := Option.some.inj h12
  replace hf := zb1_s hf
  obtain ⟨m13, h14, hf⟩ := hf
  refine zr_putF h14 hin rfl zk1 (by decide) zl_95 rfl rfl rfl dX1_init_33 ?_
  refine zr_aload_n 0 dX1_init_36 rfl ?_
  refine zr_sipush 600 dX1_init_37 (by decide) ?_
  refine zr_newa (t := 0) (N := 600) (atype := .int) (by decide) rfl zl_3 (by decide) (by decide) (by decide) (Nat.le_of_ble_eq_true rfl) (Nat.le_of_ble_eq_true rfl) dX1_init_40 ?_
  replace hf := zb1_s hf
  obtain ⟨m15, h16, hf⟩ := hf
  obtain rfl := Option.some.inj h16
  replace hf := zb1_s hf
  obtain ⟨m17, h18, hf⟩ := hf
  refine zr_putF h18 hin rfl zk1 (by decide) zl_96 rfl rfl rfl dX1_init_42 ?_
  cases hf
  exact zr_vret dX1_init_45
theorem zl_97 : Cond.fieldLink RX1 69 "TwoEchoes$Valley" "place" "[I" ∈ zt := zt_at 198 (by decide +kernel)
theorem zl_98 : Cond.methodLink RX1 72 arraycopyName ∈ zt := zt_at 855 (by decide +kernel)
theorem zl_99 : Cond.native arraycopyName ∈ zt := zt_at 738 (by decide +kernel)
theorem zl_100 : Cond.static arraycopyName ∈ zt := zt_at 737 (by decide +kernel)
theorem zl_101 : Cond.initialized "java/lang/System" ∈ zt := zt_at 147 (by decide +kernel)
theorem zl_102 : Cond.methodLink RX1 78 yJ7_fill_53178 ∈ zt := zt_at 856 (by decide +kernel)
theorem dX1_begin_0 : decode cX1_begin 0 = .ok (.aload_n 0, 1) := by decide +kernel
theorem dX1_begin_1 : decode cX1_begin 1 = .ok (.iconst 0, 1) := by decide +kernel
theorem dX1_begin_2 : decode cX1_begin 2 = .ok (.putfield 9, 3) := by decide +kernel
theorem dX1_begin_5 : decode cX1_begin 5 = .ok (.aload_n 0, 1) := by decide +kernel
theorem dX1_begin_6 : decode cX1_begin 6 = .ok (.iconst 0, 1) := by decide +kernel
theorem dX1_begin_7 : decode cX1_begin 7 = .ok (.putfield 15, 3) := by decide +kernel
theorem dX1_begin_10 : decode cX1_begin 10 = .ok (.aload_n 1, 1) := by decide +kernel
theorem dX1_begin_11 : decode cX1_begin 11 = .ok (.getfield 69, 3) := by decide +kernel
theorem dX1_begin_14 : decode cX1_begin 14 = .ok (.iconst 0, 1) := by decide +kernel
theorem dX1_begin_15 : decode cX1_begin 15 = .ok (.aload_n 0, 1) := by decide +kernel
theorem dX1_begin_16 : decode cX1_begin 16 = .ok (.getfield 21, 3) := by decide +kernel
theorem dX1_begin_19 : decode cX1_begin 19 = .ok (.iconst 0, 1) := by decide +kernel
theorem dX1_begin_20 : decode cX1_begin 20 = .ok (.bipush 6, 2) := by decide +kernel
theorem dX1_begin_22 : decode cX1_begin 22 = .ok (.invokestatic 72, 3) := by decide +kernel
theorem dX1_begin_25 : decode cX1_begin 25 = .ok (.aload_n 0, 1) := by decide +kernel
theorem dX1_begin_26 : decode cX1_begin 26 = .ok (.getfield 25, 3) := by decide +kernel
theorem dX1_begin_29 : decode cX1_begin 29 = .ok (.iconst 0, 1) := by decide +kernel
theorem dX1_begin_30 : decode cX1_begin 30 = .ok (.invokestatic 78, 3) := by decide +kernel
theorem dX1_begin_33 : decode cX1_begin 33 = .ok (.aload_n 0, 1) := by decide +kernel
theorem dX1_begin_34 : decode cX1_begin 34 = .ok (.getfield 28, 3) := by decide +kernel
theorem dX1_begin_37 : decode cX1_begin 37 = .ok (.iconst 0, 1) := by decide +kernel
theorem dX1_begin_38 : decode cX1_begin 38 = .ok (.invokestatic 78, 3) := by decide +kernel
theorem dX1_begin_41 : decode cX1_begin 41 = .ok (.return_, 1) := by decide +kernel
noncomputable def fX1_begin (μ : zM) (x0 : Nat) (x1 : Nat) : Option (zM) := zgd (zm_ck μ 1 x0) <|
  zb1 (zm_p μ 1 x0 0 (.int 0)) fun m1 =>
  zb1 (zm_p m1 1 x0 1 (.int 0)) fun m3 =>
  zb1 (zm_gR m3 9 x1 6) fun v5 =>
  zb1 (zm_gR m3 1 x0 3) fun v7 =>
  zb1 (zm_cpy m3 0 v5 0 v7 0 6) fun m9 =>
  zb1 (zm_gR m9 1 x0 4) fun v11 =>
  zb1 (fJ7_fill_53178 m9 v11 0) fun m14 =>
  zb1 (zm_gR m14 1 x0 5) fun v15 =>
  zb1 (fJ7_fill_53178 m14 v15 0) fun m18 =>
  some m18
theorem fX1_begin_ck {μ : zM} {x0 : Nat} {x1 : Nat} {z : zM} (h : fX1_begin μ x0 x1 = some z) : zm_ck μ 1 x0 = true := (zgd_s h).1
set_option maxHeartbeats 4000000 in
set_option maxRecDepth 100000 in
theorem cX1_begin_ok {μ : zM} {x0 : Nat} {x1 : Nat} {mo : zM} (hf : fX1_begin μ x0 x1 = some mo) : zC yX1_begin cX1_begin 2 (none) 1 0 0 [.ref x0, .ref x1] μ (none) mo := by
  replace hf := (zgd_s hf).2
  refine zC.of (by decide) (Nat.le_of_ble_eq_true rfl) (fun K hin => ?_)
  clear hin
  show zz K cX1_begin (2, RX1, none, 1, 0, 0, none, mo) 0 0 0 [(0, .ref x0), (1, .ref x1)] [] μ
  refine zr_aload_n 0 dX1_begin_0 rfl ?_
  refine zr_iconst 0 dX1_begin_1 (by decide) ?_
  replace hf := zb1_s hf
  obtain ⟨m1, h2, hf⟩ := hf
  refine zr_put h2 zk1 (by decide) zl_91 rfl rfl rfl dX1_begin_2 ?_
  refine zr_aload_n 0 dX1_begin_5 rfl ?_
  refine zr_iconst 0 dX1_begin_6 (by decide) ?_
  replace hf := zb1_s hf
  obtain ⟨m3, h4, hf⟩ := hf
  refine zr_put h4 zk1 (by decide) zl_92 rfl rfl rfl dX1_begin_7 ?_
  refine zr_aload_n 1 dX1_begin_10 rfl ?_
  replace hf := zb1_s hf
  obtain ⟨v5, h6, hf⟩ := hf
  refine zr_get (zm_gR_g h6) zk9 (by decide) zl_97 dX1_begin_11 ?_
  refine zr_iconst 0 dX1_begin_14 (by decide) ?_
  refine zr_aload_n 0 dX1_begin_15 rfl ?_
  replace hf := zb1_s hf
  obtain ⟨v7, h8, hf⟩ := hf
  refine zr_get (zm_gR_g h8) zk1 (by decide) zl_94 dX1_begin_16 ?_
  refine zr_iconst 0 dX1_begin_19 (by decide) ?_
  refine zr_bipush 6 dX1_begin_20 (by decide) ?_
  replace hf := zb1_s hf
  obtain ⟨m9, h10, hf⟩ := hf
  refine zr_cpy h10 (by decide) zl_98 zl_99 zl_100 zl_101 (Nat.le_of_ble_eq_true rfl) (Nat.le_of_ble_eq_true rfl) dX1_begin_22 ?_
  refine zr_aload_n 0 dX1_begin_25 rfl ?_
  replace hf := zb1_s hf
  obtain ⟨v11, h12, hf⟩ := hf
  refine zr_get (zm_gR_g h12) zk1 (by decide) zl_95 dX1_begin_26 ?_
  refine zr_iconst 0 dX1_begin_29 (by decide) ?_
  replace hf := zb1_s hf
  obtain ⟨m14, h13, hf⟩ := hf
  refine zr_callS [.ref v11, .int 0] (cJ7_fill_53178_ok h13) zvs_J7_fill_53178 zl_49 zl_102 rfl (Nat.le_of_ble_eq_true rfl) (Nat.le_of_ble_eq_true rfl) (Nat.le_of_ble_eq_true rfl) (Nat.le_of_ble_eq_true rfl) dX1_begin_30 rfl ?_
  refine zr_aload_n 0 dX1_begin_33 rfl ?_
  replace hf := zb1_s hf
  obtain ⟨v15, h16, hf⟩ := hf
  refine zr_get (zm_gR_g h16) zk1 (by decide) zl_96 dX1_begin_34 ?_
  refine zr_iconst 0 dX1_begin_37 (by decide) ?_
  replace hf := zb1_s hf
  obtain ⟨m18, h17, hf⟩ := hf
  refine zr_callS [.ref v15, .int 0] (cJ7_fill_53178_ok h17) zvs_J7_fill_53178 zl_49 zl_102 rfl (Nat.le_of_ble_eq_true rfl) (Nat.le_of_ble_eq_true rfl) (Nat.le_of_ble_eq_true rfl) (Nat.le_of_ble_eq_true rfl) dX1_begin_38 rfl ?_
  cases hf
  exact zr_vret dX1_begin_41
theorem dX1_pass_0 : decode cX1_pass 0 = .ok (.aload_n 0, 1) := by decide +kernel
theorem dX1_pass_1 : decode cX1_pass 1 = .ok (.getfield 9, 3) := by decide +kernel
theorem dX1_pass_4 : decode cX1_pass 4 = .ok (.iload_n 1, 1) := by decide +kernel
theorem dX1_pass_5 : decode cX1_pass 5 = .ok (.iadd, 1) := by decide +kernel
theorem dX1_pass_6 : decode cX1_pass 6 = .ok (.bipush 100, 2) := by decide +kernel
theorem dX1_pass_8 : decode cX1_pass 8 = .ok (.if_icmp .lt 5, 3) := by decide +kernel
theorem dX1_pass_11 : decode cX1_pass 11 = .ok (.iconst 0, 1) := by decide +kernel
theorem dX1_pass_12 : decode cX1_pass 12 = .ok (.ireturn, 1) := by decide +kernel
theorem dX1_pass_13 : decode cX1_pass 13 = .ok (.aload_n 0, 1) := by decide +kernel
theorem dX1_pass_14 : decode cX1_pass 14 = .ok (.dup, 1) := by decide +kernel
theorem dX1_pass_15 : decode cX1_pass 15 = .ok (.getfield 9, 3) := by decide +kernel
theorem dX1_pass_18 : decode cX1_pass 18 = .ok (.iload_n 1, 1) := by decide +kernel
theorem dX1_pass_19 : decode cX1_pass 19 = .ok (.iadd, 1) := by decide +kernel
theorem dX1_pass_20 : decode cX1_pass 20 = .ok (.putfield 9, 3) := by decide +kernel
theorem dX1_pass_23 : decode cX1_pass 23 = .ok (.iconst 1, 1) := by decide +kernel
theorem dX1_pass_24 : decode cX1_pass 24 = .ok (.ireturn, 1) := by decide +kernel
noncomputable def fX1_pass (μ : zM) (x0 : Nat) (x1 : Int32) : Option (Int32 × zM) := zgd (zm_ck μ 1 x0) <|
  zb1 (zm_gI μ 1 x0 0) fun v1 =>
  if (v1 + x1) < 100 then (
  zb1 (zm_gI μ 1 x0 0) fun v3 =>
  zb1 (zm_p μ 1 x0 0 (.int (v3 + x1))) fun m5 =>
  some (1, m5))
  else (
  some (0, μ))
theorem fX1_pass_ck {μ : zM} {x0 : Nat} {x1 : Int32} {z : Int32 × zM} (h : fX1_pass μ x0 x1 = some z) : zm_ck μ 1 x0 = true := (zgd_s h).1
set_option maxHeartbeats 4000000 in
set_option maxRecDepth 100000 in
theorem cX1_pass_ok {μ : zM} {x0 : Nat} {x1 : Int32} {r : Int32} {mo : zM} (hf : fX1_pass μ x0 x1 = some (r, mo)) : zC yX1_pass cX1_pass 2 (some .boolean) 0 0 0 [.ref x0, .int x1] μ (some (.int r)) mo := by
  replace hf := (zgd_s hf).2
  refine zC.of (by decide) (Nat.le_of_ble_eq_true rfl) (fun K hin => ?_)
  clear hin
  show zz K cX1_pass (2, RX1, some .boolean, 0, 0, 0, some (.int r), mo) 0 0 0 [(0, .ref x0), (1, .int x1)] [] μ
  refine zr_aload_n 0 dX1_pass_0 rfl ?_
  replace hf := zb1_s hf
  obtain ⟨v1, h2, hf⟩ := hf
  refine zr_get (zm_gI_g h2) zk1 (by decide) zl_91 dX1_pass_1 ?_
  refine zr_iload_n 1 dX1_pass_4 rfl ?_
  refine zr_iadd dX1_pass_5 ?_
  refine zr_bipush 100 dX1_pass_6 (by decide) ?_
  refine zr_icmp_lt 13 dX1_pass_8 (by decide) (fun hc => ?_) (fun hc => ?_)
  · rw [if_pos hc] at hf
    refine zr_aload_n 0 dX1_pass_13 rfl ?_
    refine zr_dup dX1_pass_14 rfl ?_
    replace hf := zb1_s hf
    obtain ⟨v3, h4, hf⟩ := hf
    refine zr_get (zm_gI_g h4) zk1 (by decide) zl_91 dX1_pass_15 ?_
    refine zr_iload_n 1 dX1_pass_18 rfl ?_
    refine zr_iadd dX1_pass_19 ?_
    replace hf := zb1_s hf
    obtain ⟨m5, h6, hf⟩ := hf
    refine zr_put h6 zk1 (by decide) zl_91 rfl rfl rfl dX1_pass_20 ?_
    refine zr_iconst 1 dX1_pass_23 (by decide) ?_
    cases hf
    exact zr_zret rfl dX1_pass_24
  · rw [if_neg hc] at hf
    refine zr_iconst 0 dX1_pass_11 (by decide) ?_
    cases hf
    exact zr_zret rfl dX1_pass_12
theorem zl_103 : Cond.fieldLink RX9 46 "TwoEchoes$Valley" "people" "I" ∈ zt := zt_at 188 (by decide +kernel)
theorem dX9_hasPerson_0 : decode cX9_hasPerson 0 = .ok (.iload_n 1, 1) := by decide +kernel
theorem dX9_hasPerson_1 : decode cX9_hasPerson 1 = .ok (.ifCond .lt 15, 3) := by decide +kernel
theorem dX9_hasPerson_4 : decode cX9_hasPerson 4 = .ok (.iload_n 1, 1) := by decide +kernel
theorem dX9_hasPerson_5 : decode cX9_hasPerson 5 = .ok (.aload_n 0, 1) := by decide +kernel
theorem dX9_hasPerson_6 : decode cX9_hasPerson 6 = .ok (.getfield 46, 3) := by decide +kernel
theorem dX9_hasPerson_9 : decode cX9_hasPerson 9 = .ok (.if_icmp .ge 7, 3) := by decide +kernel
theorem dX9_hasPerson_12 : decode cX9_hasPerson 12 = .ok (.iconst 1, 1) := by decide +kernel
theorem dX9_hasPerson_13 : decode cX9_hasPerson 13 = .ok (.goto 4, 3) := by decide +kernel
theorem dX9_hasPerson_16 : decode cX9_hasPerson 16 = .ok (.iconst 0, 1) := by decide +kernel
theorem dX9_hasPerson_17 : decode cX9_hasPerson 17 = .ok (.ireturn, 1) := by decide +kernel
noncomputable def fX9_hasPerson (μ : zM) (x0 : Nat) (x1 : Int32) : Option (Int32) := zgd (zm_ck μ 9 x0) <|
  zb1 (if x1 < 0 then (
  some 0)
  else (
  zb1 (zm_gI μ 9 x0 4) fun v5 =>
  if v5 ≤ x1 then (
  some 0)
  else (
  some 1)) : Option (Int32)) fun (s1 : Int32) =>
  zb1 (zbz s1) fun v3 =>
  some v3
theorem fX9_hasPerson_ck {μ : zM} {x0 : Nat} {x1 : Int32} {z : Int32} (h : fX9_hasPerson μ x0 x1 = some z) : zm_ck μ 9 x0 = true := (zgd_s h).1
set_option maxHeartbeats 4000000 in
set_option maxRecDepth 100000 in
theorem cX9_hasPerson_ok {μ : zM} {x0 : Nat} {x1 : Int32} {r : Int32} (hf : fX9_hasPerson μ x0 x1 = some r) : zC yX9_hasPerson cX9_hasPerson 2 (some .boolean) 0 0 0 [.ref x0, .int x1] μ (some (.int r)) μ := by
  replace hf := (zgd_s hf).2
  refine zC.of (by decide) (Nat.le_of_ble_eq_true rfl) (fun K hin => ?_)
  clear hin
  show zz K cX9_hasPerson (2, RX9, some .boolean, 0, 0, 0, some (.int r), μ) 0 0 0 [(0, .ref x0), (1, .int x1)] [] μ
  refine zr_iload_n 1 dX9_hasPerson_0 rfl ?_
  replace hf := zb1_s hf
  obtain ⟨s1, hg, hf⟩ := hf
  have hj2 : zz K cX9_hasPerson (2, RX9, some .boolean, 0, 0, 0, some (.int r), μ) 0 0 17 [] [.int s1] μ := by
    replace hf := zb1_s hf
    obtain ⟨v3, hn4, hf⟩ := hf
    replace hn4 := zbz_s hn4
    obtain ⟨hn4, rfl⟩ := hn4
    cases hf
    exact zr_zret hn4 dX9_hasPerson_17
  clear hf
  have hf := hg
  clear hg
  refine zr_if_lt 16 dX9_hasPerson_1 (by decide) (fun hc => ?_) (fun hc => ?_)
  · rw [if_pos hc] at hf
    refine zr_iconst 0 dX9_hasPerson_16 (by decide) ?_
    cases hf
    exact zr_lv [] rfl hj2
  · rw [if_neg hc] at hf
    refine zr_iload_n 1 dX9_hasPerson_4 rfl ?_
    refine zr_aload_n 0 dX9_hasPerson_5 rfl ?_
    replace hf := zb1_s hf
    obtain ⟨v5, h6, hf⟩ := hf
    refine zr_get (zm_gI_g h6) zk9 (by decide) zl_103 dX9_hasPerson_6 ?_
    refine zr_icmp_ge 16 dX9_hasPerson_9 (by decide) (fun hc => ?_) (fun hc => ?_)
    · rw [if_pos hc] at hf
      refine zr_iconst 0 dX9_hasPerson_16 (by decide) ?_
      cases hf
      exact zr_lv [] rfl hj2
    · rw [if_neg hc] at hf
      refine zr_iconst 1 dX9_hasPerson_12 (by decide) ?_
      refine zr_goto 17 dX9_hasPerson_13 (by decide) ?_
      cases hf
      exact zr_lv [] rfl hj2
theorem dX9_hasPlace_0 : decode cX9_hasPlace 0 = .ok (.iload_n 1, 1) := by decide +kernel
theorem dX9_hasPlace_1 : decode cX9_hasPlace 1 = .ok (.ifCond .lt 15, 3) := by decide +kernel
theorem dX9_hasPlace_4 : decode cX9_hasPlace 4 = .ok (.iload_n 1, 1) := by decide +kernel
theorem dX9_hasPlace_5 : decode cX9_hasPlace 5 = .ok (.aload_n 0, 1) := by decide +kernel
theorem dX9_hasPlace_6 : decode cX9_hasPlace 6 = .ok (.getfield 42, 3) := by decide +kernel
theorem dX9_hasPlace_9 : decode cX9_hasPlace 9 = .ok (.if_icmp .gt 7, 3) := by decide +kernel
theorem dX9_hasPlace_12 : decode cX9_hasPlace 12 = .ok (.iconst 1, 1) := by decide +kernel
theorem dX9_hasPlace_13 : decode cX9_hasPlace 13 = .ok (.goto 4, 3) := by decide +kernel
theorem dX9_hasPlace_16 : decode cX9_hasPlace 16 = .ok (.iconst 0, 1) := by decide +kernel
theorem dX9_hasPlace_17 : decode cX9_hasPlace 17 = .ok (.ireturn, 1) := by decide +kernel
noncomputable def fX9_hasPlace (μ : zM) (x0 : Nat) (x1 : Int32) : Option (Int32) := zgd (zm_ck μ 9 x0) <|
  zb1 (if x1 < 0 then (
  some 0)
  else (
  zb1 (zm_gI μ 9 x0 0) fun v5 =>
  if v5 < x1 then (
  some 0)
  else (
  some 1)) : Option (Int32)) fun (s1 : Int32) =>
  zb1 (zbz s1) fun v3 =>
  some v3
theorem fX9_hasPlace_ck {μ : zM} {x0 : Nat} {x1 : Int32} {z : Int32} (h : fX9_hasPlace μ x0 x1 = some z) : zm_ck μ 9 x0 = true := (zgd_s h).1
set_option maxHeartbeats 4000000 in
set_option maxRecDepth 100000 in
theorem cX9_hasPlace_ok {μ : zM} {x0 : Nat} {x1 : Int32} {r : Int32} (hf : fX9_hasPlace μ x0 x1 = some r) : zC yX9_hasPlace cX9_hasPlace 2 (some .boolean) 0 0 0 [.ref x0, .int x1] μ (some (.int r)) μ := by
  replace hf := (zgd_s hf).2
  refine zC.of (by decide) (Nat.le_of_ble_eq_true rfl) (fun K hin => ?_)
  clear hin
  show zz K cX9_hasPlace (2, RX9, some .boolean, 0, 0, 0, some (.int r), μ) 0 0 0 [(0, .ref x0), (1, .int x1)] [] μ
  refine zr_iload_n 1 dX9_hasPlace_0 rfl ?_
  replace hf := zb1_s hf
  obtain ⟨s1, hg, hf⟩ := hf
  have hj2 : zz K cX9_hasPlace (2, RX9, some .boolean, 0, 0, 0, some (.int r), μ) 0 0 17 [] [.int s1] μ := by
    replace hf := zb1_s hf
    obtain ⟨v3, hn4, hf⟩ := hf
    replace hn4 := zbz_s hn4
    obtain ⟨hn4, rfl⟩ := hn4
    cases hf
    exact zr_zret hn4 dX9_hasPlace_17
  clear hf
  have hf := hg
  clear hg
  refine zr_if_lt 16 dX9_hasPlace_1 (by decide) (fun hc => ?_) (fun hc => ?_)
  · rw [if_pos hc] at hf
    refine zr_iconst 0 dX9_hasPlace_16 (by decide) ?_
    cases hf
    exact zr_lv [] rfl hj2
  · rw [if_neg hc] at hf
    refine zr_iload_n 1 dX9_hasPlace_4 rfl ?_
    refine zr_aload_n 0 dX9_hasPlace_5 rfl ?_
    replace hf := zb1_s hf
    obtain ⟨v5, h6, hf⟩ := hf
    refine zr_get (zm_gI_g h6) zk9 (by decide) zl_8 dX9_hasPlace_6 ?_
    refine zr_icmp_gt 16 dX9_hasPlace_9 (by decide) (fun hc => ?_) (fun hc => ?_)
    · rw [if_pos hc] at hf
      refine zr_iconst 0 dX9_hasPlace_16 (by decide) ?_
      cases hf
      exact zr_lv [] rfl hj2
    · rw [if_neg hc] at hf
      refine zr_iconst 1 dX9_hasPlace_12 (by decide) ?_
      refine zr_goto 17 dX9_hasPlace_13 (by decide) ?_
      cases hf
      exact zr_lv [] rfl hj2
theorem zl_104 : Cond.code yX9_hasPlace cX9_hasPlace 2 (some .boolean) ∈ zt := zt_at 727 (by decide +kernel)
theorem zvs_X9_hasPlace : zvS yX9_hasPlace cX9_hasPlace 2 (some .boolean) 1 := ⟨zl_104, zl_14, ⟨by decide +kernel, by decide +kernel, by decide +kernel⟩, by decide⟩
theorem zl_105 : Cond.methodLink RX1 99 yX9_hasPlace ∈ zt := zt_at 870 (by decide +kernel)
theorem zl_106 : Cond.instanceMethod yX9_hasPlace ∈ zt := zt_at 725 (by decide +kernel)
theorem zl_107 : Cond.selects RX9 yX9_hasPlace yX9_hasPlace ∈ zt := zt_at 726 (by decide +kernel)
theorem zl_108 : Cond.methodLink RX1 102 Lib.Math.abs.name ∈ zt := zt_at 871 (by decide +kernel)
theorem zl_109 : Cond.code yX1_pass cX1_pass 2 (some .boolean) ∈ zt := zt_at 864 (by decide +kernel)
theorem zl_110 : Cond.initialized RX1 ∈ zt := zt_at 136 (by decide +kernel)
theorem zvs_X1_pass : zvS yX1_pass cX1_pass 2 (some .boolean) 1 := ⟨zl_109, zl_110, ⟨by decide +kernel, by decide +kernel, by decide +kernel⟩, by decide⟩
theorem zl_111 : Cond.methodLink RX1 84 yX1_pass ∈ zt := zt_at 861 (by decide +kernel)
theorem zl_112 : Cond.instanceMethod yX1_pass ∈ zt := zt_at 863 (by decide +kernel)
theorem zl_113 : Cond.selects RX1 yX1_pass yX1_pass ∈ zt := zt_at 22 (by decide +kernel)
theorem dX1_walk_0 : decode cX1_walk 0 = .ok (.aload_n 1, 1) := by decide +kernel
theorem dX1_walk_1 : decode cX1_walk 1 = .ok (.iload_n 3, 1) := by decide +kernel
theorem dX1_walk_2 : decode cX1_walk 2 = .ok (.invokevirtual 99, 3) := by decide +kernel
theorem dX1_walk_5 : decode cX1_walk 5 = .ok (.ifCond .eq 21, 3) := by decide +kernel
theorem dX1_walk_8 : decode cX1_walk 8 = .ok (.aload_n 0, 1) := by decide +kernel
theorem dX1_walk_9 : decode cX1_walk 9 = .ok (.aload_n 0, 1) := by decide +kernel
theorem dX1_walk_10 : decode cX1_walk 10 = .ok (.getfield 21, 3) := by decide +kernel
theorem dX1_walk_13 : decode cX1_walk 13 = .ok (.iload_n 2, 1) := by decide +kernel
theorem dX1_walk_14 : decode cX1_walk 14 = .ok (.iaload, 1) := by decide +kernel
theorem dX1_walk_15 : decode cX1_walk 15 = .ok (.iload_n 3, 1) := by decide +kernel
theorem dX1_walk_16 : decode cX1_walk 16 = .ok (.isub, 1) := by decide +kernel
theorem dX1_walk_17 : decode cX1_walk 17 = .ok (.invokestatic 102, 3) := by decide +kernel
theorem dX1_walk_20 : decode cX1_walk 20 = .ok (.invokevirtual 84, 3) := by decide +kernel
theorem dX1_walk_23 : decode cX1_walk 23 = .ok (.ifCond .ne 5, 3) := by decide +kernel
theorem dX1_walk_26 : decode cX1_walk 26 = .ok (.iconst 0, 1) := by decide +kernel
theorem dX1_walk_27 : decode cX1_walk 27 = .ok (.ireturn, 1) := by decide +kernel
theorem dX1_walk_28 : decode cX1_walk 28 = .ok (.aload_n 0, 1) := by decide +kernel
theorem dX1_walk_29 : decode cX1_walk 29 = .ok (.getfield 21, 3) := by decide +kernel
theorem dX1_walk_32 : decode cX1_walk 32 = .ok (.iload_n 2, 1) := by decide +kernel
theorem dX1_walk_33 : decode cX1_walk 33 = .ok (.iload_n 3, 1) := by decide +kernel
theorem dX1_walk_34 : decode cX1_walk 34 = .ok (.iastore, 1) := by decide +kernel
theorem dX1_walk_35 : decode cX1_walk 35 = .ok (.iconst 1, 1) := by decide +kernel
theorem dX1_walk_36 : decode cX1_walk 36 = .ok (.ireturn, 1) := by decide +kernel
noncomputable def fX1_walk (μ : zM) (x0 : Nat) (x1 : Nat) (x2 : Int32) (x3 : Int32) : Option (Int32 × zM) := zgd (zm_ck μ 1 x0) <|
  zb1 (fX9_hasPlace μ x1 x3) fun v2 =>
  if v2 = 0 then (
  some (0, μ))
  else (
  zb1 (zm_gR μ 1 x0 3) fun v3 =>
  zb1 (zm_aI μ 0 v3 x2) fun v5 =>
  zb2 (fX1_pass μ x0 (if 0 ≤ (v5 - x3) then (v5 - x3) else 0 - (v5 - x3) : Int32)) fun v9 m8 =>
  if v9 = 0 then (
  some (0, m8))
  else (
  zb1 (zm_gR m8 1 x0 3) fun v10 =>
  zb1 (zm_sI m8 0 v10 x2 x3) fun m12 =>
  some (1, m12)))
theorem fX1_walk_ck {μ : zM} {x0 : Nat} {x1 : Nat} {x2 : Int32} {x3 : Int32} {z : Int32 × zM} (h : fX1_walk μ x0 x1 x2 x3 = some z) : zm_ck μ 1 x0 = true := (zgd_s h).1
set_option maxHeartbeats 4000000 in
set_option maxRecDepth 100000 in
theorem cX1_walk_ok {μ : zM} {x0 : Nat} {x1 : Nat} {x2 : Int32} {x3 : Int32} {r : Int32} {mo : zM} (hf : fX1_walk μ x0 x1 x2 x3 = some (r, mo)) : zC yX1_walk cX1_walk 4 (some .boolean) 1 0 0 [.ref x0, .ref x1, .int x2, .int x3] μ (some (.int r)) mo := by
  replace hf := (zgd_s hf).2
  refine zC.of (by decide) (Nat.le_of_ble_eq_true rfl) (fun K hin => ?_)
  clear hin
  show zz K cX1_walk (4, RX1, some .boolean, 1, 0, 0, some (.int r), mo) 0 0 0 [(0, .ref x0), (1, .ref x1), (2, .int x2), (3, .int x3)] [] μ
  refine zr_aload_n 1 dX1_walk_0 rfl ?_
  refine zr_iload_n 3 dX1_walk_1 rfl ?_
  replace hf := zb1_s hf
  obtain ⟨v2, h1, hf⟩ := hf
  refine zr_callV (ci := 9) [.int x3] (cX9_hasPlace_ok h1) zvs_X9_hasPlace zl_106 zl_107 (fX9_hasPlace_ck h1) rfl rfl zl_105 rfl (Nat.le_of_ble_eq_true rfl) (Nat.le_of_ble_eq_true rfl) (Nat.le_of_ble_eq_true rfl) (Nat.le_of_ble_eq_true rfl) dX1_walk_2 rfl ?_
  refine zr_if_eq 26 dX1_walk_5 (by decide) (fun hc => ?_) (fun hc => ?_)
  · rw [if_pos hc] at hf
    refine zr_iconst 0 dX1_walk_26 (by decide) ?_
    cases hf
    exact zr_zret rfl dX1_walk_27
  · rw [if_neg hc] at hf
    refine zr_aload_n 0 dX1_walk_8 rfl ?_
    refine zr_aload_n 0 dX1_walk_9 rfl ?_
    replace hf := zb1_s hf
    obtain ⟨v3, h4, hf⟩ := hf
    refine zr_get (zm_gR_g h4) zk1 (by decide) zl_94 dX1_walk_10 ?_
    refine zr_iload_n 2 dX1_walk_13 rfl ?_
    replace hf := zb1_s hf
    obtain ⟨v5, h6, hf⟩ := hf
    refine zr_iald h6 dX1_walk_14 ?_
    refine zr_iload_n 3 dX1_walk_15 rfl ?_
    refine zr_isub dX1_walk_16 ?_
    refine zr_mabs zl_108 zl_10 zl_11 zl_12 (Nat.le_of_ble_eq_true rfl) (Nat.le_of_ble_eq_true rfl) (Nat.le_of_ble_eq_true rfl) (Nat.le_of_ble_eq_true rfl) dX1_walk_17 ?_
    replace hf := zb2_s hf
    obtain ⟨v9, m8, h7, hf⟩ := hf
    refine zr_callV (ci := 1) [.int (if 0 ≤ (v5 - x3) then (v5 - x3) else 0 - (v5 - x3) : Int32)] (cX1_pass_ok h7) zvs_X1_pass zl_112 zl_113 (fX1_pass_ck h7) rfl rfl zl_111 rfl (Nat.le_of_ble_eq_true rfl) (Nat.le_of_ble_eq_true rfl) (Nat.le_of_ble_eq_true rfl) (Nat.le_of_ble_eq_true rfl) dX1_walk_20 rfl ?_
    refine zr_if_ne 28 dX1_walk_23 (by decide) (fun hc => ?_) (fun hc => ?_)
    · rw [if_neg hc] at hf
      refine zr_aload_n 0 dX1_walk_28 rfl ?_
      replace hf := zb1_s hf
      obtain ⟨v10, h11, hf⟩ := hf
      refine zr_get (zm_gR_g h11) zk1 (by decide) zl_94 dX1_walk_29 ?_
      refine zr_iload_n 2 dX1_walk_32 rfl ?_
      refine zr_iload_n 3 dX1_walk_33 rfl ?_
      replace hf := zb1_s hf
      obtain ⟨m12, h13, hf⟩ := hf
      refine zr_iast h13 dX1_walk_34 ?_
      refine zr_iconst 1 dX1_walk_35 (by decide) ?_
      cases hf
      exact zr_zret rfl dX1_walk_36
    · rw [if_pos hc] at hf
      refine zr_iconst 0 dX1_walk_26 (by decide) ?_
      cases hf
      exact zr_zret rfl dX1_walk_27
theorem zl_114 : Cond.methodLink RX9 94 yX9_judge ∈ zt := zt_at 819 (by decide +kernel)
theorem zl_115 : Cond.fieldLink RX9 15 "TwoEchoes$Valley" "thought" "[I" ∈ zt := zt_at 180 (by decide +kernel)
theorem dX9_arrival_0 : decode cX9_arrival 0 = .ok (.aload_n 0, 1) := by decide +kernel
theorem dX9_arrival_1 : decode cX9_arrival 1 = .ok (.iload_n 1, 1) := by decide +kernel
theorem dX9_arrival_2 : decode cX9_arrival 2 = .ok (.iload 5, 2) := by decide +kernel
theorem dX9_arrival_4 : decode cX9_arrival 4 = .ok (.iload 6, 2) := by decide +kernel
theorem dX9_arrival_6 : decode cX9_arrival 6 = .ok (.invokevirtual 97, 3) := by decide +kernel
theorem dX9_arrival_9 : decode cX9_arrival 9 = .ok (.istore 7, 2) := by decide +kernel
theorem dX9_arrival_11 : decode cX9_arrival 11 = .ok (.iload 7, 2) := by decide +kernel
theorem dX9_arrival_13 : decode cX9_arrival 13 = .ok (.getstatic 101, 3) := by decide +kernel
theorem dX9_arrival_16 : decode cX9_arrival 16 = .ok (.iload_n 3, 1) := by decide +kernel
theorem dX9_arrival_17 : decode cX9_arrival 17 = .ok (.iaload, 1) := by decide +kernel
theorem dX9_arrival_18 : decode cX9_arrival 18 = .ok (.if_icmp .gt 14, 3) := by decide +kernel
theorem dX9_arrival_21 : decode cX9_arrival 21 = .ok (.aload_n 0, 1) := by decide +kernel
theorem dX9_arrival_22 : decode cX9_arrival 22 = .ok (.iload 6, 2) := by decide +kernel
theorem dX9_arrival_24 : decode cX9_arrival 24 = .ok (.iload 4, 2) := by decide +kernel
theorem dX9_arrival_26 : decode cX9_arrival 26 = .ok (.invokevirtual 90, 3) := by decide +kernel
theorem dX9_arrival_29 : decode cX9_arrival 29 = .ok (.ifCond .eq 5, 3) := by decide +kernel
theorem dX9_arrival_32 : decode cX9_arrival 32 = .ok (.iconst (-1), 1) := by decide +kernel
theorem dX9_arrival_33 : decode cX9_arrival 33 = .ok (.ireturn, 1) := by decide +kernel
theorem dX9_arrival_34 : decode cX9_arrival 34 = .ok (.iload 4, 2) := by decide +kernel
theorem dX9_arrival_36 : decode cX9_arrival 36 = .ok (.iload 7, 2) := by decide +kernel
theorem dX9_arrival_38 : decode cX9_arrival 38 = .ok (.iadd, 1) := by decide +kernel
theorem dX9_arrival_39 : decode cX9_arrival 39 = .ok (.iload 6, 2) := by decide +kernel
theorem dX9_arrival_41 : decode cX9_arrival 41 = .ok (.aload_n 0, 1) := by decide +kernel
theorem dX9_arrival_42 : decode cX9_arrival 42 = .ok (.iload 4, 2) := by decide +kernel
theorem dX9_arrival_44 : decode cX9_arrival 44 = .ok (.invokevirtual 94, 3) := by decide +kernel
theorem dX9_arrival_47 : decode cX9_arrival 47 = .ok (.if_icmp .ne 12, 3) := by decide +kernel
theorem dX9_arrival_50 : decode cX9_arrival 50 = .ok (.aload_n 0, 1) := by decide +kernel
theorem dX9_arrival_51 : decode cX9_arrival 51 = .ok (.getfield 15, 3) := by decide +kernel
theorem dX9_arrival_54 : decode cX9_arrival 54 = .ok (.iload_n 2, 1) := by decide +kernel
theorem dX9_arrival_55 : decode cX9_arrival 55 = .ok (.iaload, 1) := by decide +kernel
theorem dX9_arrival_56 : decode cX9_arrival 56 = .ok (.goto 4, 3) := by decide +kernel
theorem dX9_arrival_59 : decode cX9_arrival 59 = .ok (.iconst 0, 1) := by decide +kernel
theorem dX9_arrival_60 : decode cX9_arrival 60 = .ok (.iadd, 1) := by decide +kernel
theorem dX9_arrival_61 : decode cX9_arrival 61 = .ok (.ireturn, 1) := by decide +kernel
noncomputable def fX9_arrival (μ : zM) (x0 : Nat) (x1 : Int32) (x2 : Int32) (x3 : Int32) (x4 : Int32) (x5 : Int32) (x6 : Int32) : Option (Int32) := zgd (zm_ck μ 9 x0) <|
  zb1 (fX9_way μ x0 x1 x5 x6) fun v2 =>
  zb1 (zm_aI μ 0 (μ.2.2 0) x3) fun v3 =>
  if v3 < v2 then (
  some (-1))
  else (
  zb1 (fX9_isMute μ x0 x6 x4) fun v6 =>
  if v6 = 0 then (
  zb1 (fX9_judge μ x0 x4) fun v8 =>
  zb1 (if x6 = v8 then (
  zb1 (zm_gR μ 9 x0 2) fun v11 =>
  zb1 (zm_aI μ 0 v11 x2) fun v13 =>
  some v13)
  else (
  some 0) : Option (Int32)) fun (s9 : Int32) =>
  some ((x4 + v2) + s9))
  else (
  some (-1)))
theorem fX9_arrival_ck {μ : zM} {x0 : Nat} {x1 : Int32} {x2 : Int32} {x3 : Int32} {x4 : Int32} {x5 : Int32} {x6 : Int32} {z : Int32} (h : fX9_arrival μ x0 x1 x2 x3 x4 x5 x6 = some z) : zm_ck μ 9 x0 = true := (zgd_s h).1
set_option maxHeartbeats 4000000 in
set_option maxRecDepth 100000 in
theorem cX9_arrival_ok {μ : zM} {x0 : Nat} {x1 : Int32} {x2 : Int32} {x3 : Int32} {x4 : Int32} {x5 : Int32} {x6 : Int32} {r : Int32} (hf : fX9_arrival μ x0 x1 x2 x3 x4 x5 x6 = some r) : zC yX9_arrival cX9_arrival 8 (some .int) 2 0 0 [.ref x0, .int x1, .int x2, .int x3, .int x4, .int x5, .int x6] μ (some (.int r)) μ := by
  replace hf := (zgd_s hf).2
  refine zC.of (by decide) (Nat.le_of_ble_eq_true rfl) (fun K hin => ?_)
  clear hin
  show zz K cX9_arrival (8, RX9, some .int, 2, 0, 0, some (.int r), μ) 0 0 0 [(0, .ref x0), (1, .int x1), (2, .int x2), (3, .int x3), (4, .int x4), (5, .int x5), (6, .int x6)] [] μ
  refine zr_aload_n 0 dX9_arrival_0 rfl ?_
  refine zr_iload_n 1 dX9_arrival_1 rfl ?_
  refine zr_iload 5 dX9_arrival_2 rfl ?_
  refine zr_iload 6 dX9_arrival_4 rfl ?_
  replace hf := zb1_s hf
  obtain ⟨v2, h1, hf⟩ := hf
  refine zr_callV (ci := 9) [.int x1, .int x5, .int x6] (cX9_way_ok h1) zvs_X9_way zl_20 zl_21 (fX9_way_ck h1) rfl rfl zl_19 rfl (Nat.le_of_ble_eq_true rfl) (Nat.le_of_ble_eq_true rfl) (Nat.le_of_ble_eq_true rfl) (Nat.le_of_ble_eq_true rfl) dX9_arrival_6 rfl ?_
  refine zr_istore [(7, .int v2), (0, .ref x0), (1, .int x1), (2, .int x2), (3, .int x3), (4, .int x4), (5, .int x5), (6, .int x6)] dX9_arrival_9 (Nat.le_of_ble_eq_true rfl) rfl ?_
  refine zr_iload 0 dX9_arrival_11 rfl ?_
  refine zr_getsN (k := 0) (by decide) zl_22 dX9_arrival_13 ?_
  refine zr_iload_n 4 dX9_arrival_16 rfl ?_
  replace hf := zb1_s hf
  obtain ⟨v3, h4, hf⟩ := hf
  refine zr_iald h4 dX9_arrival_17 ?_
  refine zr_icmp_gt 32 dX9_arrival_18 (by decide) (fun hc => ?_) (fun hc => ?_)
  · rw [if_pos hc] at hf
    refine zr_iconst (-1) dX9_arrival_32 (by decide) ?_
    cases hf
    exact zr_iret dX9_arrival_33
  · rw [if_neg hc] at hf
    refine zr_aload_n 1 dX9_arrival_21 rfl ?_
    refine zr_iload 7 dX9_arrival_22 rfl ?_
    refine zr_iload 5 dX9_arrival_24 rfl ?_
    replace hf := zb1_s hf
    obtain ⟨v6, h5, hf⟩ := hf
    refine zr_callV (ci := 9) [.int x6, .int x4] (cX9_isMute_ok h5) zvs_X9_isMute zl_16 zl_17 (fX9_isMute_ck h5) rfl rfl zl_15 rfl (Nat.le_of_ble_eq_true rfl) (Nat.le_of_ble_eq_true rfl) (Nat.le_of_ble_eq_true rfl) (Nat.le_of_ble_eq_true rfl) dX9_arrival_26 rfl ?_
    refine zr_if_eq 34 dX9_arrival_29 (by decide) (fun hc => ?_) (fun hc => ?_)
    · rw [if_pos hc] at hf
      refine zr_iload 5 dX9_arrival_34 rfl ?_
      refine zr_iload 0 dX9_arrival_36 rfl ?_
      refine zr_iadd dX9_arrival_38 ?_
      refine zr_iload 7 dX9_arrival_39 rfl ?_
      refine zr_aload_n 1 dX9_arrival_41 rfl ?_
      refine zr_iload 5 dX9_arrival_42 rfl ?_
      replace hf := zb1_s hf
      obtain ⟨v8, h7, hf⟩ := hf
      refine zr_callV (ci := 9) [.int x4] (cX9_judge_ok h7) zvs_X9_judge zl_36 zl_37 (fX9_judge_ck h7) rfl rfl zl_114 rfl (Nat.le_of_ble_eq_true rfl) (Nat.le_of_ble_eq_true rfl) (Nat.le_of_ble_eq_true rfl) (Nat.le_of_ble_eq_true rfl) dX9_arrival_44 rfl ?_
      replace hf := zb1_s hf
      obtain ⟨s9, hg, hf⟩ := hf
      have hj10 : zz K cX9_arrival (8, RX9, some .int, 2, 0, 0, some (.int r), μ) 0 0 60 [] [.int s9, .int (x4 + v2)] μ := by
        refine zr_iadd dX9_arrival_60 ?_
        cases hf
        exact zr_iret dX9_arrival_61
      clear hf
      have hf := hg
      clear hg
      refine zr_icmp_ne 59 dX9_arrival_47 (by decide) (fun hc => ?_) (fun hc => ?_)
      · rw [if_neg hc] at hf
        refine zr_iconst 0 dX9_arrival_59 (by decide) ?_
        cases hf
        exact zr_lv [] rfl hj10
      · rw [if_pos hc] at hf
        refine zr_aload_n 1 dX9_arrival_50 rfl ?_
        replace hf := zb1_s hf
        obtain ⟨v11, h12, hf⟩ := hf
        refine zr_get (zm_gR_g h12) zk9 (by decide) zl_115 dX9_arrival_51 ?_
        refine zr_iload_n 3 dX9_arrival_54 rfl ?_
        replace hf := zb1_s hf
        obtain ⟨v13, h14, hf⟩ := hf
        refine zr_iald h14 dX9_arrival_55 ?_
        refine zr_goto 60 dX9_arrival_56 (by decide) ?_
        cases hf
        exact zr_lv [] rfl hj10
    · rw [if_neg hc] at hf
      refine zr_iconst (-1) dX9_arrival_32 (by decide) ?_
      cases hf
      exact zr_iret dX9_arrival_33
theorem zl_116 : Cond.fieldLink RX9 9 "TwoEchoes$Valley" "should" "[I" ∈ zt := zt_at 176 (by decide +kernel)
theorem dX9_wordBy_0 : decode cX9_wordBy 0 = .ok (.aload_n 0, 1) := by decide +kernel
theorem dX9_wordBy_1 : decode cX9_wordBy 1 = .ok (.iload_n 3, 1) := by decide +kernel
theorem dX9_wordBy_2 : decode cX9_wordBy 2 = .ok (.iload_n 2, 1) := by decide +kernel
theorem dX9_wordBy_3 : decode cX9_wordBy 3 = .ok (.invokevirtual 90, 3) := by decide +kernel
theorem dX9_wordBy_6 : decode cX9_wordBy 6 = .ok (.ifCond .eq 5, 3) := by decide +kernel
theorem dX9_wordBy_9 : decode cX9_wordBy 9 = .ok (.iconst (-1), 1) := by decide +kernel
theorem dX9_wordBy_10 : decode cX9_wordBy 10 = .ok (.ireturn, 1) := by decide +kernel
theorem dX9_wordBy_11 : decode cX9_wordBy 11 = .ok (.iload_n 3, 1) := by decide +kernel
theorem dX9_wordBy_12 : decode cX9_wordBy 12 = .ok (.aload_n 0, 1) := by decide +kernel
theorem dX9_wordBy_13 : decode cX9_wordBy 13 = .ok (.iload_n 2, 1) := by decide +kernel
theorem dX9_wordBy_14 : decode cX9_wordBy 14 = .ok (.invokevirtual 94, 3) := by decide +kernel
theorem dX9_wordBy_17 : decode cX9_wordBy 17 = .ok (.if_icmp .ne 12, 3) := by decide +kernel
theorem dX9_wordBy_20 : decode cX9_wordBy 20 = .ok (.aload_n 0, 1) := by decide +kernel
theorem dX9_wordBy_21 : decode cX9_wordBy 21 = .ok (.getfield 9, 3) := by decide +kernel
theorem dX9_wordBy_24 : decode cX9_wordBy 24 = .ok (.iload_n 1, 1) := by decide +kernel
theorem dX9_wordBy_25 : decode cX9_wordBy 25 = .ok (.iaload, 1) := by decide +kernel
theorem dX9_wordBy_26 : decode cX9_wordBy 26 = .ok (.goto 4, 3) := by decide +kernel
theorem dX9_wordBy_29 : decode cX9_wordBy 29 = .ok (.iload_n 1, 1) := by decide +kernel
theorem dX9_wordBy_30 : decode cX9_wordBy 30 = .ok (.ireturn, 1) := by decide +kernel
noncomputable def fX9_wordBy (μ : zM) (x0 : Nat) (x1 : Int32) (x2 : Int32) (x3 : Int32) : Option (Int32) := zgd (zm_ck μ 9 x0) <|
  zb1 (fX9_isMute μ x0 x3 x2) fun v2 =>
  if v2 = 0 then (
  zb1 (fX9_judge μ x0 x2) fun v4 =>
  zb1 (if x3 = v4 then (
  zb1 (zm_gR μ 9 x0 1) fun v7 =>
  zb1 (zm_aI μ 0 v7 x1) fun v9 =>
  some v9)
  else (
  some x1) : Option (Int32)) fun (s5 : Int32) =>
  some s5)
  else (
  some (-1))
theorem fX9_wordBy_ck {μ : zM} {x0 : Nat} {x1 : Int32} {x2 : Int32} {x3 : Int32} {z : Int32} (h : fX9_wordBy μ x0 x1 x2 x3 = some z) : zm_ck μ 9 x0 = true := (zgd_s h).1
set_option maxHeartbeats 4000000 in
set_option maxRecDepth 100000 in
theorem cX9_wordBy_ok {μ : zM} {x0 : Nat} {x1 : Int32} {x2 : Int32} {x3 : Int32} {r : Int32} (hf : fX9_wordBy μ x0 x1 x2 x3 = some r) : zC yX9_wordBy cX9_wordBy 4 (some .int) 1 0 0 [.ref x0, .int x1, .int x2, .int x3] μ (some (.int r)) μ := by
  replace hf := (zgd_s hf).2
  refine zC.of (by decide) (Nat.le_of_ble_eq_true rfl) (fun K hin => ?_)
  clear hin
  show zz K cX9_wordBy (4, RX9, some .int, 1, 0, 0, some (.int r), μ) 0 0 0 [(0, .ref x0), (1, .int x1), (2, .int x2), (3, .int x3)] [] μ
  refine zr_aload_n 0 dX9_wordBy_0 rfl ?_
  refine zr_iload_n 3 dX9_wordBy_1 rfl ?_
  refine zr_iload_n 2 dX9_wordBy_2 rfl ?_
  replace hf := zb1_s hf
  obtain ⟨v2, h1, hf⟩ := hf
  refine zr_callV (ci := 9) [.int x3, .int x2] (cX9_isMute_ok h1) zvs_X9_isMute zl_16 zl_17 (fX9_isMute_ck h1) rfl rfl zl_15 rfl (Nat.le_of_ble_eq_true rfl) (Nat.le_of_ble_eq_true rfl) (Nat.le_of_ble_eq_true rfl) (Nat.le_of_ble_eq_true rfl) dX9_wordBy_3 rfl ?_
  refine zr_if_eq 11 dX9_wordBy_6 (by decide) (fun hc => ?_) (fun hc => ?_)
  · rw [if_pos hc] at hf
    refine zr_iload_n 3 dX9_wordBy_11 rfl ?_
    refine zr_aload_n 0 dX9_wordBy_12 rfl ?_
    refine zr_iload_n 2 dX9_wordBy_13 rfl ?_
    replace hf := zb1_s hf
    obtain ⟨v4, h3, hf⟩ := hf
    refine zr_callV (ci := 9) [.int x2] (cX9_judge_ok h3) zvs_X9_judge zl_36 zl_37 (fX9_judge_ck h3) rfl rfl zl_114 rfl (Nat.le_of_ble_eq_true rfl) (Nat.le_of_ble_eq_true rfl) (Nat.le_of_ble_eq_true rfl) (Nat.le_of_ble_eq_true rfl) dX9_wordBy_14 rfl ?_
    replace hf := zb1_s hf
    obtain ⟨s5, hg, hf⟩ := hf
    have hj6 : zz K cX9_wordBy (4, RX9, some .int, 1, 0, 0, some (.int r), μ) 0 0 30 [] [.int s5] μ := by
      cases hf
      exact zr_iret dX9_wordBy_30
    clear hf
    have hf := hg
    clear hg
    refine zr_icmp_ne 29 dX9_wordBy_17 (by decide) (fun hc => ?_) (fun hc => ?_)
    · rw [if_neg hc] at hf
      refine zr_iload_n 1 dX9_wordBy_29 rfl ?_
      cases hf
      exact zr_lv [] rfl hj6
    · rw [if_pos hc] at hf
      refine zr_aload_n 0 dX9_wordBy_20 rfl ?_
      replace hf := zb1_s hf
      obtain ⟨v7, h8, hf⟩ := hf
      refine zr_get (zm_gR_g h8) zk9 (by decide) zl_116 dX9_wordBy_21 ?_
      refine zr_iload_n 1 dX9_wordBy_24 rfl ?_
      replace hf := zb1_s hf
      obtain ⟨v9, h10, hf⟩ := hf
      refine zr_iald h10 dX9_wordBy_25 ?_
      refine zr_goto 30 dX9_wordBy_26 (by decide) ?_
      cases hf
      exact zr_lv [] rfl hj6
  · rw [if_neg hc] at hf
    refine zr_iconst (-1) dX9_wordBy_9 (by decide) ?_
    cases hf
    exact zr_iret dX9_wordBy_10
theorem dX11_isMinute_0 : decode cX11_isMinute 0 = .ok (.iload_n 0, 1) := by decide +kernel
theorem dX11_isMinute_1 : decode cX11_isMinute 1 = .ok (.ifCond .lt 13, 3) := by decide +kernel
theorem dX11_isMinute_4 : decode cX11_isMinute 4 = .ok (.iload_n 0, 1) := by decide +kernel
theorem dX11_isMinute_5 : decode cX11_isMinute 5 = .ok (.bipush 100, 2) := by decide +kernel
theorem dX11_isMinute_7 : decode cX11_isMinute 7 = .ok (.if_icmp .ge 7, 3) := by decide +kernel
theorem dX11_isMinute_10 : decode cX11_isMinute 10 = .ok (.iconst 1, 1) := by decide +kernel
theorem dX11_isMinute_11 : decode cX11_isMinute 11 = .ok (.goto 4, 3) := by decide +kernel
theorem dX11_isMinute_14 : decode cX11_isMinute 14 = .ok (.iconst 0, 1) := by decide +kernel
theorem dX11_isMinute_15 : decode cX11_isMinute 15 = .ok (.ireturn, 1) := by decide +kernel
noncomputable def fX11_isMinute (μ : zM) (x0 : Int32) : Option (Int32) :=
  zb1 (if x0 < 0 then (
  some 0)
  else (
  if 100 ≤ x0 then (
  some 0)
  else (
  some 1)) : Option (Int32)) fun (s1 : Int32) =>
  zb1 (zbz s1) fun v3 =>
  some v3
set_option maxHeartbeats 4000000 in
set_option maxRecDepth 100000 in
theorem cX11_isMinute_ok {μ : zM} {x0 : Int32} {r : Int32} (hf : fX11_isMinute μ x0 = some r) : zC yX11_isMinute cX11_isMinute 1 (some .boolean) 0 0 0 [.int x0] μ (some (.int r)) μ := by
  unfold fX11_isMinute at hf
  refine zC.of (by decide) (Nat.le_of_ble_eq_true rfl) (fun K hin => ?_)
  clear hin
  show zz K cX11_isMinute (1, RX11, some .boolean, 0, 0, 0, some (.int r), μ) 0 0 0 [(0, .int x0)] [] μ
  refine zr_iload_n 0 dX11_isMinute_0 rfl ?_
  replace hf := zb1_s hf
  obtain ⟨s1, hg, hf⟩ := hf
  have hj2 : zz K cX11_isMinute (1, RX11, some .boolean, 0, 0, 0, some (.int r), μ) 0 0 15 [] [.int s1] μ := by
    replace hf := zb1_s hf
    obtain ⟨v3, hn4, hf⟩ := hf
    replace hn4 := zbz_s hn4
    obtain ⟨hn4, rfl⟩ := hn4
    cases hf
    exact zr_zret hn4 dX11_isMinute_15
  clear hf
  have hf := hg
  clear hg
  refine zr_if_lt 14 dX11_isMinute_1 (by decide) (fun hc => ?_) (fun hc => ?_)
  · rw [if_pos hc] at hf
    refine zr_iconst 0 dX11_isMinute_14 (by decide) ?_
    cases hf
    exact zr_lv [] rfl hj2
  · rw [if_neg hc] at hf
    refine zr_iload_n 0 dX11_isMinute_4 rfl ?_
    refine zr_bipush 100 dX11_isMinute_5 (by decide) ?_
    refine zr_icmp_ge 14 dX11_isMinute_7 (by decide) (fun hc => ?_) (fun hc => ?_)
    · rw [if_pos hc] at hf
      refine zr_iconst 0 dX11_isMinute_14 (by decide) ?_
      cases hf
      exact zr_lv [] rfl hj2
    · rw [if_neg hc] at hf
      refine zr_iconst 1 dX11_isMinute_10 (by decide) ?_
      refine zr_goto 15 dX11_isMinute_11 (by decide) ?_
      cases hf
      exact zr_lv [] rfl hj2
theorem zl_117 : Cond.code yX11_isMinute cX11_isMinute 1 (some .boolean) ∈ zt := zt_at 801 (by decide +kernel)
theorem zl_118 : Cond.initialized RX11 ∈ zt := zt_at 129 (by decide +kernel)
theorem zvs_X11_isMinute : zvS yX11_isMinute cX11_isMinute 1 (some .boolean) 1 := ⟨zl_117, zl_118, ⟨by decide +kernel, by decide +kernel, by decide +kernel⟩, by decide⟩
theorem zl_119 : Cond.methodLinkNest RX1 119 yX11_isMinute "TwoEchoes" ∈ zn := zn_at 882 (by decide +kernel)
theorem zl_120 : Cond.static yX11_isMinute ∈ zt := zt_at 800 (by decide +kernel)
theorem dX1_hear_0 : decode cX1_hear 0 = .ok (.iload_n 2, 1) := by decide +kernel
theorem dX1_hear_1 : decode cX1_hear 1 = .ok (.invokestatic 119, 3) := by decide +kernel
theorem dX1_hear_4 : decode cX1_hear 4 = .ok (.ifCond .eq 8, 3) := by decide +kernel
theorem dX1_hear_7 : decode cX1_hear 7 = .ok (.iload_n 3, 1) := by decide +kernel
theorem dX1_hear_8 : decode cX1_hear 8 = .ok (.iconst (-1), 1) := by decide +kernel
theorem dX1_hear_9 : decode cX1_hear 9 = .ok (.if_icmp .ne 4, 3) := by decide +kernel
theorem dX1_hear_12 : decode cX1_hear 12 = .ok (.return_, 1) := by decide +kernel
theorem dX1_hear_13 : decode cX1_hear 13 = .ok (.aload_n 0, 1) := by decide +kernel
theorem dX1_hear_14 : decode cX1_hear 14 = .ok (.getfield 25, 3) := by decide +kernel
theorem dX1_hear_17 : decode cX1_hear 17 = .ok (.iload_n 1, 1) := by decide +kernel
theorem dX1_hear_18 : decode cX1_hear 18 = .ok (.bipush 100, 2) := by decide +kernel
theorem dX1_hear_20 : decode cX1_hear 20 = .ok (.imul, 1) := by decide +kernel
theorem dX1_hear_21 : decode cX1_hear 21 = .ok (.iload_n 2, 1) := by decide +kernel
theorem dX1_hear_22 : decode cX1_hear 22 = .ok (.iadd, 1) := by decide +kernel
theorem dX1_hear_23 : decode cX1_hear 23 = .ok (.dup2, 1) := by decide +kernel
theorem dX1_hear_24 : decode cX1_hear 24 = .ok (.iaload, 1) := by decide +kernel
theorem dX1_hear_25 : decode cX1_hear 25 = .ok (.iconst 1, 1) := by decide +kernel
theorem dX1_hear_26 : decode cX1_hear 26 = .ok (.iload_n 3, 1) := by decide +kernel
theorem dX1_hear_27 : decode cX1_hear 27 = .ok (.ishl, 1) := by decide +kernel
theorem dX1_hear_28 : decode cX1_hear 28 = .ok (.ior, 1) := by decide +kernel
theorem dX1_hear_29 : decode cX1_hear 29 = .ok (.iastore, 1) := by decide +kernel
theorem dX1_hear_30 : decode cX1_hear 30 = .ok (.aload_n 0, 1) := by decide +kernel
theorem dX1_hear_31 : decode cX1_hear 31 = .ok (.getfield 28, 3) := by decide +kernel
theorem dX1_hear_34 : decode cX1_hear 34 = .ok (.iload_n 1, 1) := by decide +kernel
theorem dX1_hear_35 : decode cX1_hear 35 = .ok (.bipush 100, 2) := by decide +kernel
theorem dX1_hear_37 : decode cX1_hear 37 = .ok (.imul, 1) := by decide +kernel
theorem dX1_hear_38 : decode cX1_hear 38 = .ok (.iload_n 2, 1) := by decide +kernel
theorem dX1_hear_39 : decode cX1_hear 39 = .ok (.iadd, 1) := by decide +kernel
theorem dX1_hear_40 : decode cX1_hear 40 = .ok (.dup2, 1) := by decide +kernel
theorem dX1_hear_41 : decode cX1_hear 41 = .ok (.iaload, 1) := by decide +kernel
theorem dX1_hear_42 : decode cX1_hear 42 = .ok (.iconst 1, 1) := by decide +kernel
theorem dX1_hear_43 : decode cX1_hear 43 = .ok (.iadd, 1) := by decide +kernel
theorem dX1_hear_44 : decode cX1_hear 44 = .ok (.iastore, 1) := by decide +kernel
theorem dX1_hear_45 : decode cX1_hear 45 = .ok (.return_, 1) := by decide +kernel
noncomputable def fX1_hear (μ : zM) (x0 : Nat) (x1 : Int32) (x2 : Int32) (x3 : Int32) : Option (zM) := zgd (zm_ck μ 1 x0) <|
  zb1 (fX11_isMinute μ x2) fun v2 =>
  if v2 = 0 then (
  some μ)
  else (
  if x3 = (-1) then (
  some μ)
  else (
  zb1 (zm_gR μ 1 x0 4) fun v3 =>
  zb1 (zm_aI μ 0 v3 ((x1 * 100) + x2)) fun v5 =>
  zb1 (zm_sI μ 0 v3 ((x1 * 100) + x2) (v5 ||| (1 <<< (x3 &&& 31)))) fun m7 =>
  zb1 (zm_gR m7 1 x0 5) fun v9 =>
  zb1 (zm_aI m7 0 v9 ((x1 * 100) + x2)) fun v11 =>
  zb1 (zm_sI m7 0 v9 ((x1 * 100) + x2) (v11 + 1)) fun m13 =>
  some m13))
theorem fX1_hear_ck {μ : zM} {x0 : Nat} {x1 : Int32} {x2 : Int32} {x3 : Int32} {z : zM} (h : fX1_hear μ x0 x1 x2 x3 = some z) : zm_ck μ 1 x0 = true := (zgd_s h).1
set_option maxHeartbeats 4000000 in
set_option maxRecDepth 100000 in
theorem cX1_hear_ok {μ : zM} {x0 : Nat} {x1 : Int32} {x2 : Int32} {x3 : Int32} {mo : zM} (hf : fX1_hear μ x0 x1 x2 x3 = some mo) : zC yX1_hear cX1_hear 4 (none) 1 0 0 [.ref x0, .int x1, .int x2, .int x3] μ (none) mo := by
  replace hf := (zgd_s hf).2
  refine zC.of (by decide) (Nat.le_of_ble_eq_true rfl) (fun K hin => ?_)
  clear hin
  show zz K cX1_hear (4, RX1, none, 1, 0, 0, none, mo) 0 0 0 [(0, .ref x0), (1, .int x1), (2, .int x2), (3, .int x3)] [] μ
  refine zr_iload_n 2 dX1_hear_0 rfl ?_
  replace hf := zb1_s hf
  obtain ⟨v2, h1, hf⟩ := hf
  refine zr_callSN [.int x2] (cX11_isMinute_ok h1) zvs_X11_isMinute zl_120 zl_119 rfl (Nat.le_of_ble_eq_true rfl) (Nat.le_of_ble_eq_true rfl) (Nat.le_of_ble_eq_true rfl) (Nat.le_of_ble_eq_true rfl) dX1_hear_1 rfl ?_
  refine zr_if_eq 12 dX1_hear_4 (by decide) (fun hc => ?_) (fun hc => ?_)
  · rw [if_pos hc] at hf
    cases hf
    exact zr_vret dX1_hear_12
  · rw [if_neg hc] at hf
    refine zr_iload_n 3 dX1_hear_7 rfl ?_
    refine zr_iconst (-1) dX1_hear_8 (by decide) ?_
    refine zr_icmp_ne 13 dX1_hear_9 (by decide) (fun hc => ?_) (fun hc => ?_)
    · rw [if_neg hc] at hf
      refine zr_aload_n 0 dX1_hear_13 rfl ?_
      replace hf := zb1_s hf
      obtain ⟨v3, h4, hf⟩ := hf
      refine zr_get (zm_gR_g h4) zk1 (by decide) zl_95 dX1_hear_14 ?_
      refine zr_iload_n 1 dX1_hear_17 rfl ?_
      refine zr_bipush 100 dX1_hear_18 (by decide) ?_
      refine zr_imul dX1_hear_20 ?_
      refine zr_iload_n 2 dX1_hear_21 rfl ?_
      refine zr_iadd dX1_hear_22 ?_
      refine zr_dup2 dX1_hear_23 rfl rfl ?_
      replace hf := zb1_s hf
      obtain ⟨v5, h6, hf⟩ := hf
      refine zr_iald h6 dX1_hear_24 ?_
      refine zr_iconst 1 dX1_hear_25 (by decide) ?_
      refine zr_iload_n 3 dX1_hear_26 rfl ?_
      refine zr_ishl dX1_hear_27 ?_
      refine zr_ior dX1_hear_28 ?_
      replace hf := zb1_s hf
      obtain ⟨m7, h8, hf⟩ := hf
      refine zr_iast h8 dX1_hear_29 ?_
      refine zr_aload_n 0 dX1_hear_30 rfl ?_
      replace hf := zb1_s hf
      obtain ⟨v9, h10, hf⟩ := hf
      refine zr_get (zm_gR_g h10) zk1 (by decide) zl_96 dX1_hear_31 ?_
      refine zr_iload_n 1 dX1_hear_34 rfl ?_
      refine zr_bipush 100 dX1_hear_35 (by decide) ?_
      refine zr_imul dX1_hear_37 ?_
      refine zr_iload_n 2 dX1_hear_38 rfl ?_
      refine zr_iadd dX1_hear_39 ?_
      refine zr_dup2 dX1_hear_40 rfl rfl ?_
      replace hf := zb1_s hf
      obtain ⟨v11, h12, hf⟩ := hf
      refine zr_iald h12 dX1_hear_41 ?_
      refine zr_iconst 1 dX1_hear_42 (by decide) ?_
      refine zr_iadd dX1_hear_43 ?_
      replace hf := zb1_s hf
      obtain ⟨m13, h14, hf⟩ := hf
      refine zr_iast h14 dX1_hear_44 ?_
      cases hf
      exact zr_vret dX1_hear_45
    · rw [if_pos hc] at hf
      cases hf
      exact zr_vret dX1_hear_12
theorem zl_121 : Cond.fieldLink RX1 53 "TwoEchoes$Valley" "people" "I" ∈ zt := zt_at 190 (by decide +kernel)
theorem zl_122 : Cond.code yX9_arrival cX9_arrival 8 (some .int) ∈ zt := zt_at 805 (by decide +kernel)
theorem zvs_X9_arrival : zvS yX9_arrival cX9_arrival 8 (some .int) 6 := ⟨zl_122, zl_14, ⟨by decide +kernel, by decide +kernel, by decide +kernel⟩, by decide⟩
theorem zl_123 : Cond.methodLink RX1 107 yX9_arrival ∈ zt := zt_at 876 (by decide +kernel)
theorem zl_124 : Cond.instanceMethod yX9_arrival ∈ zt := zt_at 803 (by decide +kernel)
theorem zl_125 : Cond.selects RX9 yX9_arrival yX9_arrival ∈ zt := zt_at 804 (by decide +kernel)
theorem zl_126 : Cond.code yX9_wordBy cX9_wordBy 4 (some .int) ∈ zt := zt_at 830 (by decide +kernel)
theorem zvs_X9_wordBy : zvS yX9_wordBy cX9_wordBy 4 (some .int) 3 := ⟨zl_126, zl_14, ⟨by decide +kernel, by decide +kernel, by decide +kernel⟩, by decide⟩
theorem zl_127 : Cond.methodLink RX1 111 yX9_wordBy ∈ zt := zt_at 877 (by decide +kernel)
theorem zl_128 : Cond.instanceMethod yX9_wordBy ∈ zt := zt_at 828 (by decide +kernel)
theorem zl_129 : Cond.selects RX9 yX9_wordBy yX9_wordBy ∈ zt := zt_at 829 (by decide +kernel)
theorem zl_130 : Cond.code yX1_hear cX1_hear 4 (none) ∈ zt := zt_at 881 (by decide +kernel)
theorem zvs_X1_hear : zvS yX1_hear cX1_hear 4 (none) 3 := ⟨zl_130, zl_110, ⟨by decide +kernel, by decide +kernel, by decide +kernel⟩, by decide⟩
theorem zl_131 : Cond.methodLink RX1 115 yX1_hear ∈ zt := zt_at 878 (by decide +kernel)
theorem zl_132 : Cond.instanceMethod yX1_hear ∈ zt := zt_at 880 (by decide +kernel)
theorem zl_133 : Cond.selects RX1 yX1_hear yX1_hear ∈ zt := zt_at 25 (by decide +kernel)
theorem dX1_speak_0 : decode cX1_speak 0 = .ok (.aload_n 0, 1) := by decide +kernel
theorem dX1_speak_1 : decode cX1_speak 1 = .ok (.dup, 1) := by decide +kernel
theorem dX1_speak_2 : decode cX1_speak 2 = .ok (.getfield 15, 3) := by decide +kernel
theorem dX1_speak_5 : decode cX1_speak 5 = .ok (.iconst 1, 1) := by decide +kernel
theorem dX1_speak_6 : decode cX1_speak 6 = .ok (.iadd, 1) := by decide +kernel
theorem dX1_speak_7 : decode cX1_speak 7 = .ok (.putfield 15, 3) := by decide +kernel
theorem dX1_speak_10 : decode cX1_speak 10 = .ok (.iconst 0, 1) := by decide +kernel
theorem dX1_speak_11 : decode cX1_speak 11 = .ok (.istore 5, 2) := by decide +kernel
theorem dX1_speak_13 : decode cX1_speak 13 = .ok (.iload 5, 2) := by decide +kernel
theorem dX1_speak_15 : decode cX1_speak 15 = .ok (.iconst 2, 1) := by decide +kernel
theorem dX1_speak_16 : decode cX1_speak 16 = .ok (.if_icmp .gt 88, 3) := by decide +kernel
theorem dX1_speak_19 : decode cX1_speak 19 = .ok (.iconst 0, 1) := by decide +kernel
theorem dX1_speak_20 : decode cX1_speak 20 = .ok (.istore 6, 2) := by decide +kernel
theorem dX1_speak_22 : decode cX1_speak 22 = .ok (.iload 6, 2) := by decide +kernel
theorem dX1_speak_24 : decode cX1_speak 24 = .ok (.aload_n 1, 1) := by decide +kernel
theorem dX1_speak_25 : decode cX1_speak 25 = .ok (.getfield 53, 3) := by decide +kernel
theorem dX1_speak_28 : decode cX1_speak 28 = .ok (.if_icmp .ge 70, 3) := by decide +kernel
theorem dX1_speak_31 : decode cX1_speak 31 = .ok (.iload 5, 2) := by decide +kernel
theorem dX1_speak_33 : decode cX1_speak 33 = .ok (.ifCond .ne 12, 3) := by decide +kernel
theorem dX1_speak_36 : decode cX1_speak 36 = .ok (.iload 6, 2) := by decide +kernel
theorem dX1_speak_38 : decode cX1_speak 38 = .ok (.iload_n 2, 1) := by decide +kernel
theorem dX1_speak_39 : decode cX1_speak 39 = .ok (.if_icmp .ne 6, 3) := by decide +kernel
theorem dX1_speak_42 : decode cX1_speak 42 = .ok (.goto 50, 3) := by decide +kernel
theorem dX1_speak_45 : decode cX1_speak 45 = .ok (.aload_n 1, 1) := by decide +kernel
theorem dX1_speak_46 : decode cX1_speak 46 = .ok (.aload_n 0, 1) := by decide +kernel
theorem dX1_speak_47 : decode cX1_speak 47 = .ok (.getfield 21, 3) := by decide +kernel
theorem dX1_speak_50 : decode cX1_speak 50 = .ok (.iload_n 2, 1) := by decide +kernel
theorem dX1_speak_51 : decode cX1_speak 51 = .ok (.iaload, 1) := by decide +kernel
theorem dX1_speak_52 : decode cX1_speak 52 = .ok (.iload_n 3, 1) := by decide +kernel
theorem dX1_speak_53 : decode cX1_speak 53 = .ok (.iload 4, 2) := by decide +kernel
theorem dX1_speak_55 : decode cX1_speak 55 = .ok (.aload_n 0, 1) := by decide +kernel
theorem dX1_speak_56 : decode cX1_speak 56 = .ok (.getfield 9, 3) := by decide +kernel
theorem dX1_speak_59 : decode cX1_speak 59 = .ok (.aload_n 0, 1) := by decide +kernel
theorem dX1_speak_60 : decode cX1_speak 60 = .ok (.getfield 21, 3) := by decide +kernel
theorem dX1_speak_63 : decode cX1_speak 63 = .ok (.iload 6, 2) := by decide +kernel
theorem dX1_speak_65 : decode cX1_speak 65 = .ok (.iaload, 1) := by decide +kernel
theorem dX1_speak_66 : decode cX1_speak 66 = .ok (.iload 5, 2) := by decide +kernel
theorem dX1_speak_68 : decode cX1_speak 68 = .ok (.invokevirtual 107, 3) := by decide +kernel
theorem dX1_speak_71 : decode cX1_speak 71 = .ok (.istore 7, 2) := by decide +kernel
theorem dX1_speak_73 : decode cX1_speak 73 = .ok (.aload_n 0, 1) := by decide +kernel
theorem dX1_speak_74 : decode cX1_speak 74 = .ok (.iload 6, 2) := by decide +kernel
theorem dX1_speak_76 : decode cX1_speak 76 = .ok (.iload 7, 2) := by decide +kernel
theorem dX1_speak_78 : decode cX1_speak 78 = .ok (.aload_n 1, 1) := by decide +kernel
theorem dX1_speak_79 : decode cX1_speak 79 = .ok (.iload_n 3, 1) := by decide +kernel
theorem dX1_speak_80 : decode cX1_speak 80 = .ok (.aload_n 0, 1) := by decide +kernel
theorem dX1_speak_81 : decode cX1_speak 81 = .ok (.getfield 9, 3) := by decide +kernel
theorem dX1_speak_84 : decode cX1_speak 84 = .ok (.iload 5, 2) := by decide +kernel
theorem dX1_speak_86 : decode cX1_speak 86 = .ok (.invokevirtual 111, 3) := by decide +kernel
theorem dX1_speak_89 : decode cX1_speak 89 = .ok (.invokevirtual 115, 3) := by decide +kernel
theorem dX1_speak_92 : decode cX1_speak 92 = .ok (.iinc 6 1, 3) := by decide +kernel
theorem dX1_speak_95 : decode cX1_speak 95 = .ok (.goto (-73), 3) := by decide +kernel
theorem dX1_speak_98 : decode cX1_speak 98 = .ok (.iinc 5 1, 3) := by decide +kernel
theorem dX1_speak_101 : decode cX1_speak 101 = .ok (.goto (-88), 3) := by decide +kernel
theorem dX1_speak_104 : decode cX1_speak 104 = .ok (.return_, 1) := by decide +kernel
noncomputable def fX1_speak_b45 (m12 : zM) (x0 : Nat) (x2 : Int32) (x6_11 : Int32) (x1 : Nat) (x3 : Int32) (x4 : Int32) (x5_5 : Int32) : Option (zM) :=
  zb1 (zm_gR m12 1 x0 3) fun v21 =>
  zb1 (zm_aI m12 0 v21 x2) fun v23 =>
  zb1 (zm_gI m12 1 x0 0) fun v25 =>
  zb1 (zm_gR m12 1 x0 3) fun v27 =>
  zb1 (zm_aI m12 0 v27 x6_11) fun v29 =>
  zb1 (fX9_arrival m12 x1 v23 x3 x4 v25 v29 x5_5) fun v32 =>
  zb1 (zm_gI m12 1 x0 0) fun v33 =>
  zb1 (fX9_wordBy m12 x1 x3 v33 x5_5) fun v36 =>
  zb1 (fX1_hear m12 x0 x6_11 v32 v36) fun m38 =>
  some m38
noncomputable def fX1_speak_l22 (x1 : Nat) (x5_5 : Int32) (x2 : Int32) (x0 : Nat) (x3 : Int32) (x4 : Int32) (F13 : Int32 → zM → Option (zM)) (x6_11 : Int32) (m12 : zM) : Option (zM) :=
  zb1 (zm_gI m12 9 x1 4) fun v17 =>
  if v17 ≤ x6_11 then (
  some m12)
  else (
  zc1 (if x5_5 = 0 then (
  if x6_11 = x2 then (
  some m12)
  else (
  fX1_speak_b45 m12 x0 x2 x6_11 x1 x3 x4 x5_5))
  else (
  fX1_speak_b45 m12 x0 x2 x6_11 x1 x3 x4 x5_5) : Option (zM)) fun (m19 : zM) =>
  F13 (x6_11 + 1) m19)
noncomputable def fX1_speak_l13 (x1 : Nat) (x2 : Int32) (x0 : Nat) (x3 : Int32) (x4 : Int32) (F7 : Int32 → zM → Option (zM)) (x5_5 : Int32) (m6 : zM) : Option (zM) :=
  if 2 < x5_5 then (
  some m6)
  else (
  zb1 (zf2 (fX1_speak_l22 x1 x5_5 x2 x0 x3 x4) zfu 0 m6 : Option (zM)) fun (m15 : zM) =>
  F7 (x5_5 + 1) m15)
noncomputable def fX1_speak (μ : zM) (x0 : Nat) (x1 : Nat) (x2 : Int32) (x3 : Int32) (x4 : Int32) : Option (zM) := zgd (zm_ck μ 1 x0) <|
  zb1 (zm_gI μ 1 x0 1) fun v1 =>
  zb1 (zm_p μ 1 x0 1 (.int (v1 + 1))) fun m3 =>
  zb1 (zf2 (fX1_speak_l13 x1 x2 x0 x3 x4) zfu 0 m3 : Option (zM)) fun (m9 : zM) =>
  some m9
theorem fX1_speak_ck {μ : zM} {x0 : Nat} {x1 : Nat} {x2 : Int32} {x3 : Int32} {x4 : Int32} {z : zM} (h : fX1_speak μ x0 x1 x2 x3 x4 = some z) : zm_ck μ 1 x0 = true := (zgd_s h).1
set_option maxHeartbeats 4000000 in
set_option maxRecDepth 100000 in
theorem cX1_speak_ok {μ : zM} {x0 : Nat} {x1 : Nat} {x2 : Int32} {x3 : Int32} {x4 : Int32} {mo : zM} (hf : fX1_speak μ x0 x1 x2 x3 x4 = some mo) : zC yX1_speak cX1_speak 8 (none) 3 0 0 [.ref x0, .ref x1, .int x2, .int x3, .int x4] μ (none) mo := by
  replace hf := (zgd_s hf).2
  refine zC.of (by decide) (Nat.le_of_ble_eq_true rfl) (fun K hin => ?_)
  clear hin
  show zz K cX1_speak (8, RX1, none, 3, 0, 0, none, mo) 0 0 0 [(0, .ref x0), (1, .ref x1), (2, .int x2), (3, .int x3), (4, .int x4)] [] μ
  refine zr_aload_n 0 dX1_speak_0 rfl ?_
  refine zr_dup dX1_speak_1 rfl ?_
  replace hf := zb1_s hf
  obtain ⟨v1, h2, hf⟩ := hf
  refine zr_get (zm_gI_g h2) zk1 (by decide) zl_92 dX1_speak_2 ?_
  refine zr_iconst 1 dX1_speak_5 (by decide) ?_
  refine zr_iadd dX1_speak_6 ?_
  replace hf := zb1_s hf
  obtain ⟨m3, h4, hf⟩ := hf
  refine zr_put h4 zk1 (by decide) zl_92 rfl rfl rfl dX1_speak_7 ?_
  refine zr_iconst 0 dX1_speak_10 (by decide) ?_
  refine zr_istore [(5, .int 0), (0, .ref x0), (1, .ref x1), (2, .int x2), (3, .int x3), (4, .int x4)] dX1_speak_11 (Nat.le_of_ble_eq_true rfl) rfl ?_
  replace hf := zb1_s hf
  obtain ⟨m9, hg, hf⟩ := hf
  have hj10 : zz K cX1_speak (8, RX1, none, 3, 0, 0, none, mo) 0 0 104 [] [] m9 := by
    cases hf
    exact zr_vret dX1_speak_104
  clear hf
  have hf := hg
  clear hg
  have hL41 : ∀ (n : Nat) (x5_5 : Int32) (m6 : zM), zf2 (fX1_speak_l13 x1 x2 x0 x3 x4) n x5_5 m6 = some m9 → zz K cX1_speak (8, RX1, none, 3, 0, 0, none, mo) 0 0 13 [(0, .ref x0), (1, .ref x1), (2, .int x2), (3, .int x3), (4, .int x4), (5, .int x5_5)] [] m6 := by
    intro n
    induction n with
    | zero => intro x5_5 m6 hf; cases hf
    | succ n ih8 =>
      intro x5_5 m6 hf
      replace hf := zf2_s hf
      generalize zf2 (fX1_speak_l13 x1 x2 x0 x3 x4) n = F7 at hf ih8
      unfold fX1_speak_l13 at hf
      refine zr_iload 5 dX1_speak_13 rfl ?_
      refine zr_iconst 2 dX1_speak_15 (by decide) ?_
      refine zr_icmp_gt 104 dX1_speak_16 (by decide) (fun hc => ?_) (fun hc => ?_)
      · rw [if_pos hc] at hf
        cases hf
        exact zr_lv [] rfl hj10
      · rw [if_neg hc] at hf
        refine zr_iconst 0 dX1_speak_19 (by decide) ?_
        refine zr_istore [(6, .int 0), (0, .ref x0), (1, .ref x1), (2, .int x2), (3, .int x3), (4, .int x4), (5, .int x5_5)] dX1_speak_20 (Nat.le_of_ble_eq_true rfl) rfl ?_
        replace hf := zb1_s hf
        obtain ⟨m15, hg, hf⟩ := hf
        have hj16 : zz K cX1_speak (8, RX1, none, 3, 0, 0, none, mo) 0 0 98 [(0, .ref x0), (1, .ref x1), (2, .int x2), (3, .int x3), (4, .int x4), (5, .int x5_5)] [] m15 := by
          refine zr_iinc (j := 5) (x5_5 + 1) [(5, .int (x5_5 + 1)), (0, .ref x0), (1, .ref x1), (2, .int x2), (3, .int x3), (4, .int x4)] dX1_speak_98 rfl rfl (Nat.le_of_ble_eq_true rfl) rfl ?_
          refine zr_goto 13 dX1_speak_101 (by decide) ?_
          exact zr_lv [1, 2, 3, 4, 5, 0] rfl (ih8 (x5_5 + 1) m15 hf)
        clear hf
        have hf := hg
        clear hg
        have hL40 : ∀ (n : Nat) (x6_11 : Int32) (m12 : zM), zf2 (fX1_speak_l22 x1 x5_5 x2 x0 x3 x4) n x6_11 m12 = some m15 → zz K cX1_speak (8, RX1, none, 3, 0, 0, none, mo) 0 0 22 [(0, .ref x0), (1, .ref x1), (2, .int x2), (3, .int x3), (4, .int x4), (5, .int x5_5), (6, .int x6_11)] [] m12 := by
          intro n
          induction n with
          | zero => intro x6_11 m12 hf; cases hf
          | succ n ih14 =>
            intro x6_11 m12 hf
            replace hf := zf2_s hf
            generalize zf2 (fX1_speak_l22 x1 x5_5 x2 x0 x3 x4) n = F13 at hf ih14
            unfold fX1_speak_l22 at hf
            refine zr_iload 6 dX1_speak_22 rfl ?_
            refine zr_aload_n 1 dX1_speak_24 rfl ?_
            replace hf := zb1_s hf
            obtain ⟨v17, h18, hf⟩ := hf
            refine zr_get (zm_gI_g h18) zk9 (by decide) zl_121 dX1_speak_25 ?_
            refine zr_icmp_ge 98 dX1_speak_28 (by decide) (fun hc => ?_) (fun hc => ?_)
            · rw [if_pos hc] at hf
              cases hf
              exact zr_lv [0, 1, 2, 3, 4, 5] rfl hj16
            · rw [if_neg hc] at hf
              refine zr_iload 5 dX1_speak_31 rfl ?_
              replace hf := zc1_s hf
              obtain ⟨m19, hg, hf⟩ := hf
              have hj20 : zz K cX1_speak (8, RX1, none, 3, 0, 0, none, mo) 0 0 92 [(0, .ref x0), (1, .ref x1), (2, .int x2), (3, .int x3), (4, .int x4), (5, .int x5_5), (6, .int x6_11)] [] m19 := by
                refine zr_iinc (j := 6) (x6_11 + 1) [(6, .int (x6_11 + 1)), (0, .ref x0), (1, .ref x1), (2, .int x2), (3, .int x3), (4, .int x4), (5, .int x5_5)] dX1_speak_92 rfl rfl (Nat.le_of_ble_eq_true rfl) rfl ?_
                refine zr_goto 22 dX1_speak_95 (by decide) ?_
                exact zr_lv [1, 2, 3, 4, 5, 6, 0] rfl (ih14 (x6_11 + 1) m19 hf)
              clear hf
              have hf := hg
              clear hg
              have hb39 : ∀ (_ : Unit), fX1_speak_b45 m12 x0 x2 x6_11 x1 x3 x4 x5_5 = some m19 → zz K cX1_speak (8, RX1, none, 3, 0, 0, none, mo) 0 0 45 [(0, .ref x0), (1, .ref x1), (2, .int x2), (3, .int x3), (4, .int x4), (5, .int x5_5), (6, .int x6_11)] [] m12 := by
                intro _ hf
                unfold fX1_speak_b45 at hf
                refine zr_aload_n 1 dX1_speak_45 rfl ?_
                refine zr_aload_n 0 dX1_speak_46 rfl ?_
                replace hf := zb1_s hf
                obtain ⟨v21, h22, hf⟩ := hf
                refine zr_get (zm_gR_g h22) zk1 (by decide) zl_94 dX1_speak_47 ?_
                refine zr_iload_n 2 dX1_speak_50 rfl ?_
                replace hf := zb1_s hf
                obtain ⟨v23, h24, hf⟩ := hf
                refine zr_iald h24 dX1_speak_51 ?_
                refine zr_iload_n 3 dX1_speak_52 rfl ?_
                refine zr_iload 4 dX1_speak_53 rfl ?_
                refine zr_aload_n 0 dX1_speak_55 rfl ?_
                replace hf := zb1_s hf
                obtain ⟨v25, h26, hf⟩ := hf
                refine zr_get (zm_gI_g h26) zk1 (by decide) zl_91 dX1_speak_56 ?_
                refine zr_aload_n 0 dX1_speak_59 rfl ?_
                replace hf := zb1_s hf
                obtain ⟨v27, h28, hf⟩ := hf
                refine zr_get (zm_gR_g h28) zk1 (by decide) zl_94 dX1_speak_60 ?_
                refine zr_iload 6 dX1_speak_63 rfl ?_
                replace hf := zb1_s hf
                obtain ⟨v29, h30, hf⟩ := hf
                refine zr_iald h30 dX1_speak_65 ?_
                refine zr_iload 5 dX1_speak_66 rfl ?_
                replace hf := zb1_s hf
                obtain ⟨v32, h31, hf⟩ := hf
                refine zr_callV (ci := 9) [.int v23, .int x3, .int x4, .int v25, .int v29, .int x5_5] (cX9_arrival_ok h31) zvs_X9_arrival zl_124 zl_125 (fX9_arrival_ck h31) rfl rfl zl_123 rfl (Nat.le_of_ble_eq_true rfl) (Nat.le_of_ble_eq_true rfl) (Nat.le_of_ble_eq_true rfl) (Nat.le_of_ble_eq_true rfl) dX1_speak_68 rfl ?_
                refine zr_istore [(7, .int v32), (0, .ref x0), (1, .ref x1), (2, .int x2), (3, .int x3), (4, .int x4), (5, .int x5_5), (6, .int x6_11)] dX1_speak_71 (Nat.le_of_ble_eq_true rfl) rfl ?_
                refine zr_aload_n 1 dX1_speak_73 rfl ?_
                refine zr_iload 7 dX1_speak_74 rfl ?_
                refine zr_iload 0 dX1_speak_76 rfl ?_
                refine zr_aload_n 2 dX1_speak_78 rfl ?_
                refine zr_iload_n 4 dX1_speak_79 rfl ?_
                refine zr_aload_n 1 dX1_speak_80 rfl ?_
                replace hf := zb1_s hf
                obtain ⟨v33, h34, hf⟩ := hf
                refine zr_get (zm_gI_g h34) zk1 (by decide) zl_91 dX1_speak_81 ?_
                refine zr_iload 6 dX1_speak_84 rfl ?_
                replace hf := zb1_s hf
                obtain ⟨v36, h35, hf⟩ := hf
                refine zr_callV (ci := 9) [.int x3, .int v33, .int x5_5] (cX9_wordBy_ok h35) zvs_X9_wordBy zl_128 zl_129 (fX9_wordBy_ck h35) rfl rfl zl_127 rfl (Nat.le_of_ble_eq_true rfl) (Nat.le_of_ble_eq_true rfl) (Nat.le_of_ble_eq_true rfl) (Nat.le_of_ble_eq_true rfl) dX1_speak_86 rfl ?_
                replace hf := zb1_s hf
                obtain ⟨m38, h37, hf⟩ := hf
                refine zr_callV (ci := 1) [.int x6_11, .int v32, .int v36] (cX1_hear_ok h37) zvs_X1_hear zl_132 zl_133 (fX1_hear_ck h37) rfl rfl zl_131 rfl (Nat.le_of_ble_eq_true rfl) (Nat.le_of_ble_eq_true rfl) (Nat.le_of_ble_eq_true rfl) (Nat.le_of_ble_eq_true rfl) dX1_speak_89 rfl ?_
                cases hf
                exact zr_lv [1, 2, 3, 4, 5, 6, 7] rfl hj20
              refine zr_if_ne 45 dX1_speak_33 (by decide) (fun hc => ?_) (fun hc => ?_)
              · rw [if_neg hc] at hf
                exact zr_lv [0, 1, 2, 3, 4, 5, 6] rfl (hb39 () hf)
              · rw [if_pos hc] at hf
                refine zr_iload 6 dX1_speak_36 rfl ?_
                refine zr_iload_n 2 dX1_speak_38 rfl ?_
                refine zr_icmp_ne 45 dX1_speak_39 (by decide) (fun hc => ?_) (fun hc => ?_)
                · rw [if_neg hc] at hf
                  exact zr_lv [0, 1, 2, 3, 4, 5, 6] rfl (hb39 () hf)
                · rw [if_pos hc] at hf
                  refine zr_goto 92 dX1_speak_42 (by decide) ?_
                  cases hf
                  exact zr_lv [0, 1, 2, 3, 4, 5, 6] rfl hj20
        exact zr_lv [1, 2, 3, 4, 5, 6, 0] rfl (hL40 _ 0 m6 hf)
  exact zr_lv [1, 2, 3, 4, 5, 0] rfl (hL41 _ 0 m3 hf)
theorem zl_134 : Cond.code yX9_hasPerson cX9_hasPerson 2 (some .boolean) ∈ zt := zt_at 781 (by decide +kernel)
theorem zvs_X9_hasPerson : zvS yX9_hasPerson cX9_hasPerson 2 (some .boolean) 1 := ⟨zl_134, zl_14, ⟨by decide +kernel, by decide +kernel, by decide +kernel⟩, by decide⟩
theorem zl_135 : Cond.methodLink RX1 88 yX9_hasPerson ∈ zt := zt_at 865 (by decide +kernel)
theorem zl_136 : Cond.instanceMethod yX9_hasPerson ∈ zt := zt_at 779 (by decide +kernel)
theorem zl_137 : Cond.selects RX9 yX9_hasPerson yX9_hasPerson ∈ zt := zt_at 780 (by decide +kernel)
theorem zl_138 : Cond.code yX1_speak cX1_speak 8 (none) ∈ zt := zt_at 875 (by decide +kernel)
theorem zvs_X1_speak : zvS yX1_speak cX1_speak 8 (none) 4 := ⟨zl_138, zl_110, ⟨by decide +kernel, by decide +kernel, by decide +kernel⟩, by decide⟩
theorem zl_139 : Cond.methodLink RX1 95 yX1_speak ∈ zt := zt_at 872 (by decide +kernel)
theorem zl_140 : Cond.instanceMethod yX1_speak ∈ zt := zt_at 874 (by decide +kernel)
theorem zl_141 : Cond.selects RX1 yX1_speak yX1_speak ∈ zt := zt_at 24 (by decide +kernel)
theorem zl_142 : Cond.code yX1_walk cX1_walk 4 (some .boolean) ∈ zt := zt_at 869 (by decide +kernel)
theorem zvs_X1_walk : zvS yX1_walk cX1_walk 4 (some .boolean) 3 := ⟨zl_142, zl_110, ⟨by decide +kernel, by decide +kernel, by decide +kernel⟩, by decide⟩
theorem zl_143 : Cond.methodLink RX1 91 yX1_walk ∈ zt := zt_at 866 (by decide +kernel)
theorem zl_144 : Cond.instanceMethod yX1_walk ∈ zt := zt_at 868 (by decide +kernel)
theorem zl_145 : Cond.selects RX1 yX1_walk yX1_walk ∈ zt := zt_at 23 (by decide +kernel)
theorem dX1_perform_0 : decode cX1_perform 0 = .ok (.iload_n 2, 1) := by decide +kernel
theorem dX1_perform_1 : decode cX1_perform 1 = .ok (.iconst 4, 1) := by decide +kernel
theorem dX1_perform_2 : decode cX1_perform 2 = .ok (.if_icmp .ne 9, 3) := by decide +kernel
theorem dX1_perform_5 : decode cX1_perform 5 = .ok (.aload_n 0, 1) := by decide +kernel
theorem dX1_perform_6 : decode cX1_perform 6 = .ok (.iload_n 3, 1) := by decide +kernel
theorem dX1_perform_7 : decode cX1_perform 7 = .ok (.invokevirtual 84, 3) := by decide +kernel
theorem dX1_perform_10 : decode cX1_perform 10 = .ok (.ireturn, 1) := by decide +kernel
theorem dX1_perform_11 : decode cX1_perform 11 = .ok (.aload_n 1, 1) := by decide +kernel
theorem dX1_perform_12 : decode cX1_perform 12 = .ok (.iload_n 3, 1) := by decide +kernel
theorem dX1_perform_13 : decode cX1_perform 13 = .ok (.invokevirtual 88, 3) := by decide +kernel
theorem dX1_perform_16 : decode cX1_perform 16 = .ok (.ifCond .ne 5, 3) := by decide +kernel
theorem dX1_perform_19 : decode cX1_perform 19 = .ok (.iconst 0, 1) := by decide +kernel
theorem dX1_perform_20 : decode cX1_perform 20 = .ok (.ireturn, 1) := by decide +kernel
theorem dX1_perform_21 : decode cX1_perform 21 = .ok (.iload_n 2, 1) := by decide +kernel
theorem dX1_perform_22 : decode cX1_perform 22 = .ok (.iconst 3, 1) := by decide +kernel
theorem dX1_perform_23 : decode cX1_perform 23 = .ok (.if_icmp .ne 12, 3) := by decide +kernel
theorem dX1_perform_26 : decode cX1_perform 26 = .ok (.aload_n 0, 1) := by decide +kernel
theorem dX1_perform_27 : decode cX1_perform 27 = .ok (.aload_n 1, 1) := by decide +kernel
theorem dX1_perform_28 : decode cX1_perform 28 = .ok (.iload_n 3, 1) := by decide +kernel
theorem dX1_perform_29 : decode cX1_perform 29 = .ok (.iload 4, 2) := by decide +kernel
theorem dX1_perform_31 : decode cX1_perform 31 = .ok (.invokevirtual 91, 3) := by decide +kernel
theorem dX1_perform_34 : decode cX1_perform 34 = .ok (.ireturn, 1) := by decide +kernel
theorem dX1_perform_35 : decode cX1_perform 35 = .ok (.aload_n 0, 1) := by decide +kernel
theorem dX1_perform_36 : decode cX1_perform 36 = .ok (.aload_n 1, 1) := by decide +kernel
theorem dX1_perform_37 : decode cX1_perform 37 = .ok (.iload_n 3, 1) := by decide +kernel
theorem dX1_perform_38 : decode cX1_perform 38 = .ok (.iload 4, 2) := by decide +kernel
theorem dX1_perform_40 : decode cX1_perform 40 = .ok (.iload_n 2, 1) := by decide +kernel
theorem dX1_perform_41 : decode cX1_perform 41 = .ok (.invokevirtual 95, 3) := by decide +kernel
theorem dX1_perform_44 : decode cX1_perform 44 = .ok (.iconst 1, 1) := by decide +kernel
theorem dX1_perform_45 : decode cX1_perform 45 = .ok (.ireturn, 1) := by decide +kernel
noncomputable def fX1_perform (μ : zM) (x0 : Nat) (x1 : Nat) (x2 : Int32) (x3 : Int32) (x4 : Int32) : Option (Int32 × zM) := zgd (zm_ck μ 1 x0) <|
  if x2 = 4 then (
  zb2 (fX1_pass μ x0 x3) fun v12 m11 =>
  zb1 (zbz v12) fun v13 =>
  some (v13, m11))
  else (
  zb1 (fX9_hasPerson μ x1 x3) fun v2 =>
  if v2 = 0 then (
  some (0, μ))
  else (
  if x2 = 3 then (
  zb2 (fX1_walk μ x0 x1 x3 x4) fun v7 m6 =>
  zb1 (zbz v7) fun v8 =>
  some (v8, m6))
  else (
  zb1 (fX1_speak μ x0 x1 x3 x4 x2) fun m4 =>
  some (1, m4))))
theorem fX1_perform_ck {μ : zM} {x0 : Nat} {x1 : Nat} {x2 : Int32} {x3 : Int32} {x4 : Int32} {z : Int32 × zM} (h : fX1_perform μ x0 x1 x2 x3 x4 = some z) : zm_ck μ 1 x0 = true := (zgd_s h).1
set_option maxHeartbeats 4000000 in
set_option maxRecDepth 100000 in
theorem cX1_perform_ok {μ : zM} {x0 : Nat} {x1 : Nat} {x2 : Int32} {x3 : Int32} {x4 : Int32} {r : Int32} {mo : zM} (hf : fX1_perform μ x0 x1 x2 x3 x4 = some (r, mo)) : zC yX1_perform cX1_perform 5 (some .boolean) 4 0 0 [.ref x0, .ref x1, .int x2, .int x3, .int x4] μ (some (.int r)) mo := by
  replace hf := (zgd_s hf).2
  refine zC.of (by decide) (Nat.le_of_ble_eq_true rfl) (fun K hin => ?_)
  clear hin
  show zz K cX1_perform (5, RX1, some .boolean, 4, 0, 0, some (.int r), mo) 0 0 0 [(0, .ref x0), (1, .ref x1), (2, .int x2), (3, .int x3), (4, .int x4)] [] μ
  refine zr_iload_n 2 dX1_perform_0 rfl ?_
  refine zr_iconst 4 dX1_perform_1 (by decide) ?_
  refine zr_icmp_ne 11 dX1_perform_2 (by decide) (fun hc => ?_) (fun hc => ?_)
  · rw [if_neg hc] at hf
    refine zr_aload_n 1 dX1_perform_11 rfl ?_
    refine zr_iload_n 3 dX1_perform_12 rfl ?_
    replace hf := zb1_s hf
    obtain ⟨v2, h1, hf⟩ := hf
    refine zr_callV (ci := 9) [.int x3] (cX9_hasPerson_ok h1) zvs_X9_hasPerson zl_136 zl_137 (fX9_hasPerson_ck h1) rfl rfl zl_135 rfl (Nat.le_of_ble_eq_true rfl) (Nat.le_of_ble_eq_true rfl) (Nat.le_of_ble_eq_true rfl) (Nat.le_of_ble_eq_true rfl) dX1_perform_13 rfl ?_
    refine zr_if_ne 21 dX1_perform_16 (by decide) (fun hc => ?_) (fun hc => ?_)
    · rw [if_neg hc] at hf
      refine zr_iload_n 2 dX1_perform_21 rfl ?_
      refine zr_iconst 3 dX1_perform_22 (by decide) ?_
      refine zr_icmp_ne 35 dX1_perform_23 (by decide) (fun hc => ?_) (fun hc => ?_)
      · rw [if_neg hc] at hf
        refine zr_aload_n 0 dX1_perform_35 rfl ?_
        refine zr_aload_n 1 dX1_perform_36 rfl ?_
        refine zr_iload_n 3 dX1_perform_37 rfl ?_
        refine zr_iload 4 dX1_perform_38 rfl ?_
        refine zr_iload_n 2 dX1_perform_40 rfl ?_
        replace hf := zb1_s hf
        obtain ⟨m4, h3, hf⟩ := hf
        refine zr_callV (ci := 1) [.ref x1, .int x3, .int x4, .int x2] (cX1_speak_ok h3) zvs_X1_speak zl_140 zl_141 (fX1_speak_ck h3) rfl rfl zl_139 rfl (Nat.le_of_ble_eq_true rfl) (Nat.le_of_ble_eq_true rfl) (Nat.le_of_ble_eq_true rfl) (Nat.le_of_ble_eq_true rfl) dX1_perform_41 rfl ?_
        refine zr_iconst 1 dX1_perform_44 (by decide) ?_
        cases hf
        exact zr_zret rfl dX1_perform_45
      · rw [if_pos hc] at hf
        refine zr_aload_n 0 dX1_perform_26 rfl ?_
        refine zr_aload_n 1 dX1_perform_27 rfl ?_
        refine zr_iload_n 3 dX1_perform_28 rfl ?_
        refine zr_iload 4 dX1_perform_29 rfl ?_
        replace hf := zb2_s hf
        obtain ⟨v7, m6, h5, hf⟩ := hf
        refine zr_callV (ci := 1) [.ref x1, .int x3, .int x4] (cX1_walk_ok h5) zvs_X1_walk zl_144 zl_145 (fX1_walk_ck h5) rfl rfl zl_143 rfl (Nat.le_of_ble_eq_true rfl) (Nat.le_of_ble_eq_true rfl) (Nat.le_of_ble_eq_true rfl) (Nat.le_of_ble_eq_true rfl) dX1_perform_31 rfl ?_
        replace hf := zb1_s hf
        obtain ⟨v8, hn9, hf⟩ := hf
        replace hn9 := zbz_s hn9
        obtain ⟨hn9, rfl⟩ := hn9
        cases hf
        exact zr_zret hn9 dX1_perform_34
    · rw [if_pos hc] at hf
      refine zr_iconst 0 dX1_perform_19 (by decide) ?_
      cases hf
      exact zr_zret rfl dX1_perform_20
  · rw [if_pos hc] at hf
    refine zr_aload_n 0 dX1_perform_5 rfl ?_
    refine zr_iload_n 3 dX1_perform_6 rfl ?_
    replace hf := zb2_s hf
    obtain ⟨v12, m11, h10, hf⟩ := hf
    refine zr_callV (ci := 1) [.int x3] (cX1_pass_ok h10) zvs_X1_pass zl_112 zl_113 (fX1_pass_ck h10) rfl rfl zl_111 rfl (Nat.le_of_ble_eq_true rfl) (Nat.le_of_ble_eq_true rfl) (Nat.le_of_ble_eq_true rfl) (Nat.le_of_ble_eq_true rfl) dX1_perform_7 rfl ?_
    replace hf := zb1_s hf
    obtain ⟨v13, hn14, hf⟩ := hf
    replace hn14 := zbz_s hn14
    obtain ⟨hn14, rfl⟩ := hn14
    cases hf
    exact zr_zret hn14 dX1_perform_10
theorem zl_146 : Cond.code yX1_begin cX1_begin 2 (none) ∈ zt := zt_at 854 (by decide +kernel)
theorem zvs_X1_begin : zvS yX1_begin cX1_begin 2 (none) 1 := ⟨zl_146, zl_110, ⟨by decide +kernel, by decide +kernel, by decide +kernel⟩, by decide⟩
theorem zl_147 : Cond.methodLink RX1 31 yX1_begin ∈ zt := zt_at 851 (by decide +kernel)
theorem zl_148 : Cond.instanceMethod yX1_begin ∈ zt := zt_at 853 (by decide +kernel)
theorem zl_149 : Cond.selects RX1 yX1_begin yX1_begin ∈ zt := zt_at 20 (by decide +kernel)
theorem zl_150 : Cond.fieldLink RX1 35 "TwoEchoes$Day" "deeds" "I" ∈ zt := zt_at 246 (by decide +kernel)
theorem zl_151 : Cond.fieldLink RX1 40 "TwoEchoes$Day" "act" "[I" ∈ zt := zt_at 250 (by decide +kernel)
theorem zl_152 : Cond.fieldLink RX1 43 "TwoEchoes$Day" "first" "[I" ∈ zt := zt_at 252 (by decide +kernel)
theorem zl_153 : Cond.fieldLink RX1 46 "TwoEchoes$Day" "second" "[I" ∈ zt := zt_at 254 (by decide +kernel)
theorem zl_154 : Cond.code yX1_perform cX1_perform 5 (some .boolean) ∈ zt := zt_at 860 (by decide +kernel)
theorem zvs_X1_perform : zvS yX1_perform cX1_perform 5 (some .boolean) 4 := ⟨zl_154, zl_110, ⟨by decide +kernel, by decide +kernel, by decide +kernel⟩, by decide⟩
theorem zl_155 : Cond.methodLink RX1 49 yX1_perform ∈ zt := zt_at 857 (by decide +kernel)
theorem zl_156 : Cond.instanceMethod yX1_perform ∈ zt := zt_at 859 (by decide +kernel)
theorem zl_157 : Cond.selects RX1 yX1_perform yX1_perform ∈ zt := zt_at 21 (by decide +kernel)
theorem dX1_follow_0 : decode cX1_follow 0 = .ok (.aload_n 0, 1) := by decide +kernel
theorem dX1_follow_1 : decode cX1_follow 1 = .ok (.aload_n 1, 1) := by decide +kernel
theorem dX1_follow_2 : decode cX1_follow 2 = .ok (.invokevirtual 31, 3) := by decide +kernel
theorem dX1_follow_5 : decode cX1_follow 5 = .ok (.iconst 0, 1) := by decide +kernel
theorem dX1_follow_6 : decode cX1_follow 6 = .ok (.istore 4, 2) := by decide +kernel
theorem dX1_follow_8 : decode cX1_follow 8 = .ok (.iload 4, 2) := by decide +kernel
theorem dX1_follow_10 : decode cX1_follow 10 = .ok (.iload_n 3, 1) := by decide +kernel
theorem dX1_follow_11 : decode cX1_follow 11 = .ok (.if_icmp .ge 47, 3) := by decide +kernel
theorem dX1_follow_14 : decode cX1_follow 14 = .ok (.iload 4, 2) := by decide +kernel
theorem dX1_follow_16 : decode cX1_follow 16 = .ok (.aload_n 2, 1) := by decide +kernel
theorem dX1_follow_17 : decode cX1_follow 17 = .ok (.getfield 35, 3) := by decide +kernel
theorem dX1_follow_20 : decode cX1_follow 20 = .ok (.if_icmp .ge 38, 3) := by decide +kernel
theorem dX1_follow_23 : decode cX1_follow 23 = .ok (.aload_n 0, 1) := by decide +kernel
theorem dX1_follow_24 : decode cX1_follow 24 = .ok (.aload_n 1, 1) := by decide +kernel
theorem dX1_follow_25 : decode cX1_follow 25 = .ok (.aload_n 2, 1) := by decide +kernel
theorem dX1_follow_26 : decode cX1_follow 26 = .ok (.getfield 40, 3) := by decide +kernel
theorem dX1_follow_29 : decode cX1_follow 29 = .ok (.iload 4, 2) := by decide +kernel
theorem dX1_follow_31 : decode cX1_follow 31 = .ok (.iaload, 1) := by decide +kernel
theorem dX1_follow_32 : decode cX1_follow 32 = .ok (.aload_n 2, 1) := by decide +kernel
theorem dX1_follow_33 : decode cX1_follow 33 = .ok (.getfield 43, 3) := by decide +kernel
theorem dX1_follow_36 : decode cX1_follow 36 = .ok (.iload 4, 2) := by decide +kernel
theorem dX1_follow_38 : decode cX1_follow 38 = .ok (.iaload, 1) := by decide +kernel
theorem dX1_follow_39 : decode cX1_follow 39 = .ok (.aload_n 2, 1) := by decide +kernel
theorem dX1_follow_40 : decode cX1_follow 40 = .ok (.getfield 46, 3) := by decide +kernel
theorem dX1_follow_43 : decode cX1_follow 43 = .ok (.iload 4, 2) := by decide +kernel
theorem dX1_follow_45 : decode cX1_follow 45 = .ok (.iaload, 1) := by decide +kernel
theorem dX1_follow_46 : decode cX1_follow 46 = .ok (.invokevirtual 49, 3) := by decide +kernel
theorem dX1_follow_49 : decode cX1_follow 49 = .ok (.ifCond .eq 9, 3) := by decide +kernel
theorem dX1_follow_52 : decode cX1_follow 52 = .ok (.iinc 4 1, 3) := by decide +kernel
theorem dX1_follow_55 : decode cX1_follow 55 = .ok (.goto (-47), 3) := by decide +kernel
theorem dX1_follow_58 : decode cX1_follow 58 = .ok (.iload 4, 2) := by decide +kernel
theorem dX1_follow_60 : decode cX1_follow 60 = .ok (.ireturn, 1) := by decide +kernel
noncomputable def fX1_follow_l8 (x3 : Int32) (x2 : Nat) (x0 : Nat) (x1 : Nat) (F5 : Int32 → zM → Option (Int32 × zM)) (x4_3 : Int32) (m4 : zM) : Option (Int32 × zM) :=
  if x3 ≤ x4_3 then (
  some (x4_3, m4))
  else (
  zb1 (zm_gI m4 2 x2 0) fun v10 =>
  if v10 ≤ x4_3 then (
  some (x4_3, m4))
  else (
  zb1 (zm_gR m4 2 x2 1) fun v12 =>
  zb1 (zm_aI m4 0 v12 x4_3) fun v14 =>
  zb1 (zm_gR m4 2 x2 2) fun v16 =>
  zb1 (zm_aI m4 0 v16 x4_3) fun v18 =>
  zb1 (zm_gR m4 2 x2 3) fun v20 =>
  zb1 (zm_aI m4 0 v20 x4_3) fun v22 =>
  zb2 (fX1_perform m4 x0 x1 v14 v18 v22) fun v26 m25 =>
  if v26 = 0 then (
  some (x4_3, m25))
  else (
  F5 (x4_3 + 1) m25)))
noncomputable def fX1_follow (μ : zM) (x0 : Nat) (x1 : Nat) (x2 : Nat) (x3 : Int32) : Option (Int32 × zM) := zgd (zm_ck μ 1 x0) <|
  zb1 (fX1_begin μ x0 x1) fun m2 =>
  zb2 (zf2 (fX1_follow_l8 x3 x2 x0 x1) zfu 0 m2 : Option (Int32 × zM)) fun (x4_7 : Int32) (m8 : zM) =>
  some (x4_7, m8)
theorem fX1_follow_ck {μ : zM} {x0 : Nat} {x1 : Nat} {x2 : Nat} {x3 : Int32} {z : Int32 × zM} (h : fX1_follow μ x0 x1 x2 x3 = some z) : zm_ck μ 1 x0 = true := (zgd_s h).1
set_option maxHeartbeats 4000000 in
set_option maxRecDepth 100000 in
theorem cX1_follow_ok {μ : zM} {x0 : Nat} {x1 : Nat} {x2 : Nat} {x3 : Int32} {r : Int32} {mo : zM} (hf : fX1_follow μ x0 x1 x2 x3 = some (r, mo)) : zC yX1_follow cX1_follow 5 (some .int) 5 0 0 [.ref x0, .ref x1, .ref x2, .int x3] μ (some (.int r)) mo := by
  replace hf := (zgd_s hf).2
  refine zC.of (by decide) (Nat.le_of_ble_eq_true rfl) (fun K hin => ?_)
  clear hin
  show zz K cX1_follow (5, RX1, some .int, 5, 0, 0, some (.int r), mo) 0 0 0 [(0, .ref x0), (1, .ref x1), (2, .ref x2), (3, .int x3)] [] μ
  refine zr_aload_n 0 dX1_follow_0 rfl ?_
  refine zr_aload_n 1 dX1_follow_1 rfl ?_
  replace hf := zb1_s hf
  obtain ⟨m2, h1, hf⟩ := hf
  refine zr_callV (ci := 1) [.ref x1] (cX1_begin_ok h1) zvs_X1_begin zl_148 zl_149 (fX1_begin_ck h1) rfl rfl zl_147 rfl (Nat.le_of_ble_eq_true rfl) (Nat.le_of_ble_eq_true rfl) (Nat.le_of_ble_eq_true rfl) (Nat.le_of_ble_eq_true rfl) dX1_follow_2 rfl ?_
  refine zr_iconst 0 dX1_follow_5 (by decide) ?_
  refine zr_istore [(4, .int 0), (0, .ref x0), (1, .ref x1), (2, .ref x2), (3, .int x3)] dX1_follow_6 (Nat.le_of_ble_eq_true rfl) rfl ?_
  replace hf := zb2_s hf
  obtain ⟨x4_7, m8, hg, hf⟩ := hf
  have hj9 : zz K cX1_follow (5, RX1, some .int, 5, 0, 0, some (.int r), mo) 0 0 58 [(4, .int x4_7)] [] m8 := by
    refine zr_iload 0 dX1_follow_58 rfl ?_
    cases hf
    exact zr_iret dX1_follow_60
  clear hf
  have hf := hg
  clear hg
  have hL27 : ∀ (n : Nat) (x4_3 : Int32) (m4 : zM), zf2 (fX1_follow_l8 x3 x2 x0 x1) n x4_3 m4 = some (x4_7, m8) → zz K cX1_follow (5, RX1, some .int, 5, 0, 0, some (.int r), mo) 0 0 8 [(0, .ref x0), (1, .ref x1), (2, .ref x2), (3, .int x3), (4, .int x4_3)] [] m4 := by
    intro n
    induction n with
    | zero => intro x4_3 m4 hf; cases hf
    | succ n ih6 =>
      intro x4_3 m4 hf
      replace hf := zf2_s hf
      generalize zf2 (fX1_follow_l8 x3 x2 x0 x1) n = F5 at hf ih6
      unfold fX1_follow_l8 at hf
      refine zr_iload 4 dX1_follow_8 rfl ?_
      refine zr_iload_n 3 dX1_follow_10 rfl ?_
      refine zr_icmp_ge 58 dX1_follow_11 (by decide) (fun hc => ?_) (fun hc => ?_)
      · rw [if_pos hc] at hf
        cases hf
        exact zr_lv [4] rfl hj9
      · rw [if_neg hc] at hf
        refine zr_iload 4 dX1_follow_14 rfl ?_
        refine zr_aload_n 2 dX1_follow_16 rfl ?_
        replace hf := zb1_s hf
        obtain ⟨v10, h11, hf⟩ := hf
        refine zr_get (zm_gI_g h11) zk2 (by decide) zl_150 dX1_follow_17 ?_
        refine zr_icmp_ge 58 dX1_follow_20 (by decide) (fun hc => ?_) (fun hc => ?_)
        · rw [if_pos hc] at hf
          cases hf
          exact zr_lv [4] rfl hj9
        · rw [if_neg hc] at hf
          refine zr_aload_n 0 dX1_follow_23 rfl ?_
          refine zr_aload_n 1 dX1_follow_24 rfl ?_
          refine zr_aload_n 2 dX1_follow_25 rfl ?_
          replace hf := zb1_s hf
          obtain ⟨v12, h13, hf⟩ := hf
          refine zr_get (zm_gR_g h13) zk2 (by decide) zl_151 dX1_follow_26 ?_
          refine zr_iload 4 dX1_follow_29 rfl ?_
          replace hf := zb1_s hf
          obtain ⟨v14, h15, hf⟩ := hf
          refine zr_iald h15 dX1_follow_31 ?_
          refine zr_aload_n 2 dX1_follow_32 rfl ?_
          replace hf := zb1_s hf
          obtain ⟨v16, h17, hf⟩ := hf
          refine zr_get (zm_gR_g h17) zk2 (by decide) zl_152 dX1_follow_33 ?_
          refine zr_iload 4 dX1_follow_36 rfl ?_
          replace hf := zb1_s hf
          obtain ⟨v18, h19, hf⟩ := hf
          refine zr_iald h19 dX1_follow_38 ?_
          refine zr_aload_n 2 dX1_follow_39 rfl ?_
          replace hf := zb1_s hf
          obtain ⟨v20, h21, hf⟩ := hf
          refine zr_get (zm_gR_g h21) zk2 (by decide) zl_153 dX1_follow_40 ?_
          refine zr_iload 4 dX1_follow_43 rfl ?_
          replace hf := zb1_s hf
          obtain ⟨v22, h23, hf⟩ := hf
          refine zr_iald h23 dX1_follow_45 ?_
          replace hf := zb2_s hf
          obtain ⟨v26, m25, h24, hf⟩ := hf
          refine zr_callV (ci := 1) [.ref x1, .int v14, .int v18, .int v22] (cX1_perform_ok h24) zvs_X1_perform zl_156 zl_157 (fX1_perform_ck h24) rfl rfl zl_155 rfl (Nat.le_of_ble_eq_true rfl) (Nat.le_of_ble_eq_true rfl) (Nat.le_of_ble_eq_true rfl) (Nat.le_of_ble_eq_true rfl) dX1_follow_46 rfl ?_
          refine zr_if_eq 58 dX1_follow_49 (by decide) (fun hc => ?_) (fun hc => ?_)
          · rw [if_pos hc] at hf
            cases hf
            exact zr_lv [4] rfl hj9
          · rw [if_neg hc] at hf
            refine zr_iinc (j := 4) (x4_3 + 1) [(4, .int (x4_3 + 1)), (0, .ref x0), (1, .ref x1), (2, .ref x2), (3, .int x3)] dX1_follow_52 rfl rfl (Nat.le_of_ble_eq_true rfl) rfl ?_
            refine zr_goto 8 dX1_follow_55 (by decide) ?_
            exact zr_lv [1, 2, 3, 4, 0] rfl (ih6 (x4_3 + 1) m25 hf)
  exact zr_lv [1, 2, 3, 4, 0] rfl (hL27 _ 0 m2 hf)
theorem zl_158 : Cond.constant RX1 68 1103515245 ∈ zt := zt_at 1179 (by decide +kernel)
theorem dX1_below_0 : decode cX1_below 0 = .ok (.aload_n 0, 1) := by decide +kernel
theorem dX1_below_1 : decode cX1_below 1 = .ok (.aload_n 0, 1) := by decide +kernel
theorem dX1_below_2 : decode cX1_below 2 = .ok (.getfield 18, 3) := by decide +kernel
theorem dX1_below_5 : decode cX1_below 5 = .ok (.ldc 68, 2) := by decide +kernel
theorem dX1_below_7 : decode cX1_below 7 = .ok (.imul, 1) := by decide +kernel
theorem dX1_below_8 : decode cX1_below 8 = .ok (.sipush 12345, 3) := by decide +kernel
theorem dX1_below_11 : decode cX1_below 11 = .ok (.iadd, 1) := by decide +kernel
theorem dX1_below_12 : decode cX1_below 12 = .ok (.putfield 18, 3) := by decide +kernel
theorem dX1_below_15 : decode cX1_below 15 = .ok (.iload_n 1, 1) := by decide +kernel
theorem dX1_below_16 : decode cX1_below 16 = .ok (.ifCond .le 15, 3) := by decide +kernel
theorem dX1_below_19 : decode cX1_below 19 = .ok (.aload_n 0, 1) := by decide +kernel
theorem dX1_below_20 : decode cX1_below 20 = .ok (.getfield 18, 3) := by decide +kernel
theorem dX1_below_23 : decode cX1_below 23 = .ok (.bipush 16, 2) := by decide +kernel
theorem dX1_below_25 : decode cX1_below 25 = .ok (.iushr, 1) := by decide +kernel
theorem dX1_below_26 : decode cX1_below 26 = .ok (.iload_n 1, 1) := by decide +kernel
theorem dX1_below_27 : decode cX1_below 27 = .ok (.irem, 1) := by decide +kernel
theorem dX1_below_28 : decode cX1_below 28 = .ok (.goto 4, 3) := by decide +kernel
theorem dX1_below_31 : decode cX1_below 31 = .ok (.iconst 0, 1) := by decide +kernel
theorem dX1_below_32 : decode cX1_below 32 = .ok (.ireturn, 1) := by decide +kernel
noncomputable def fX1_below (μ : zM) (x0 : Nat) (x1 : Int32) : Option (Int32 × zM) := zgd (zm_ck μ 1 x0) <|
  zb1 (zm_gI μ 1 x0 2) fun v1 =>
  zb1 (zm_p μ 1 x0 2 (.int ((v1 * 1103515245) + 12345))) fun m3 =>
  zb1 (if x1 ≤ 0 then (
  some 0)
  else (
  zb1 (zm_gI m3 1 x0 2) fun v7 =>
  zni (x1 = 0) <|
  some ((((v7 : Int32).toUInt32 >>> ((16 : Int32).toUInt32 &&& Int32.toUInt32 31)).toInt32) - (((v7 : Int32).toUInt32 >>> ((16 : Int32).toUInt32 &&& Int32.toUInt32 31)).toInt32) / x1 * x1)) : Option (Int32)) fun (s5 : Int32) =>
  some (s5, m3)
theorem fX1_below_ck {μ : zM} {x0 : Nat} {x1 : Int32} {z : Int32 × zM} (h : fX1_below μ x0 x1 = some z) : zm_ck μ 1 x0 = true := (zgd_s h).1
set_option maxHeartbeats 4000000 in
set_option maxRecDepth 100000 in
theorem cX1_below_ok {μ : zM} {x0 : Nat} {x1 : Int32} {r : Int32} {mo : zM} (hf : fX1_below μ x0 x1 = some (r, mo)) : zC yX1_below cX1_below 2 (some .int) 0 0 0 [.ref x0, .int x1] μ (some (.int r)) mo := by
  replace hf := (zgd_s hf).2
  refine zC.of (by decide) (Nat.le_of_ble_eq_true rfl) (fun K hin => ?_)
  clear hin
  show zz K cX1_below (2, RX1, some .int, 0, 0, 0, some (.int r), mo) 0 0 0 [(0, .ref x0), (1, .int x1)] [] μ
  refine zr_aload_n 0 dX1_below_0 rfl ?_
  refine zr_aload_n 0 dX1_below_1 rfl ?_
  replace hf := zb1_s hf
  obtain ⟨v1, h2, hf⟩ := hf
  refine zr_get (zm_gI_g h2) zk1 (by decide) zl_93 dX1_below_2 ?_
  refine zr_ldc zl_158 dX1_below_5 ?_
  refine zr_imul dX1_below_7 ?_
  refine zr_sipush 12345 dX1_below_8 (by decide) ?_
  refine zr_iadd dX1_below_11 ?_
  replace hf := zb1_s hf
  obtain ⟨m3, h4, hf⟩ := hf
  refine zr_put h4 zk1 (by decide) zl_93 rfl rfl rfl dX1_below_12 ?_
  refine zr_iload_n 1 dX1_below_15 rfl ?_
  replace hf := zb1_s hf
  obtain ⟨s5, hg, hf⟩ := hf
  have hj6 : zz K cX1_below (2, RX1, some .int, 0, 0, 0, some (.int r), mo) 0 0 32 [] [.int s5] m3 := by
    cases hf
    exact zr_iret dX1_below_32
  clear hf
  have hf := hg
  clear hg
  refine zr_if_le 31 dX1_below_16 (by decide) (fun hc => ?_) (fun hc => ?_)
  · rw [if_pos hc] at hf
    refine zr_iconst 0 dX1_below_31 (by decide) ?_
    cases hf
    exact zr_lv [] rfl hj6
  · rw [if_neg hc] at hf
    refine zr_aload_n 0 dX1_below_19 rfl ?_
    replace hf := zb1_s hf
    obtain ⟨v7, h8, hf⟩ := hf
    refine zr_get (zm_gI_g h8) zk1 (by decide) zl_93 dX1_below_20 ?_
    refine zr_bipush 16 dX1_below_23 (by decide) ?_
    refine zr_iushr dX1_below_25 ?_
    refine zr_iload_n 1 dX1_below_26 rfl ?_
    replace hf := zni_s hf
    obtain ⟨hn9, hf⟩ := hf
    refine zr_irem dX1_below_27 hn9 ?_
    refine zr_goto 32 dX1_below_28 (by decide) ?_
    cases hf
    exact zr_lv [] rfl hj6
theorem zl_159 : Cond.code yX1_below cX1_below 2 (some .int) ∈ zt := zt_at 1178 (by decide +kernel)
theorem zvs_X1_below : zvS yX1_below cX1_below 2 (some .int) 1 := ⟨zl_159, zl_110, ⟨by decide +kernel, by decide +kernel, by decide +kernel⟩, by decide⟩
theorem zl_160 : Cond.methodLink RX1 58 yX1_below ∈ zt := zt_at 1175 (by decide +kernel)
theorem zl_161 : Cond.instanceMethod yX1_below ∈ zt := zt_at 1177 (by decide +kernel)
theorem zl_162 : Cond.selects RX1 yX1_below yX1_below ∈ zt := zt_at 42 (by decide +kernel)
theorem zl_163 : Cond.fieldLink RX1 62 "TwoEchoes$Course" "ACT_OF_DRAW" "[I" ∈ zt := zt_at 1180 (by decide +kernel)
theorem zl_164 : Cond.fieldLink RX1 65 "TwoEchoes$Valley" "wide" "I" ∈ zt := zt_at 173 (by decide +kernel)
theorem dX1_draw_0 : decode cX1_draw 0 = .ok (.aload_n 0, 1) := by decide +kernel
theorem dX1_draw_1 : decode cX1_draw 1 = .ok (.aload_n 1, 1) := by decide +kernel
theorem dX1_draw_2 : decode cX1_draw 2 = .ok (.invokevirtual 31, 3) := by decide +kernel
theorem dX1_draw_5 : decode cX1_draw 5 = .ok (.aload_n 0, 1) := by decide +kernel
theorem dX1_draw_6 : decode cX1_draw 6 = .ok (.iload_n 2, 1) := by decide +kernel
theorem dX1_draw_7 : decode cX1_draw 7 = .ok (.putfield 18, 3) := by decide +kernel
theorem dX1_draw_10 : decode cX1_draw 10 = .ok (.iconst 0, 1) := by decide +kernel
theorem dX1_draw_11 : decode cX1_draw 11 = .ok (.istore 4, 2) := by decide +kernel
theorem dX1_draw_13 : decode cX1_draw 13 = .ok (.iload 4, 2) := by decide +kernel
theorem dX1_draw_15 : decode cX1_draw 15 = .ok (.iload_n 3, 1) := by decide +kernel
theorem dX1_draw_16 : decode cX1_draw 16 = .ok (.if_icmp .ge 89, 3) := by decide +kernel
theorem dX1_draw_19 : decode cX1_draw 19 = .ok (.aload_n 0, 1) := by decide +kernel
theorem dX1_draw_20 : decode cX1_draw 20 = .ok (.aload_n 1, 1) := by decide +kernel
theorem dX1_draw_21 : decode cX1_draw 21 = .ok (.getfield 53, 3) := by decide +kernel
theorem dX1_draw_24 : decode cX1_draw 24 = .ok (.invokevirtual 58, 3) := by decide +kernel
theorem dX1_draw_27 : decode cX1_draw 27 = .ok (.istore 5, 2) := by decide +kernel
theorem dX1_draw_29 : decode cX1_draw 29 = .ok (.getstatic 62, 3) := by decide +kernel
theorem dX1_draw_32 : decode cX1_draw 32 = .ok (.aload_n 0, 1) := by decide +kernel
theorem dX1_draw_33 : decode cX1_draw 33 = .ok (.getstatic 62, 3) := by decide +kernel
theorem dX1_draw_36 : decode cX1_draw 36 = .ok (.arraylength, 1) := by decide +kernel
theorem dX1_draw_37 : decode cX1_draw 37 = .ok (.invokevirtual 58, 3) := by decide +kernel
theorem dX1_draw_40 : decode cX1_draw 40 = .ok (.iaload, 1) := by decide +kernel
theorem dX1_draw_41 : decode cX1_draw 41 = .ok (.istore 6, 2) := by decide +kernel
theorem dX1_draw_43 : decode cX1_draw 43 = .ok (.iload 6, 2) := by decide +kernel
theorem dX1_draw_45 : decode cX1_draw 45 = .ok (.iconst 4, 1) := by decide +kernel
theorem dX1_draw_46 : decode cX1_draw 46 = .ok (.if_icmp .ne 22, 3) := by decide +kernel
theorem dX1_draw_49 : decode cX1_draw 49 = .ok (.aload_n 0, 1) := by decide +kernel
theorem dX1_draw_50 : decode cX1_draw 50 = .ok (.aload_n 1, 1) := by decide +kernel
theorem dX1_draw_51 : decode cX1_draw 51 = .ok (.iconst 4, 1) := by decide +kernel
theorem dX1_draw_52 : decode cX1_draw 52 = .ok (.iconst 1, 1) := by decide +kernel
theorem dX1_draw_53 : decode cX1_draw 53 = .ok (.aload_n 0, 1) := by decide +kernel
theorem dX1_draw_54 : decode cX1_draw 54 = .ok (.bipush 9, 2) := by decide +kernel
theorem dX1_draw_56 : decode cX1_draw 56 = .ok (.invokevirtual 58, 3) := by decide +kernel
theorem dX1_draw_59 : decode cX1_draw 59 = .ok (.iadd, 1) := by decide +kernel
theorem dX1_draw_60 : decode cX1_draw 60 = .ok (.iconst (-1), 1) := by decide +kernel
theorem dX1_draw_61 : decode cX1_draw 61 = .ok (.invokevirtual 49, 3) := by decide +kernel
theorem dX1_draw_64 : decode cX1_draw 64 = .ok (.pop, 1) := by decide +kernel
theorem dX1_draw_65 : decode cX1_draw 65 = .ok (.goto 34, 3) := by decide +kernel
theorem dX1_draw_68 : decode cX1_draw 68 = .ok (.aload_n 0, 1) := by decide +kernel
theorem dX1_draw_69 : decode cX1_draw 69 = .ok (.aload_n 1, 1) := by decide +kernel
theorem dX1_draw_70 : decode cX1_draw 70 = .ok (.iload 6, 2) := by decide +kernel
theorem dX1_draw_72 : decode cX1_draw 72 = .ok (.iload 5, 2) := by decide +kernel
theorem dX1_draw_74 : decode cX1_draw 74 = .ok (.aload_n 0, 1) := by decide +kernel
theorem dX1_draw_75 : decode cX1_draw 75 = .ok (.iload 6, 2) := by decide +kernel
theorem dX1_draw_77 : decode cX1_draw 77 = .ok (.iconst 3, 1) := by decide +kernel
theorem dX1_draw_78 : decode cX1_draw 78 = .ok (.if_icmp .ne 12, 3) := by decide +kernel
theorem dX1_draw_81 : decode cX1_draw 81 = .ok (.aload_n 1, 1) := by decide +kernel
theorem dX1_draw_82 : decode cX1_draw 82 = .ok (.getfield 65, 3) := by decide +kernel
theorem dX1_draw_85 : decode cX1_draw 85 = .ok (.iconst 1, 1) := by decide +kernel
theorem dX1_draw_86 : decode cX1_draw 86 = .ok (.iadd, 1) := by decide +kernel
theorem dX1_draw_87 : decode cX1_draw 87 = .ok (.goto 5, 3) := by decide +kernel
theorem dX1_draw_90 : decode cX1_draw 90 = .ok (.bipush 8, 2) := by decide +kernel
theorem dX1_draw_92 : decode cX1_draw 92 = .ok (.invokevirtual 58, 3) := by decide +kernel
theorem dX1_draw_95 : decode cX1_draw 95 = .ok (.invokevirtual 49, 3) := by decide +kernel
theorem dX1_draw_98 : decode cX1_draw 98 = .ok (.pop, 1) := by decide +kernel
theorem dX1_draw_99 : decode cX1_draw 99 = .ok (.iinc 4 1, 3) := by decide +kernel
theorem dX1_draw_102 : decode cX1_draw 102 = .ok (.goto (-89), 3) := by decide +kernel
theorem dX1_draw_105 : decode cX1_draw 105 = .ok (.return_, 1) := by decide +kernel
noncomputable def fX1_draw_l13 (x3 : Int32) (x1 : Nat) (x0 : Nat) (F7 : Int32 → zM → Option (zM)) (x4_5 : Int32) (m6 : zM) : Option (zM) :=
  if x3 ≤ x4_5 then (
  some m6)
  else (
  zb1 (zm_gI m6 9 x1 4) fun v11 =>
  zb2 (fX1_below m6 x0 v11) fun v15 m14 =>
  zb1 (zm_len m14 (m14.2.2 1)) fun v16 =>
  zb2 (fX1_below m14 x0 v16) fun v20 m19 =>
  zb1 (zm_aI m19 0 (m14.2.2 1) v20) fun v21 =>
  zc1 (if v21 = 4 then (
  zb2 (fX1_below m19 x0 9) fun v37 m36 =>
  zb2 (fX1_perform m36 x0 x1 4 (1 + v37) (-1)) fun v40 m39 =>
  some m39)
  else (
  zb1 (if v21 = 3 then (
  zb1 (zm_gI m19 9 x1 0) fun v33 =>
  some (v33 + 1))
  else (
  some 8) : Option (Int32)) fun (s25 : Int32) =>
  zb2 (fX1_below m19 x0 s25) fun v29 m28 =>
  zb2 (fX1_perform m28 x0 x1 v21 v15 v29) fun v32 m31 =>
  some m31) : Option (zM)) fun (m23 : zM) =>
  F7 (x4_5 + 1) m23)
noncomputable def fX1_draw (μ : zM) (x0 : Nat) (x1 : Nat) (x2 : Int32) (x3 : Int32) : Option (zM) := zgd (zm_ck μ 1 x0) <|
  zb1 (fX1_begin μ x0 x1) fun m2 =>
  zb1 (zm_p m2 1 x0 2 (.int x2)) fun m3 =>
  zb1 (zf2 (fX1_draw_l13 x3 x1 x0) zfu 0 m3 : Option (zM)) fun (m9 : zM) =>
  some m9
theorem fX1_draw_ck {μ : zM} {x0 : Nat} {x1 : Nat} {x2 : Int32} {x3 : Int32} {z : zM} (h : fX1_draw μ x0 x1 x2 x3 = some z) : zm_ck μ 1 x0 = true := (zgd_s h).1
set_option maxHeartbeats 4000000 in
set_option maxRecDepth 100000 in
theorem cX1_draw_ok {μ : zM} {x0 : Nat} {x1 : Nat} {x2 : Int32} {x3 : Int32} {mo : zM} (hf : fX1_draw μ x0 x1 x2 x3 = some mo) : zC yX1_draw cX1_draw 7 (none) 5 0 0 [.ref x0, .ref x1, .int x2, .int x3] μ (none) mo := by
  replace hf := (zgd_s hf).2
  refine zC.of (by decide) (Nat.le_of_ble_eq_true rfl) (fun K hin => ?_)
  clear hin
  show zz K cX1_draw (7, RX1, none, 5, 0, 0, none, mo) 0 0 0 [(0, .ref x0), (1, .ref x1), (2, .int x2), (3, .int x3)] [] μ
  refine zr_aload_n 0 dX1_draw_0 rfl ?_
  refine zr_aload_n 1 dX1_draw_1 rfl ?_
  replace hf := zb1_s hf
  obtain ⟨m2, h1, hf⟩ := hf
  refine zr_callV (ci := 1) [.ref x1] (cX1_begin_ok h1) zvs_X1_begin zl_148 zl_149 (fX1_begin_ck h1) rfl rfl zl_147 rfl (Nat.le_of_ble_eq_true rfl) (Nat.le_of_ble_eq_true rfl) (Nat.le_of_ble_eq_true rfl) (Nat.le_of_ble_eq_true rfl) dX1_draw_2 rfl ?_
  refine zr_aload_n 0 dX1_draw_5 rfl ?_
  refine zr_iload_n 2 dX1_draw_6 rfl ?_
  replace hf := zb1_s hf
  obtain ⟨m3, h4, hf⟩ := hf
  refine zr_put h4 zk1 (by decide) zl_93 rfl rfl rfl dX1_draw_7 ?_
  refine zr_iconst 0 dX1_draw_10 (by decide) ?_
  refine zr_istore [(4, .int 0), (0, .ref x0), (1, .ref x1), (2, .int x2), (3, .int x3)] dX1_draw_11 (Nat.le_of_ble_eq_true rfl) rfl ?_
  replace hf := zb1_s hf
  obtain ⟨m9, hg, hf⟩ := hf
  have hj10 : zz K cX1_draw (7, RX1, none, 5, 0, 0, none, mo) 0 0 105 [] [] m9 := by
    cases hf
    exact zr_vret dX1_draw_105
  clear hf
  have hf := hg
  clear hg
  have hL41 : ∀ (n : Nat) (x4_5 : Int32) (m6 : zM), zf2 (fX1_draw_l13 x3 x1 x0) n x4_5 m6 = some m9 → zz K cX1_draw (7, RX1, none, 5, 0, 0, none, mo) 0 0 13 [(0, .ref x0), (1, .ref x1), (3, .int x3), (4, .int x4_5)] [] m6 := by
    intro n
    induction n with
    | zero => intro x4_5 m6 hf; cases hf
    | succ n ih8 =>
      intro x4_5 m6 hf
      replace hf := zf2_s hf
      generalize zf2 (fX1_draw_l13 x3 x1 x0) n = F7 at hf ih8
      unfold fX1_draw_l13 at hf
      refine zr_iload 3 dX1_draw_13 rfl ?_
      refine zr_iload_n 2 dX1_draw_15 rfl ?_
      refine zr_icmp_ge 105 dX1_draw_16 (by decide) (fun hc => ?_) (fun hc => ?_)
      · rw [if_pos hc] at hf
        cases hf
        exact zr_lv [] rfl hj10
      · rw [if_neg hc] at hf
        refine zr_aload_n 0 dX1_draw_19 rfl ?_
        refine zr_aload_n 1 dX1_draw_20 rfl ?_
        replace hf := zb1_s hf
        obtain ⟨v11, h12, hf⟩ := hf
        refine zr_get (zm_gI_g h12) zk9 (by decide) zl_121 dX1_draw_21 ?_
        replace hf := zb2_s hf
        obtain ⟨v15, m14, h13, hf⟩ := hf
        refine zr_callV (ci := 1) [.int v11] (cX1_below_ok h13) zvs_X1_below zl_161 zl_162 (fX1_below_ck h13) rfl rfl zl_160 rfl (Nat.le_of_ble_eq_true rfl) (Nat.le_of_ble_eq_true rfl) (Nat.le_of_ble_eq_true rfl) (Nat.le_of_ble_eq_true rfl) dX1_draw_24 rfl ?_
        refine zr_istore [(5, .int v15), (0, .ref x0), (1, .ref x1), (3, .int x3), (4, .int x4_5)] dX1_draw_27 (Nat.le_of_ble_eq_true rfl) rfl ?_
        refine zr_gets (k := 1) (by decide) zl_163 dX1_draw_29 ?_
        refine zr_aload_n 1 dX1_draw_32 rfl ?_
        refine zr_gets (k := 1) (by decide) zl_163 dX1_draw_33 ?_
        replace hf := zb1_s hf
        obtain ⟨v16, h17, hf⟩ := hf
        refine zr_alen h17 dX1_draw_36 ?_
        replace hf := zb2_s hf
        obtain ⟨v20, m19, h18, hf⟩ := hf
        refine zr_callV (ci := 1) [.int v16] (cX1_below_ok h18) zvs_X1_below zl_161 zl_162 (fX1_below_ck h18) rfl rfl zl_160 rfl (Nat.le_of_ble_eq_true rfl) (Nat.le_of_ble_eq_true rfl) (Nat.le_of_ble_eq_true rfl) (Nat.le_of_ble_eq_true rfl) dX1_draw_37 rfl ?_
        replace hf := zb1_s hf
        obtain ⟨v21, h22, hf⟩ := hf
        refine zr_iald h22 dX1_draw_40 ?_
        refine zr_istore [(6, .int v21), (5, .int v15), (0, .ref x0), (1, .ref x1), (3, .int x3), (4, .int x4_5)] dX1_draw_41 (Nat.le_of_ble_eq_true rfl) rfl ?_
        refine zr_iload 0 dX1_draw_43 rfl ?_
        refine zr_iconst 4 dX1_draw_45 (by decide) ?_
        replace hf := zc1_s hf
        obtain ⟨m23, hg, hf⟩ := hf
        have hj24 : zz K cX1_draw (7, RX1, none, 5, 0, 0, none, mo) 0 0 99 [(0, .ref x0), (1, .ref x1), (3, .int x3), (4, .int x4_5)] [] m23 := by
          refine zr_iinc (j := 3) (x4_5 + 1) [(4, .int (x4_5 + 1)), (0, .ref x0), (1, .ref x1), (3, .int x3)] dX1_draw_99 rfl rfl (Nat.le_of_ble_eq_true rfl) rfl ?_
          refine zr_goto 13 dX1_draw_102 (by decide) ?_
          exact zr_lv [1, 2, 3, 0] rfl (ih8 (x4_5 + 1) m23 hf)
        clear hf
        have hf := hg
        clear hg
        refine zr_icmp_ne 68 dX1_draw_46 (by decide) (fun hc => ?_) (fun hc => ?_)
        · rw [if_neg hc] at hf
          refine zr_aload_n 2 dX1_draw_68 rfl ?_
          refine zr_aload_n 3 dX1_draw_69 rfl ?_
          refine zr_iload 0 dX1_draw_70 rfl ?_
          refine zr_iload 1 dX1_draw_72 rfl ?_
          refine zr_aload_n 2 dX1_draw_74 rfl ?_
          refine zr_iload 0 dX1_draw_75 rfl ?_
          refine zr_iconst 3 dX1_draw_77 (by decide) ?_
          replace hf := zb1_s hf
          obtain ⟨s25, hg, hf⟩ := hf
          have hj26 : zz K cX1_draw (7, RX1, none, 5, 0, 0, none, mo) 0 0 92 [(0, .ref x0), (1, .ref x1), (3, .int x3), (4, .int x4_5)] [.int s25, .ref x0, .int v15, .int v21, .ref x1, .ref x0] m19 := by
            replace hf := zb2_s hf
            obtain ⟨v29, m28, h27, hf⟩ := hf
            refine zr_callV (ci := 1) [.int s25] (cX1_below_ok h27) zvs_X1_below zl_161 zl_162 (fX1_below_ck h27) rfl rfl zl_160 rfl (Nat.le_of_ble_eq_true rfl) (Nat.le_of_ble_eq_true rfl) (Nat.le_of_ble_eq_true rfl) (Nat.le_of_ble_eq_true rfl) dX1_draw_92 rfl ?_
            replace hf := zb2_s hf
            obtain ⟨v32, m31, h30, hf⟩ := hf
            refine zr_callV (ci := 1) [.ref x1, .int v21, .int v15, .int v29] (cX1_perform_ok h30) zvs_X1_perform zl_156 zl_157 (fX1_perform_ck h30) rfl rfl zl_155 rfl (Nat.le_of_ble_eq_true rfl) (Nat.le_of_ble_eq_true rfl) (Nat.le_of_ble_eq_true rfl) (Nat.le_of_ble_eq_true rfl) dX1_draw_95 rfl ?_
            refine zr_pop dX1_draw_98 rfl ?_
            cases hf
            exact zr_lv [0, 1, 2, 3] rfl hj24
          clear hf
          have hf := hg
          clear hg
          refine zr_icmp_ne 90 dX1_draw_78 (by decide) (fun hc => ?_) (fun hc => ?_)
          · rw [if_neg hc] at hf
            refine zr_bipush 8 dX1_draw_90 (by decide) ?_
            cases hf
            exact zr_lv [2, 3, 4, 5] rfl hj26
          · rw [if_pos hc] at hf
            refine zr_aload_n 3 dX1_draw_81 rfl ?_
            replace hf := zb1_s hf
            obtain ⟨v33, h34, hf⟩ := hf
            refine zr_get (zm_gI_g h34) zk9 (by decide) zl_164 dX1_draw_82 ?_
            refine zr_iconst 1 dX1_draw_85 (by decide) ?_
            refine zr_iadd dX1_draw_86 ?_
            refine zr_goto 92 dX1_draw_87 (by decide) ?_
            cases hf
            exact zr_lv [2, 3, 4, 5] rfl hj26
        · rw [if_pos hc] at hf
          refine zr_aload_n 2 dX1_draw_49 rfl ?_
          refine zr_aload_n 3 dX1_draw_50 rfl ?_
          refine zr_iconst 4 dX1_draw_51 (by decide) ?_
          refine zr_iconst 1 dX1_draw_52 (by decide) ?_
          refine zr_aload_n 2 dX1_draw_53 rfl ?_
          refine zr_bipush 9 dX1_draw_54 (by decide) ?_
          replace hf := zb2_s hf
          obtain ⟨v37, m36, h35, hf⟩ := hf
          refine zr_callV (ci := 1) [.int 9] (cX1_below_ok h35) zvs_X1_below zl_161 zl_162 (fX1_below_ck h35) rfl rfl zl_160 rfl (Nat.le_of_ble_eq_true rfl) (Nat.le_of_ble_eq_true rfl) (Nat.le_of_ble_eq_true rfl) (Nat.le_of_ble_eq_true rfl) dX1_draw_56 rfl ?_
          refine zr_iadd dX1_draw_59 ?_
          refine zr_iconst (-1) dX1_draw_60 (by decide) ?_
          replace hf := zb2_s hf
          obtain ⟨v40, m39, h38, hf⟩ := hf
          refine zr_callV (ci := 1) [.ref x1, .int 4, .int (1 + v37), .int (-1)] (cX1_perform_ok h38) zvs_X1_perform zl_156 zl_157 (fX1_perform_ck h38) rfl rfl zl_155 rfl (Nat.le_of_ble_eq_true rfl) (Nat.le_of_ble_eq_true rfl) (Nat.le_of_ble_eq_true rfl) (Nat.le_of_ble_eq_true rfl) dX1_draw_61 rfl ?_
          refine zr_pop dX1_draw_64 rfl ?_
          refine zr_goto 99 dX1_draw_65 (by decide) ?_
          cases hf
          exact zr_lv [2, 3, 4, 5] rfl hj24
  exact zr_lv [1, 2, 4, 0] rfl (hL41 _ 0 m3 hf)
theorem zl_165 : Cond.methodLink RX1 143 yJ6_bitCount_0f7a4 ∈ zt := zt_at 899 (by decide +kernel)
theorem dX1_isClash_0 : decode cX1_isClash 0 = .ok (.aload_n 0, 1) := by decide +kernel
theorem dX1_isClash_1 : decode cX1_isClash 1 = .ok (.getfield 25, 3) := by decide +kernel
theorem dX1_isClash_4 : decode cX1_isClash 4 = .ok (.iload_n 1, 1) := by decide +kernel
theorem dX1_isClash_5 : decode cX1_isClash 5 = .ok (.bipush 100, 2) := by decide +kernel
theorem dX1_isClash_7 : decode cX1_isClash 7 = .ok (.imul, 1) := by decide +kernel
theorem dX1_isClash_8 : decode cX1_isClash 8 = .ok (.iload_n 2, 1) := by decide +kernel
theorem dX1_isClash_9 : decode cX1_isClash 9 = .ok (.iadd, 1) := by decide +kernel
theorem dX1_isClash_10 : decode cX1_isClash 10 = .ok (.iaload, 1) := by decide +kernel
theorem dX1_isClash_11 : decode cX1_isClash 11 = .ok (.invokestatic 143, 3) := by decide +kernel
theorem dX1_isClash_14 : decode cX1_isClash 14 = .ok (.iconst 1, 1) := by decide +kernel
theorem dX1_isClash_15 : decode cX1_isClash 15 = .ok (.if_icmp .le 7, 3) := by decide +kernel
theorem dX1_isClash_18 : decode cX1_isClash 18 = .ok (.iconst 1, 1) := by decide +kernel
theorem dX1_isClash_19 : decode cX1_isClash 19 = .ok (.goto 4, 3) := by decide +kernel
theorem dX1_isClash_22 : decode cX1_isClash 22 = .ok (.iconst 0, 1) := by decide +kernel
theorem dX1_isClash_23 : decode cX1_isClash 23 = .ok (.ireturn, 1) := by decide +kernel
noncomputable def fX1_isClash (μ : zM) (x0 : Nat) (x1 : Int32) (x2 : Int32) : Option (Int32) := zgd (zm_ck μ 1 x0) <|
  zb1 (zm_gR μ 1 x0 4) fun v1 =>
  zb1 (zm_aI μ 0 v1 ((x1 * 100) + x2)) fun v3 =>
  zb1 (fJ6_bitCount_0f7a4 μ v3) fun v6 =>
  zb1 (if v6 ≤ 1 then (
  some 0)
  else (
  some 1) : Option (Int32)) fun (s7 : Int32) =>
  zb1 (zbz s7) fun v9 =>
  some v9
theorem fX1_isClash_ck {μ : zM} {x0 : Nat} {x1 : Int32} {x2 : Int32} {z : Int32} (h : fX1_isClash μ x0 x1 x2 = some z) : zm_ck μ 1 x0 = true := (zgd_s h).1
set_option maxHeartbeats 4000000 in
set_option maxRecDepth 100000 in
theorem cX1_isClash_ok {μ : zM} {x0 : Nat} {x1 : Int32} {x2 : Int32} {r : Int32} (hf : fX1_isClash μ x0 x1 x2 = some r) : zC yX1_isClash cX1_isClash 3 (some .boolean) 1 0 0 [.ref x0, .int x1, .int x2] μ (some (.int r)) μ := by
  replace hf := (zgd_s hf).2
  refine zC.of (by decide) (Nat.le_of_ble_eq_true rfl) (fun K hin => ?_)
  clear hin
  show zz K cX1_isClash (3, RX1, some .boolean, 1, 0, 0, some (.int r), μ) 0 0 0 [(0, .ref x0), (1, .int x1), (2, .int x2)] [] μ
  refine zr_aload_n 0 dX1_isClash_0 rfl ?_
  replace hf := zb1_s hf
  obtain ⟨v1, h2, hf⟩ := hf
  refine zr_get (zm_gR_g h2) zk1 (by decide) zl_95 dX1_isClash_1 ?_
  refine zr_iload_n 1 dX1_isClash_4 rfl ?_
  refine zr_bipush 100 dX1_isClash_5 (by decide) ?_
  refine zr_imul dX1_isClash_7 ?_
  refine zr_iload_n 2 dX1_isClash_8 rfl ?_
  refine zr_iadd dX1_isClash_9 ?_
  replace hf := zb1_s hf
  obtain ⟨v3, h4, hf⟩ := hf
  refine zr_iald h4 dX1_isClash_10 ?_
  replace hf := zb1_s hf
  obtain ⟨v6, h5, hf⟩ := hf
  refine zr_callS [.int v3] (cJ6_bitCount_0f7a4_ok h5) zvs_J6_bitCount_0f7a4 zl_67 zl_165 rfl (Nat.le_of_ble_eq_true rfl) (Nat.le_of_ble_eq_true rfl) (Nat.le_of_ble_eq_true rfl) (Nat.le_of_ble_eq_true rfl) dX1_isClash_11 rfl ?_
  refine zr_iconst 1 dX1_isClash_14 (by decide) ?_
  replace hf := zb1_s hf
  obtain ⟨s7, hg, hf⟩ := hf
  have hj8 : zz K cX1_isClash (3, RX1, some .boolean, 1, 0, 0, some (.int r), μ) 0 0 23 [] [.int s7] μ := by
    replace hf := zb1_s hf
    obtain ⟨v9, hn10, hf⟩ := hf
    replace hn10 := zbz_s hn10
    obtain ⟨hn10, rfl⟩ := hn10
    cases hf
    exact zr_zret hn10 dX1_isClash_23
  clear hf
  have hf := hg
  clear hg
  refine zr_icmp_le 22 dX1_isClash_15 (by decide) (fun hc => ?_) (fun hc => ?_)
  · rw [if_pos hc] at hf
    refine zr_iconst 0 dX1_isClash_22 (by decide) ?_
    cases hf
    exact zr_lv [] rfl hj8
  · rw [if_neg hc] at hf
    refine zr_iconst 1 dX1_isClash_18 (by decide) ?_
    refine zr_goto 23 dX1_isClash_19 (by decide) ?_
    cases hf
    exact zr_lv [] rfl hj8
theorem zl_166 : Cond.code yX1_isClash cX1_isClash 3 (some .boolean) ∈ zt := zt_at 898 (by decide +kernel)
theorem zvs_X1_isClash : zvS yX1_isClash cX1_isClash 3 (some .boolean) 2 := ⟨zl_166, zl_110, ⟨by decide +kernel, by decide +kernel, by decide +kernel⟩, by decide⟩
theorem zl_167 : Cond.methodLink RX1 148 yX1_isClash ∈ zt := zt_at 895 (by decide +kernel)
theorem zl_168 : Cond.instanceMethod yX1_isClash ∈ zt := zt_at 897 (by decide +kernel)
theorem zl_169 : Cond.selects RX1 yX1_isClash yX1_isClash ∈ zt := zt_at 27 (by decide +kernel)
theorem dX1_clashes_0 : decode cX1_clashes 0 = .ok (.iconst 0, 1) := by decide +kernel
theorem dX1_clashes_1 : decode cX1_clashes 1 = .ok (.istore_n 2, 1) := by decide +kernel
theorem dX1_clashes_2 : decode cX1_clashes 2 = .ok (.iconst 0, 1) := by decide +kernel
theorem dX1_clashes_3 : decode cX1_clashes 3 = .ok (.istore_n 3, 1) := by decide +kernel
theorem dX1_clashes_4 : decode cX1_clashes 4 = .ok (.iload_n 3, 1) := by decide +kernel
theorem dX1_clashes_5 : decode cX1_clashes 5 = .ok (.aload_n 1, 1) := by decide +kernel
theorem dX1_clashes_6 : decode cX1_clashes 6 = .ok (.getfield 53, 3) := by decide +kernel
theorem dX1_clashes_9 : decode cX1_clashes 9 = .ok (.if_icmp .ge 40, 3) := by decide +kernel
theorem dX1_clashes_12 : decode cX1_clashes 12 = .ok (.iconst 0, 1) := by decide +kernel
theorem dX1_clashes_13 : decode cX1_clashes 13 = .ok (.istore 4, 2) := by decide +kernel
theorem dX1_clashes_15 : decode cX1_clashes 15 = .ok (.iload 4, 2) := by decide +kernel
theorem dX1_clashes_17 : decode cX1_clashes 17 = .ok (.aload_n 0, 1) := by decide +kernel
theorem dX1_clashes_18 : decode cX1_clashes 18 = .ok (.getfield 9, 3) := by decide +kernel
theorem dX1_clashes_21 : decode cX1_clashes 21 = .ok (.if_icmp .gt 22, 3) := by decide +kernel
theorem dX1_clashes_24 : decode cX1_clashes 24 = .ok (.aload_n 0, 1) := by decide +kernel
theorem dX1_clashes_25 : decode cX1_clashes 25 = .ok (.iload_n 3, 1) := by decide +kernel
theorem dX1_clashes_26 : decode cX1_clashes 26 = .ok (.iload 4, 2) := by decide +kernel
theorem dX1_clashes_28 : decode cX1_clashes 28 = .ok (.invokevirtual 148, 3) := by decide +kernel
theorem dX1_clashes_31 : decode cX1_clashes 31 = .ok (.ifCond .eq 6, 3) := by decide +kernel
theorem dX1_clashes_34 : decode cX1_clashes 34 = .ok (.iinc 2 1, 3) := by decide +kernel
theorem dX1_clashes_37 : decode cX1_clashes 37 = .ok (.iinc 4 1, 3) := by decide +kernel
theorem dX1_clashes_40 : decode cX1_clashes 40 = .ok (.goto (-25), 3) := by decide +kernel
theorem dX1_clashes_43 : decode cX1_clashes 43 = .ok (.iinc 3 1, 3) := by decide +kernel
theorem dX1_clashes_46 : decode cX1_clashes 46 = .ok (.goto (-42), 3) := by decide +kernel
theorem dX1_clashes_49 : decode cX1_clashes 49 = .ok (.iload_n 2, 1) := by decide +kernel
theorem dX1_clashes_50 : decode cX1_clashes 50 = .ok (.ireturn, 1) := by decide +kernel
noncomputable def fX1_clashes_l15 (μ : zM) (x0 : Nat) (x3_2 : Int32) (F11 : Int32 → Int32 → Option (Int32)) (x2_9 : Int32) (x4_10 : Int32) : Option (Int32) :=
  zb1 (zm_gI μ 1 x0 0) fun v15 =>
  if v15 < x4_10 then (
  some x2_9)
  else (
  zb1 (fX1_isClash μ x0 x3_2 x4_10) fun v18 =>
  zb1 (if v18 = 0 then (
  some x2_9)
  else (
  some (x2_9 + 1)) : Option (Int32)) fun (x2_19 : Int32) =>
  F11 x2_19 (x4_10 + 1))
noncomputable def fX1_clashes_l4 (μ : zM) (x1 : Nat) (x0 : Nat) (F3 : Int32 → Int32 → Option (Int32)) (x2_1 : Int32) (x3_2 : Int32) : Option (Int32) :=
  zb1 (zm_gI μ 9 x1 4) fun v7 =>
  if v7 ≤ x3_2 then (
  some x2_1)
  else (
  zb1 (zf2 (fX1_clashes_l15 μ x0 x3_2) zfu x2_1 0 : Option (Int32)) fun (x2_13 : Int32) =>
  F3 x2_13 (x3_2 + 1))
noncomputable def fX1_clashes (μ : zM) (x0 : Nat) (x1 : Nat) : Option (Int32) := zgd (zm_ck μ 1 x0) <|
  zb1 (zf2 (fX1_clashes_l4 μ x1 x0) zfu 0 0 : Option (Int32)) fun (x2_5 : Int32) =>
  some x2_5
theorem fX1_clashes_ck {μ : zM} {x0 : Nat} {x1 : Nat} {z : Int32} (h : fX1_clashes μ x0 x1 = some z) : zm_ck μ 1 x0 = true := (zgd_s h).1
set_option maxHeartbeats 4000000 in
set_option maxRecDepth 100000 in
theorem cX1_clashes_ok {μ : zM} {x0 : Nat} {x1 : Nat} {r : Int32} (hf : fX1_clashes μ x0 x1 = some r) : zC yX1_clashes cX1_clashes 5 (some .int) 2 0 0 [.ref x0, .ref x1] μ (some (.int r)) μ := by
  replace hf := (zgd_s hf).2
  refine zC.of (by decide) (Nat.le_of_ble_eq_true rfl) (fun K hin => ?_)
  clear hin
  show zz K cX1_clashes (5, RX1, some .int, 2, 0, 0, some (.int r), μ) 0 0 0 [(0, .ref x0), (1, .ref x1)] [] μ
  refine zr_iconst 0 dX1_clashes_0 (by decide) ?_
  refine zr_istore_n [(2, .int 0), (0, .ref x0), (1, .ref x1)] dX1_clashes_1 (Nat.le_of_ble_eq_true rfl) rfl ?_
  refine zr_iconst 0 dX1_clashes_2 (by decide) ?_
  refine zr_istore_n [(3, .int 0), (2, .int 0), (0, .ref x0), (1, .ref x1)] dX1_clashes_3 (Nat.le_of_ble_eq_true rfl) rfl ?_
  replace hf := zb1_s hf
  obtain ⟨x2_5, hg, hf⟩ := hf
  have hj6 : zz K cX1_clashes (5, RX1, some .int, 2, 0, 0, some (.int r), μ) 0 0 49 [(2, .int x2_5)] [] μ := by
    refine zr_iload_n 0 dX1_clashes_49 rfl ?_
    cases hf
    exact zr_iret dX1_clashes_50
  clear hf
  have hf := hg
  clear hg
  have hL22 : ∀ (n : Nat) (x2_1 : Int32) (x3_2 : Int32), zf2 (fX1_clashes_l4 μ x1 x0) n x2_1 x3_2 = some x2_5 → zz K cX1_clashes (5, RX1, some .int, 2, 0, 0, some (.int r), μ) 0 0 4 [(0, .ref x0), (1, .ref x1), (2, .int x2_1), (3, .int x3_2)] [] μ := by
    intro n
    induction n with
    | zero => intro x2_1 x3_2 hf; cases hf
    | succ n ih4 =>
      intro x2_1 x3_2 hf
      replace hf := zf2_s hf
      generalize zf2 (fX1_clashes_l4 μ x1 x0) n = F3 at hf ih4
      unfold fX1_clashes_l4 at hf
      refine zr_iload_n 3 dX1_clashes_4 rfl ?_
      refine zr_aload_n 1 dX1_clashes_5 rfl ?_
      replace hf := zb1_s hf
      obtain ⟨v7, h8, hf⟩ := hf
      refine zr_get (zm_gI_g h8) zk9 (by decide) zl_121 dX1_clashes_6 ?_
      refine zr_icmp_ge 49 dX1_clashes_9 (by decide) (fun hc => ?_) (fun hc => ?_)
      · rw [if_pos hc] at hf
        cases hf
        exact zr_lv [2] rfl hj6
      · rw [if_neg hc] at hf
        refine zr_iconst 0 dX1_clashes_12 (by decide) ?_
        refine zr_istore [(4, .int 0), (0, .ref x0), (1, .ref x1), (2, .int x2_1), (3, .int x3_2)] dX1_clashes_13 (Nat.le_of_ble_eq_true rfl) rfl ?_
        replace hf := zb1_s hf
        obtain ⟨x2_13, hg, hf⟩ := hf
        have hj14 : zz K cX1_clashes (5, RX1, some .int, 2, 0, 0, some (.int r), μ) 0 0 43 [(0, .ref x0), (1, .ref x1), (2, .int x2_13), (3, .int x3_2)] [] μ := by
          refine zr_iinc (j := 3) (x3_2 + 1) [(3, .int (x3_2 + 1)), (0, .ref x0), (1, .ref x1), (2, .int x2_13)] dX1_clashes_43 rfl rfl (Nat.le_of_ble_eq_true rfl) rfl ?_
          refine zr_goto 4 dX1_clashes_46 (by decide) ?_
          exact zr_lv [1, 2, 3, 0] rfl (ih4 x2_13 (x3_2 + 1) hf)
        clear hf
        have hf := hg
        clear hg
        have hL21 : ∀ (n : Nat) (x2_9 : Int32) (x4_10 : Int32), zf2 (fX1_clashes_l15 μ x0 x3_2) n x2_9 x4_10 = some x2_13 → zz K cX1_clashes (5, RX1, some .int, 2, 0, 0, some (.int r), μ) 0 0 15 [(0, .ref x0), (1, .ref x1), (2, .int x2_9), (3, .int x3_2), (4, .int x4_10)] [] μ := by
          intro n
          induction n with
          | zero => intro x2_9 x4_10 hf; cases hf
          | succ n ih12 =>
            intro x2_9 x4_10 hf
            replace hf := zf2_s hf
            generalize zf2 (fX1_clashes_l15 μ x0 x3_2) n = F11 at hf ih12
            unfold fX1_clashes_l15 at hf
            refine zr_iload 4 dX1_clashes_15 rfl ?_
            refine zr_aload_n 0 dX1_clashes_17 rfl ?_
            replace hf := zb1_s hf
            obtain ⟨v15, h16, hf⟩ := hf
            refine zr_get (zm_gI_g h16) zk1 (by decide) zl_91 dX1_clashes_18 ?_
            refine zr_icmp_gt 43 dX1_clashes_21 (by decide) (fun hc => ?_) (fun hc => ?_)
            · rw [if_pos hc] at hf
              cases hf
              exact zr_lv [0, 1, 2, 3] rfl hj14
            · rw [if_neg hc] at hf
              refine zr_aload_n 0 dX1_clashes_24 rfl ?_
              refine zr_iload_n 3 dX1_clashes_25 rfl ?_
              refine zr_iload 4 dX1_clashes_26 rfl ?_
              replace hf := zb1_s hf
              obtain ⟨v18, h17, hf⟩ := hf
              refine zr_callV (ci := 1) [.int x3_2, .int x4_10] (cX1_isClash_ok h17) zvs_X1_isClash zl_168 zl_169 (fX1_isClash_ck h17) rfl rfl zl_167 rfl (Nat.le_of_ble_eq_true rfl) (Nat.le_of_ble_eq_true rfl) (Nat.le_of_ble_eq_true rfl) (Nat.le_of_ble_eq_true rfl) dX1_clashes_28 rfl ?_
              replace hf := zb1_s hf
              obtain ⟨x2_19, hg, hf⟩ := hf
              have hj20 : zz K cX1_clashes (5, RX1, some .int, 2, 0, 0, some (.int r), μ) 0 0 37 [(0, .ref x0), (1, .ref x1), (2, .int x2_19), (3, .int x3_2), (4, .int x4_10)] [] μ := by
                refine zr_iinc (j := 4) (x4_10 + 1) [(4, .int (x4_10 + 1)), (0, .ref x0), (1, .ref x1), (2, .int x2_19), (3, .int x3_2)] dX1_clashes_37 rfl rfl (Nat.le_of_ble_eq_true rfl) rfl ?_
                refine zr_goto 15 dX1_clashes_40 (by decide) ?_
                exact zr_lv [1, 2, 3, 4, 0] rfl (ih12 x2_19 (x4_10 + 1) hf)
              clear hf
              have hf := hg
              clear hg
              refine zr_if_eq 37 dX1_clashes_31 (by decide) (fun hc => ?_) (fun hc => ?_)
              · rw [if_pos hc] at hf
                cases hf
                exact zr_lv [0, 1, 2, 3, 4] rfl hj20
              · rw [if_neg hc] at hf
                refine zr_iinc (j := 2) (x2_9 + 1) [(2, .int (x2_9 + 1)), (0, .ref x0), (1, .ref x1), (3, .int x3_2), (4, .int x4_10)] dX1_clashes_34 rfl rfl (Nat.le_of_ble_eq_true rfl) rfl ?_
                cases hf
                exact zr_lv [1, 2, 0, 3, 4] rfl hj20
        exact zr_lv [1, 2, 3, 4, 0] rfl (hL21 _ x2_1 0 hf)
  exact zr_lv [2, 3, 1, 0] rfl (hL22 _ 0 0 hf)
