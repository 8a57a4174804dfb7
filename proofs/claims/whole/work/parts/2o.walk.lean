theorem dX12_chain_0 : decode cX12_chain 0 = .ok (.aload_n 0, 1) := by decide +kernel
theorem dX12_chain_1 : decode cX12_chain 1 = .ok (.iconst 0, 1) := by decide +kernel
theorem dX12_chain_2 : decode cX12_chain 2 = .ok (.putfield 93, 3) := by decide +kernel
theorem dX12_chain_5 : decode cX12_chain 5 = .ok (.aload_n 0, 1) := by decide +kernel
theorem dX12_chain_6 : decode cX12_chain 6 = .ok (.iload_n 1, 1) := by decide +kernel
theorem dX12_chain_7 : decode cX12_chain 7 = .ok (.invokevirtual 298, 3) := by decide +kernel
theorem dX12_chain_10 : decode cX12_chain 10 = .ok (.ifCond .eq 17, 3) := by decide +kernel
theorem dX12_chain_13 : decode cX12_chain 13 = .ok (.iload_n 2, 1) := by decide +kernel
theorem dX12_chain_14 : decode cX12_chain 14 = .ok (.invokestatic 307, 3) := by decide +kernel
theorem dX12_chain_17 : decode cX12_chain 17 = .ok (.ifCond .eq 10, 3) := by decide +kernel
theorem dX12_chain_20 : decode cX12_chain 20 = .ok (.iload_n 3, 1) := by decide +kernel
theorem dX12_chain_21 : decode cX12_chain 21 = .ok (.invokestatic 307, 3) := by decide +kernel
theorem dX12_chain_24 : decode cX12_chain 24 = .ok (.ifCond .ne 5, 3) := by decide +kernel
theorem dX12_chain_27 : decode cX12_chain 27 = .ok (.iconst (-1), 1) := by decide +kernel
theorem dX12_chain_28 : decode cX12_chain 28 = .ok (.ireturn, 1) := by decide +kernel
theorem dX12_chain_29 : decode cX12_chain 29 = .ok (.iload_n 2, 1) := by decide +kernel
theorem dX12_chain_30 : decode cX12_chain 30 = .ok (.istore 4, 2) := by decide +kernel
theorem dX12_chain_32 : decode cX12_chain 32 = .ok (.iconst 1, 1) := by decide +kernel
theorem dX12_chain_33 : decode cX12_chain 33 = .ok (.istore 5, 2) := by decide +kernel
theorem dX12_chain_35 : decode cX12_chain 35 = .ok (.iload 5, 2) := by decide +kernel
theorem dX12_chain_37 : decode cX12_chain 37 = .ok (.bipush 8, 2) := by decide +kernel
theorem dX12_chain_39 : decode cX12_chain 39 = .ok (.if_icmp .gt 28, 3) := by decide +kernel
theorem dX12_chain_42 : decode cX12_chain 42 = .ok (.aload_n 0, 1) := by decide +kernel
theorem dX12_chain_43 : decode cX12_chain 43 = .ok (.iconst 3, 1) := by decide +kernel
theorem dX12_chain_44 : decode cX12_chain 44 = .ok (.iload 4, 2) := by decide +kernel
theorem dX12_chain_46 : decode cX12_chain 46 = .ok (.iadd, 1) := by decide +kernel
theorem dX12_chain_47 : decode cX12_chain 47 = .ok (.invokevirtual 269, 3) := by decide +kernel
theorem dX12_chain_50 : decode cX12_chain 50 = .ok (.istore 4, 2) := by decide +kernel
theorem dX12_chain_52 : decode cX12_chain 52 = .ok (.iload 4, 2) := by decide +kernel
theorem dX12_chain_54 : decode cX12_chain 54 = .ok (.iload_n 3, 1) := by decide +kernel
theorem dX12_chain_55 : decode cX12_chain 55 = .ok (.if_icmp .ne 6, 3) := by decide +kernel
theorem dX12_chain_58 : decode cX12_chain 58 = .ok (.iload 5, 2) := by decide +kernel
theorem dX12_chain_60 : decode cX12_chain 60 = .ok (.ireturn, 1) := by decide +kernel
theorem dX12_chain_61 : decode cX12_chain 61 = .ok (.iinc 5 1, 3) := by decide +kernel
theorem dX12_chain_64 : decode cX12_chain 64 = .ok (.goto (-29), 3) := by decide +kernel
theorem dX12_chain_67 : decode cX12_chain 67 = .ok (.iconst (-1), 1) := by decide +kernel
theorem dX12_chain_68 : decode cX12_chain 68 = .ok (.ireturn, 1) := by decide +kernel
def fX12_chain_l35 (m4 : zM) (x0 : Nat) (x3 : Int32) (F12 : Int32 → Int32 → Option (Int32 × zM)) (x4_10 : Int32) (x5_11 : Int32) : Option (Int32 × zM) :=
  if 8 < x5_11 then (
  some ((-1), m4))
  else (
  zb1 (fX12_of m4 x0 (3 + x4_10)) fun v15 =>
  if v15 = x3 then (
  some (x5_11, m4))
  else (
  F12 v15 (x5_11 + 1)))
def fX12_chain (μ : zM) (x0 : Nat) (x1 : Int32) (x2 : Int32) (x3 : Int32) : Option (Int32 × zM) := zgd (zm_ck μ 12 x0) <|
  zb1 (zm_p μ 12 x0 0 (.int 0)) fun m1 =>
  zb2 (fX12_hand m1 x0 x1) fun v5 m4 =>
  if v5 = 0 then (
  some ((-1), m4))
  else (
  zb1 (fX12_isWord m4 x2) fun v7 =>
  if v7 = 0 then (
  some ((-1), m4))
  else (
  zb1 (fX12_isWord m4 x3) fun v9 =>
  if v9 = 0 then (
  some ((-1), m4))
  else (
  zf2 (fX12_chain_l35 m4 x0 x3) zfu x2 1)))
theorem fX12_chain_ck {μ : zM} {x0 : Nat} {x1 : Int32} {x2 : Int32} {x3 : Int32} {z : Int32 × zM} (h : fX12_chain μ x0 x1 x2 x3 = some z) : zm_ck μ 12 x0 = true := (zgd_s h).1
set_option maxHeartbeats 4000000 in
set_option maxRecDepth 100000 in
theorem cX12_chain_ok {μ : zM} {x0 : Nat} {x1 : Int32} {x2 : Int32} {x3 : Int32} {r : Int32} {mo : zM} (hf : fX12_chain μ x0 x1 x2 x3 = some (r, mo)) : zC yX12_chain cX12_chain 6 (some .int) 3 0 0 [.ref x0, .int x1, .int x2, .int x3] μ (some (.int r)) mo := by
  replace hf := (zgd_s hf).2
  refine zC.of (by decide) (Nat.le_of_ble_eq_true rfl) (fun K hin => ?_)
  clear hin
  show zz K cX12_chain (6, RX12, some .int, 3, 0, 0, some (.int r), mo) 0 0 0 [(0, .ref x0), (1, .int x1), (2, .int x2), (3, .int x3)] [] μ
  refine zr_aload_n 0 dX12_chain_0 rfl ?_
  refine zr_iconst 0 dX12_chain_1 (by decide) ?_
  replace hf := zb1_s hf
  obtain ⟨m1, h2, hf⟩ := hf
  refine zr_put h2 zk12 (by decide) zl_788 rfl rfl rfl dX12_chain_2 ?_
  refine zr_aload_n 0 dX12_chain_5 rfl ?_
  refine zr_iload_n 1 dX12_chain_6 rfl ?_
  replace hf := zb2_s hf
  obtain ⟨v5, m4, h3, hf⟩ := hf
  refine zr_callV (ci := 12) [.int x1] (cX12_hand_ok h3) zvs_X12_hand zl_946 zl_947 (fX12_hand_ck h3) rfl rfl zl_945 rfl (Nat.le_of_ble_eq_true rfl) (Nat.le_of_ble_eq_true rfl) (Nat.le_of_ble_eq_true rfl) (Nat.le_of_ble_eq_true rfl) dX12_chain_7 rfl ?_
  refine zr_if_eq 27 dX12_chain_10 (by decide) (fun hc => ?_) (fun hc => ?_)
  · rw [if_pos hc] at hf
    refine zr_iconst (-1) dX12_chain_27 (by decide) ?_
    cases hf
    exact zr_iret dX12_chain_28
  · rw [if_neg hc] at hf
    refine zr_iload_n 2 dX12_chain_13 rfl ?_
    replace hf := zb1_s hf
    obtain ⟨v7, h6, hf⟩ := hf
    refine zr_callS [.int x2] (cX12_isWord_ok h6) zvs_X12_isWord zl_958 zl_957 rfl (Nat.le_of_ble_eq_true rfl) (Nat.le_of_ble_eq_true rfl) (Nat.le_of_ble_eq_true rfl) (Nat.le_of_ble_eq_true rfl) dX12_chain_14 rfl ?_
    refine zr_if_eq 27 dX12_chain_17 (by decide) (fun hc => ?_) (fun hc => ?_)
    · rw [if_pos hc] at hf
      refine zr_iconst (-1) dX12_chain_27 (by decide) ?_
      cases hf
      exact zr_iret dX12_chain_28
    · rw [if_neg hc] at hf
      refine zr_iload_n 3 dX12_chain_20 rfl ?_
      replace hf := zb1_s hf
      obtain ⟨v9, h8, hf⟩ := hf
      refine zr_callS [.int x3] (cX12_isWord_ok h8) zvs_X12_isWord zl_958 zl_957 rfl (Nat.le_of_ble_eq_true rfl) (Nat.le_of_ble_eq_true rfl) (Nat.le_of_ble_eq_true rfl) (Nat.le_of_ble_eq_true rfl) dX12_chain_21 rfl ?_
      refine zr_if_ne 29 dX12_chain_24 (by decide) (fun hc => ?_) (fun hc => ?_)
      · rw [if_neg hc] at hf
        refine zr_iload_n 2 dX12_chain_29 rfl ?_
        refine zr_istore [(4, .int x2), (0, .ref x0), (1, .int x1), (2, .int x2), (3, .int x3)] dX12_chain_30 (Nat.le_of_ble_eq_true rfl) rfl ?_
        refine zr_iconst 1 dX12_chain_32 (by decide) ?_
        refine zr_istore [(5, .int 1), (4, .int x2), (0, .ref x0), (1, .int x1), (2, .int x2), (3, .int x3)] dX12_chain_33 (Nat.le_of_ble_eq_true rfl) rfl ?_
        have hL16 : ∀ (n : Nat) (x4_10 : Int32) (x5_11 : Int32), zf2 (fX12_chain_l35 m4 x0 x3) n x4_10 x5_11 = some (r, mo) → zz K cX12_chain (6, RX12, some .int, 3, 0, 0, some (.int r), mo) 0 0 35 [(0, .ref x0), (3, .int x3), (4, .int x4_10), (5, .int x5_11)] [] m4 := by
          intro n
          induction n with
          | zero => intro x4_10 x5_11 hf; cases hf
          | succ n ih13 =>
            intro x4_10 x5_11 hf
            replace hf := zf2_s hf
            generalize zf2 (fX12_chain_l35 m4 x0 x3) n = F12 at hf ih13
            unfold fX12_chain_l35 at hf
            refine zr_iload 3 dX12_chain_35 rfl ?_
            refine zr_bipush 8 dX12_chain_37 (by decide) ?_
            refine zr_icmp_gt 67 dX12_chain_39 (by decide) (fun hc => ?_) (fun hc => ?_)
            · rw [if_pos hc] at hf
              refine zr_iconst (-1) dX12_chain_67 (by decide) ?_
              cases hf
              exact zr_iret dX12_chain_68
            · rw [if_neg hc] at hf
              refine zr_aload_n 0 dX12_chain_42 rfl ?_
              refine zr_iconst 3 dX12_chain_43 (by decide) ?_
              refine zr_iload 2 dX12_chain_44 rfl ?_
              refine zr_iadd dX12_chain_46 ?_
              replace hf := zb1_s hf
              obtain ⟨v15, h14, hf⟩ := hf
              refine zr_callV (ci := 12) [.int (3 + x4_10)] (cX12_of_ok h14) zvs_X12_of zl_918 zl_919 (fX12_of_ck h14) rfl rfl zl_917 rfl (Nat.le_of_ble_eq_true rfl) (Nat.le_of_ble_eq_true rfl) (Nat.le_of_ble_eq_true rfl) (Nat.le_of_ble_eq_true rfl) dX12_chain_47 rfl ?_
              refine zr_istore [(4, .int v15), (0, .ref x0), (3, .int x3), (5, .int x5_11)] dX12_chain_50 (Nat.le_of_ble_eq_true rfl) rfl ?_
              refine zr_iload 0 dX12_chain_52 rfl ?_
              refine zr_iload_n 2 dX12_chain_54 rfl ?_
              refine zr_icmp_ne 61 dX12_chain_55 (by decide) (fun hc => ?_) (fun hc => ?_)
              · rw [if_neg hc] at hf
                refine zr_iinc (j := 3) (x5_11 + 1) [(5, .int (x5_11 + 1)), (4, .int v15), (0, .ref x0), (3, .int x3)] dX12_chain_61 rfl rfl (Nat.le_of_ble_eq_true rfl) rfl ?_
                refine zr_goto 35 dX12_chain_64 (by decide) ?_
                exact zr_lv [2, 3, 1, 0] rfl (ih13 v15 (x5_11 + 1) hf)
              · rw [if_pos hc] at hf
                refine zr_iload 3 dX12_chain_58 rfl ?_
                cases hf
                exact zr_iret dX12_chain_60
        exact zr_lv [2, 5, 1, 0] rfl (hL16 _ x2 1 hf)
      · rw [if_pos hc] at hf
        refine zr_iconst (-1) dX12_chain_27 (by decide) ?_
        cases hf
        exact zr_iret dX12_chain_28
theorem dX12_late_0 : decode cX12_late 0 = .ok (.aload_n 0, 1) := by decide +kernel
theorem dX12_late_1 : decode cX12_late 1 = .ok (.iconst 0, 1) := by decide +kernel
theorem dX12_late_2 : decode cX12_late 2 = .ok (.putfield 93, 3) := by decide +kernel
theorem dX12_late_5 : decode cX12_late 5 = .ok (.aload_n 0, 1) := by decide +kernel
theorem dX12_late_6 : decode cX12_late 6 = .ok (.iload_n 1, 1) := by decide +kernel
theorem dX12_late_7 : decode cX12_late 7 = .ok (.invokevirtual 298, 3) := by decide +kernel
theorem dX12_late_10 : decode cX12_late 10 = .ok (.ifCond .eq 38, 3) := by decide +kernel
theorem dX12_late_13 : decode cX12_late 13 = .ok (.aload_n 0, 1) := by decide +kernel
theorem dX12_late_14 : decode cX12_late 14 = .ok (.iload_n 2, 1) := by decide +kernel
theorem dX12_late_15 : decode cX12_late 15 = .ok (.invokevirtual 304, 3) := by decide +kernel
theorem dX12_late_18 : decode cX12_late 18 = .ok (.ifCond .eq 30, 3) := by decide +kernel
theorem dX12_late_21 : decode cX12_late 21 = .ok (.iload_n 3, 1) := by decide +kernel
theorem dX12_late_22 : decode cX12_late 22 = .ok (.invokestatic 307, 3) := by decide +kernel
theorem dX12_late_25 : decode cX12_late 25 = .ok (.ifCond .eq 23, 3) := by decide +kernel
theorem dX12_late_28 : decode cX12_late 28 = .ok (.iconst 2, 1) := by decide +kernel
theorem dX12_late_29 : decode cX12_late 29 = .ok (.aload_n 0, 1) := by decide +kernel
theorem dX12_late_30 : decode cX12_late 30 = .ok (.getfield 273, 3) := by decide +kernel
theorem dX12_late_33 : decode cX12_late 33 = .ok (.iload_n 2, 1) := by decide +kernel
theorem dX12_late_34 : decode cX12_late 34 = .ok (.isub, 1) := by decide +kernel
theorem dX12_late_35 : decode cX12_late 35 = .ok (.imul, 1) := by decide +kernel
theorem dX12_late_36 : decode cX12_late 36 = .ok (.aload_n 0, 1) := by decide +kernel
theorem dX12_late_37 : decode cX12_late 37 = .ok (.bipush 11, 2) := by decide +kernel
theorem dX12_late_39 : decode cX12_late 39 = .ok (.iload_n 3, 1) := by decide +kernel
theorem dX12_late_40 : decode cX12_late 40 = .ok (.iadd, 1) := by decide +kernel
theorem dX12_late_41 : decode cX12_late 41 = .ok (.invokevirtual 269, 3) := by decide +kernel
theorem dX12_late_44 : decode cX12_late 44 = .ok (.iadd, 1) := by decide +kernel
theorem dX12_late_45 : decode cX12_late 45 = .ok (.goto 4, 3) := by decide +kernel
theorem dX12_late_48 : decode cX12_late 48 = .ok (.iconst (-1), 1) := by decide +kernel
theorem dX12_late_49 : decode cX12_late 49 = .ok (.ireturn, 1) := by decide +kernel
def fX12_late (μ : zM) (x0 : Nat) (x1 : Int32) (x2 : Int32) (x3 : Int32) : Option (Int32 × zM) := zgd (zm_ck μ 12 x0) <|
  zb1 (zm_p μ 12 x0 0 (.int 0)) fun m1 =>
  zb2 (fX12_hand m1 x0 x1) fun v5 m4 =>
  zb1 (if v5 = 0 then (
  some (-1))
  else (
  zb1 (fX12_isPlace m4 x0 x2) fun v9 =>
  if v9 = 0 then (
  some (-1))
  else (
  zb1 (fX12_isWord m4 x3) fun v11 =>
  if v11 = 0 then (
  some (-1))
  else (
  zb1 (zm_gI m4 12 x0 24) fun v12 =>
  zb1 (fX12_of m4 x0 (11 + x3)) fun v15 =>
  some ((2 * (v12 - x2)) + v15))))) fun s6 =>
  some (s6, m4)
theorem fX12_late_ck {μ : zM} {x0 : Nat} {x1 : Int32} {x2 : Int32} {x3 : Int32} {z : Int32 × zM} (h : fX12_late μ x0 x1 x2 x3 = some z) : zm_ck μ 12 x0 = true := (zgd_s h).1
set_option maxHeartbeats 4000000 in
set_option maxRecDepth 100000 in
theorem cX12_late_ok {μ : zM} {x0 : Nat} {x1 : Int32} {x2 : Int32} {x3 : Int32} {r : Int32} {mo : zM} (hf : fX12_late μ x0 x1 x2 x3 = some (r, mo)) : zC yX12_late cX12_late 4 (some .int) 3 0 0 [.ref x0, .int x1, .int x2, .int x3] μ (some (.int r)) mo := by
  replace hf := (zgd_s hf).2
  refine zC.of (by decide) (Nat.le_of_ble_eq_true rfl) (fun K hin => ?_)
  clear hin
  show zz K cX12_late (4, RX12, some .int, 3, 0, 0, some (.int r), mo) 0 0 0 [(0, .ref x0), (1, .int x1), (2, .int x2), (3, .int x3)] [] μ
  refine zr_aload_n 0 dX12_late_0 rfl ?_
  refine zr_iconst 0 dX12_late_1 (by decide) ?_
  replace hf := zb1_s hf
  obtain ⟨m1, h2, hf⟩ := hf
  refine zr_put h2 zk12 (by decide) zl_788 rfl rfl rfl dX12_late_2 ?_
  refine zr_aload_n 0 dX12_late_5 rfl ?_
  refine zr_iload_n 1 dX12_late_6 rfl ?_
  replace hf := zb2_s hf
  obtain ⟨v5, m4, h3, hf⟩ := hf
  refine zr_callV (ci := 12) [.int x1] (cX12_hand_ok h3) zvs_X12_hand zl_946 zl_947 (fX12_hand_ck h3) rfl rfl zl_945 rfl (Nat.le_of_ble_eq_true rfl) (Nat.le_of_ble_eq_true rfl) (Nat.le_of_ble_eq_true rfl) (Nat.le_of_ble_eq_true rfl) dX12_late_7 rfl ?_
  replace hf := zb1_s hf
  obtain ⟨s6, hg, hf⟩ := hf
  have hj7 : zz K cX12_late (4, RX12, some .int, 3, 0, 0, some (.int r), mo) 0 0 49 [] [.int s6] m4 := by
    cases hf
    exact zr_iret dX12_late_49
  clear hf
  have hf := hg
  clear hg
  refine zr_if_eq 48 dX12_late_10 (by decide) (fun hc => ?_) (fun hc => ?_)
  · rw [if_pos hc] at hf
    refine zr_iconst (-1) dX12_late_48 (by decide) ?_
    cases hf
    exact zr_lv [] rfl hj7
  · rw [if_neg hc] at hf
    refine zr_aload_n 0 dX12_late_13 rfl ?_
    refine zr_iload_n 2 dX12_late_14 rfl ?_
    replace hf := zb1_s hf
    obtain ⟨v9, h8, hf⟩ := hf
    refine zr_callV (ci := 12) [.int x2] (cX12_isPlace_ok h8) zvs_X12_isPlace zl_954 zl_955 (fX12_isPlace_ck h8) rfl rfl zl_953 rfl (Nat.le_of_ble_eq_true rfl) (Nat.le_of_ble_eq_true rfl) (Nat.le_of_ble_eq_true rfl) (Nat.le_of_ble_eq_true rfl) dX12_late_15 rfl ?_
    refine zr_if_eq 48 dX12_late_18 (by decide) (fun hc => ?_) (fun hc => ?_)
    · rw [if_pos hc] at hf
      refine zr_iconst (-1) dX12_late_48 (by decide) ?_
      cases hf
      exact zr_lv [] rfl hj7
    · rw [if_neg hc] at hf
      refine zr_iload_n 3 dX12_late_21 rfl ?_
      replace hf := zb1_s hf
      obtain ⟨v11, h10, hf⟩ := hf
      refine zr_callS [.int x3] (cX12_isWord_ok h10) zvs_X12_isWord zl_958 zl_957 rfl (Nat.le_of_ble_eq_true rfl) (Nat.le_of_ble_eq_true rfl) (Nat.le_of_ble_eq_true rfl) (Nat.le_of_ble_eq_true rfl) dX12_late_22 rfl ?_
      refine zr_if_eq 48 dX12_late_25 (by decide) (fun hc => ?_) (fun hc => ?_)
      · rw [if_pos hc] at hf
        refine zr_iconst (-1) dX12_late_48 (by decide) ?_
        cases hf
        exact zr_lv [] rfl hj7
      · rw [if_neg hc] at hf
        refine zr_iconst 2 dX12_late_28 (by decide) ?_
        refine zr_aload_n 0 dX12_late_29 rfl ?_
        replace hf := zb1_s hf
        obtain ⟨v12, h13, hf⟩ := hf
        refine zr_get (zm_gI_g h13) zk12 (by decide) zl_920 dX12_late_30 ?_
        refine zr_iload_n 2 dX12_late_33 rfl ?_
        refine zr_isub dX12_late_34 ?_
        refine zr_imul dX12_late_35 ?_
        refine zr_aload_n 0 dX12_late_36 rfl ?_
        refine zr_bipush 11 dX12_late_37 (by decide) ?_
        refine zr_iload_n 3 dX12_late_39 rfl ?_
        refine zr_iadd dX12_late_40 ?_
        replace hf := zb1_s hf
        obtain ⟨v15, h14, hf⟩ := hf
        refine zr_callV (ci := 12) [.int (11 + x3)] (cX12_of_ok h14) zvs_X12_of zl_918 zl_919 (fX12_of_ck h14) rfl rfl zl_917 rfl (Nat.le_of_ble_eq_true rfl) (Nat.le_of_ble_eq_true rfl) (Nat.le_of_ble_eq_true rfl) (Nat.le_of_ble_eq_true rfl) dX12_late_41 rfl ?_
        refine zr_iadd dX12_late_44 ?_
        refine zr_goto 49 dX12_late_45 (by decide) ?_
        cases hf
        exact zr_lv [] rfl hj7
theorem dX12_isKind_0 : decode cX12_isKind 0 = .ok (.aload_n 0, 1) := by decide +kernel
theorem dX12_isKind_1 : decode cX12_isKind 1 = .ok (.iload_n 1, 1) := by decide +kernel
theorem dX12_isKind_2 : decode cX12_isKind 2 = .ok (.invokevirtual 301, 3) := by decide +kernel
theorem dX12_isKind_5 : decode cX12_isKind 5 = .ok (.ifCond .eq 19, 3) := by decide +kernel
theorem dX12_isKind_8 : decode cX12_isKind 8 = .ok (.aload_n 0, 1) := by decide +kernel
theorem dX12_isKind_9 : decode cX12_isKind 9 = .ok (.bipush 27, 2) := by decide +kernel
theorem dX12_isKind_11 : decode cX12_isKind 11 = .ok (.iload_n 1, 1) := by decide +kernel
theorem dX12_isKind_12 : decode cX12_isKind 12 = .ok (.iadd, 1) := by decide +kernel
theorem dX12_isKind_13 : decode cX12_isKind 13 = .ok (.invokevirtual 269, 3) := by decide +kernel
theorem dX12_isKind_16 : decode cX12_isKind 16 = .ok (.iload_n 2, 1) := by decide +kernel
theorem dX12_isKind_17 : decode cX12_isKind 17 = .ok (.if_icmp .ne 7, 3) := by decide +kernel
theorem dX12_isKind_20 : decode cX12_isKind 20 = .ok (.iconst 1, 1) := by decide +kernel
theorem dX12_isKind_21 : decode cX12_isKind 21 = .ok (.goto 4, 3) := by decide +kernel
theorem dX12_isKind_24 : decode cX12_isKind 24 = .ok (.iconst 0, 1) := by decide +kernel
theorem dX12_isKind_25 : decode cX12_isKind 25 = .ok (.ireturn, 1) := by decide +kernel
def fX12_isKind (μ : zM) (x0 : Nat) (x1 : Int32) (x2 : Int32) : Option (Int32) := zgd (zm_ck μ 12 x0) <|
  zb1 (fX12_isPerson μ x0 x1) fun v2 =>
  zb1 (if v2 = 0 then (
  some 0)
  else (
  zb1 (fX12_of μ x0 (27 + x1)) fun v8 =>
  if v8 = x2 then (
  some 1)
  else (
  some 0))) fun s3 =>
  zb1 (zbz s3) fun v5 =>
  some v5
theorem fX12_isKind_ck {μ : zM} {x0 : Nat} {x1 : Int32} {x2 : Int32} {z : Int32} (h : fX12_isKind μ x0 x1 x2 = some z) : zm_ck μ 12 x0 = true := (zgd_s h).1
set_option maxHeartbeats 4000000 in
set_option maxRecDepth 100000 in
theorem cX12_isKind_ok {μ : zM} {x0 : Nat} {x1 : Int32} {x2 : Int32} {r : Int32} (hf : fX12_isKind μ x0 x1 x2 = some r) : zC yX12_isKind cX12_isKind 3 (some .boolean) 2 0 0 [.ref x0, .int x1, .int x2] μ (some (.int r)) μ := by
  replace hf := (zgd_s hf).2
  refine zC.of (by decide) (Nat.le_of_ble_eq_true rfl) (fun K hin => ?_)
  clear hin
  show zz K cX12_isKind (3, RX12, some .boolean, 2, 0, 0, some (.int r), μ) 0 0 0 [(0, .ref x0), (1, .int x1), (2, .int x2)] [] μ
  refine zr_aload_n 0 dX12_isKind_0 rfl ?_
  refine zr_iload_n 1 dX12_isKind_1 rfl ?_
  replace hf := zb1_s hf
  obtain ⟨v2, h1, hf⟩ := hf
  refine zr_callV (ci := 12) [.int x1] (cX12_isPerson_ok h1) zvs_X12_isPerson zl_950 zl_951 (fX12_isPerson_ck h1) rfl rfl zl_949 rfl (Nat.le_of_ble_eq_true rfl) (Nat.le_of_ble_eq_true rfl) (Nat.le_of_ble_eq_true rfl) (Nat.le_of_ble_eq_true rfl) dX12_isKind_2 rfl ?_
  replace hf := zb1_s hf
  obtain ⟨s3, hg, hf⟩ := hf
  have hj4 : zz K cX12_isKind (3, RX12, some .boolean, 2, 0, 0, some (.int r), μ) 0 0 25 [] [.int s3] μ := by
    replace hf := zb1_s hf
    obtain ⟨v5, hn6, hf⟩ := hf
    obtain ⟨hn6, rfl⟩ := zbz_s hn6
    cases hf
    exact zr_zret hn6 dX12_isKind_25
  clear hf
  have hf := hg
  clear hg
  refine zr_if_eq 24 dX12_isKind_5 (by decide) (fun hc => ?_) (fun hc => ?_)
  · rw [if_pos hc] at hf
    refine zr_iconst 0 dX12_isKind_24 (by decide) ?_
    cases hf
    exact zr_lv [] rfl hj4
  · rw [if_neg hc] at hf
    refine zr_aload_n 0 dX12_isKind_8 rfl ?_
    refine zr_bipush 27 dX12_isKind_9 (by decide) ?_
    refine zr_iload_n 1 dX12_isKind_11 rfl ?_
    refine zr_iadd dX12_isKind_12 ?_
    replace hf := zb1_s hf
    obtain ⟨v8, h7, hf⟩ := hf
    refine zr_callV (ci := 12) [.int (27 + x1)] (cX12_of_ok h7) zvs_X12_of zl_918 zl_919 (fX12_of_ck h7) rfl rfl zl_917 rfl (Nat.le_of_ble_eq_true rfl) (Nat.le_of_ble_eq_true rfl) (Nat.le_of_ble_eq_true rfl) (Nat.le_of_ble_eq_true rfl) dX12_isKind_13 rfl ?_
    refine zr_iload_n 2 dX12_isKind_16 rfl ?_
    refine zr_icmp_ne 24 dX12_isKind_17 (by decide) (fun hc => ?_) (fun hc => ?_)
    · rw [if_neg hc] at hf
      refine zr_iconst 0 dX12_isKind_24 (by decide) ?_
      cases hf
      exact zr_lv [] rfl hj4
    · rw [if_pos hc] at hf
      refine zr_iconst 1 dX12_isKind_20 (by decide) ?_
      refine zr_goto 25 dX12_isKind_21 (by decide) ?_
      cases hf
      exact zr_lv [] rfl hj4
theorem zl_1044 : Cond.code yX12_isKind cX12_isKind 3 (some .boolean) ∈ zt := zt_at 1810 (by decide +kernel)
theorem zvs_X12_isKind : zvS yX12_isKind cX12_isKind 3 (some .boolean) 2 := ⟨zl_1044, zl_782, ⟨by decide +kernel, by decide +kernel, by decide +kernel⟩, by decide⟩
theorem zl_1045 : Cond.methodLink RX12 391 yX12_isKind ∈ zt := zt_at 1807 (by decide +kernel)
theorem zl_1046 : Cond.instanceMethod yX12_isKind ∈ zt := zt_at 1809 (by decide +kernel)
theorem zl_1047 : Cond.selects RX12 yX12_isKind yX12_isKind ∈ zt := zt_at 97 (by decide +kernel)
theorem dX12_rankOf_0 : decode cX12_rankOf 0 = .ok (.iconst 0, 1) := by decide +kernel
theorem dX12_rankOf_1 : decode cX12_rankOf 1 = .ok (.istore_n 3, 1) := by decide +kernel
theorem dX12_rankOf_2 : decode cX12_rankOf 2 = .ok (.iconst 0, 1) := by decide +kernel
theorem dX12_rankOf_3 : decode cX12_rankOf 3 = .ok (.istore 4, 2) := by decide +kernel
theorem dX12_rankOf_5 : decode cX12_rankOf 5 = .ok (.iload 4, 2) := by decide +kernel
theorem dX12_rankOf_7 : decode cX12_rankOf 7 = .ok (.aload_n 0, 1) := by decide +kernel
theorem dX12_rankOf_8 : decode cX12_rankOf 8 = .ok (.getfield 276, 3) := by decide +kernel
theorem dX12_rankOf_11 : decode cX12_rankOf 11 = .ok (.if_icmp .ge 95, 3) := by decide +kernel
theorem dX12_rankOf_14 : decode cX12_rankOf 14 = .ok (.iload_n 2, 1) := by decide +kernel
theorem dX12_rankOf_15 : decode cX12_rankOf 15 = .ok (.ifCond .eq 24, 3) := by decide +kernel
theorem dX12_rankOf_18 : decode cX12_rankOf 18 = .ok (.aload_n 0, 1) := by decide +kernel
theorem dX12_rankOf_19 : decode cX12_rankOf 19 = .ok (.bipush 39, 2) := by decide +kernel
theorem dX12_rankOf_21 : decode cX12_rankOf 21 = .ok (.iload_n 1, 1) := by decide +kernel
theorem dX12_rankOf_22 : decode cX12_rankOf 22 = .ok (.iadd, 1) := by decide +kernel
theorem dX12_rankOf_23 : decode cX12_rankOf 23 = .ok (.invokevirtual 269, 3) := by decide +kernel
theorem dX12_rankOf_26 : decode cX12_rankOf 26 = .ok (.aload_n 0, 1) := by decide +kernel
theorem dX12_rankOf_27 : decode cX12_rankOf 27 = .ok (.bipush 39, 2) := by decide +kernel
theorem dX12_rankOf_29 : decode cX12_rankOf 29 = .ok (.iload 4, 2) := by decide +kernel
theorem dX12_rankOf_31 : decode cX12_rankOf 31 = .ok (.iadd, 1) := by decide +kernel
theorem dX12_rankOf_32 : decode cX12_rankOf 32 = .ok (.invokevirtual 269, 3) := by decide +kernel
theorem dX12_rankOf_35 : decode cX12_rankOf 35 = .ok (.isub, 1) := by decide +kernel
theorem dX12_rankOf_36 : decode cX12_rankOf 36 = .ok (.goto 21, 3) := by decide +kernel
theorem dX12_rankOf_39 : decode cX12_rankOf 39 = .ok (.aload_n 0, 1) := by decide +kernel
theorem dX12_rankOf_40 : decode cX12_rankOf 40 = .ok (.bipush 39, 2) := by decide +kernel
theorem dX12_rankOf_42 : decode cX12_rankOf 42 = .ok (.iload 4, 2) := by decide +kernel
theorem dX12_rankOf_44 : decode cX12_rankOf 44 = .ok (.iadd, 1) := by decide +kernel
theorem dX12_rankOf_45 : decode cX12_rankOf 45 = .ok (.invokevirtual 269, 3) := by decide +kernel
theorem dX12_rankOf_48 : decode cX12_rankOf 48 = .ok (.aload_n 0, 1) := by decide +kernel
theorem dX12_rankOf_49 : decode cX12_rankOf 49 = .ok (.bipush 39, 2) := by decide +kernel
theorem dX12_rankOf_51 : decode cX12_rankOf 51 = .ok (.iload_n 1, 1) := by decide +kernel
theorem dX12_rankOf_52 : decode cX12_rankOf 52 = .ok (.iadd, 1) := by decide +kernel
theorem dX12_rankOf_53 : decode cX12_rankOf 53 = .ok (.invokevirtual 269, 3) := by decide +kernel
theorem dX12_rankOf_56 : decode cX12_rankOf 56 = .ok (.isub, 1) := by decide +kernel
theorem dX12_rankOf_57 : decode cX12_rankOf 57 = .ok (.istore 5, 2) := by decide +kernel
theorem dX12_rankOf_59 : decode cX12_rankOf 59 = .ok (.iload_n 3, 1) := by decide +kernel
theorem dX12_rankOf_60 : decode cX12_rankOf 60 = .ok (.aload_n 0, 1) := by decide +kernel
theorem dX12_rankOf_61 : decode cX12_rankOf 61 = .ok (.iload 4, 2) := by decide +kernel
theorem dX12_rankOf_63 : decode cX12_rankOf 63 = .ok (.aload_n 0, 1) := by decide +kernel
theorem dX12_rankOf_64 : decode cX12_rankOf 64 = .ok (.bipush 27, 2) := by decide +kernel
theorem dX12_rankOf_66 : decode cX12_rankOf 66 = .ok (.iload_n 1, 1) := by decide +kernel
theorem dX12_rankOf_67 : decode cX12_rankOf 67 = .ok (.iadd, 1) := by decide +kernel
theorem dX12_rankOf_68 : decode cX12_rankOf 68 = .ok (.invokevirtual 269, 3) := by decide +kernel
theorem dX12_rankOf_71 : decode cX12_rankOf 71 = .ok (.invokevirtual 391, 3) := by decide +kernel
theorem dX12_rankOf_74 : decode cX12_rankOf 74 = .ok (.ifCond .eq 23, 3) := by decide +kernel
theorem dX12_rankOf_77 : decode cX12_rankOf 77 = .ok (.iload 5, 2) := by decide +kernel
theorem dX12_rankOf_79 : decode cX12_rankOf 79 = .ok (.ifCond .gt 14, 3) := by decide +kernel
theorem dX12_rankOf_82 : decode cX12_rankOf 82 = .ok (.iload 5, 2) := by decide +kernel
theorem dX12_rankOf_84 : decode cX12_rankOf 84 = .ok (.ifCond .ne 13, 3) := by decide +kernel
theorem dX12_rankOf_87 : decode cX12_rankOf 87 = .ok (.iload 4, 2) := by decide +kernel
theorem dX12_rankOf_89 : decode cX12_rankOf 89 = .ok (.iload_n 1, 1) := by decide +kernel
theorem dX12_rankOf_90 : decode cX12_rankOf 90 = .ok (.if_icmp .ge 7, 3) := by decide +kernel
theorem dX12_rankOf_93 : decode cX12_rankOf 93 = .ok (.iconst 1, 1) := by decide +kernel
theorem dX12_rankOf_94 : decode cX12_rankOf 94 = .ok (.goto 4, 3) := by decide +kernel
theorem dX12_rankOf_97 : decode cX12_rankOf 97 = .ok (.iconst 0, 1) := by decide +kernel
theorem dX12_rankOf_98 : decode cX12_rankOf 98 = .ok (.iadd, 1) := by decide +kernel
theorem dX12_rankOf_99 : decode cX12_rankOf 99 = .ok (.istore_n 3, 1) := by decide +kernel
theorem dX12_rankOf_100 : decode cX12_rankOf 100 = .ok (.iinc 4 1, 3) := by decide +kernel
theorem dX12_rankOf_103 : decode cX12_rankOf 103 = .ok (.goto (-98), 3) := by decide +kernel
theorem dX12_rankOf_106 : decode cX12_rankOf 106 = .ok (.iload_n 3, 1) := by decide +kernel
theorem dX12_rankOf_107 : decode cX12_rankOf 107 = .ok (.ireturn, 1) := by decide +kernel
def fX12_rankOf_l5 (μ : zM) (x0 : Nat) (x2 : Int32) (x1 : Int32) (F3 : Int32 → Int32 → Option (Int32)) (x3_1 : Int32) (x4_2 : Int32) : Option (Int32) :=
  zb1 (zm_gI μ 12 x0 25) fun v7 =>
  if v7 ≤ x4_2 then (
  some x3_1)
  else (
  zb1 (if x2 = 0 then (
  zb1 (fX12_of μ x0 (39 + x4_2)) fun v18 =>
  zb1 (fX12_of μ x0 (39 + x1)) fun v20 =>
  some (v18 - v20))
  else (
  zb1 (fX12_of μ x0 (39 + x1)) fun v22 =>
  zb1 (fX12_of μ x0 (39 + x4_2)) fun v24 =>
  some (v22 - v24))) fun s9 =>
  zb1 (fX12_of μ x0 (27 + x1)) fun v12 =>
  zb1 (fX12_isKind μ x0 x4_2 v12) fun v14 =>
  zb1 (if v14 = 0 then (
  some 0)
  else (
  if 0 < s9 then (
  some 1)
  else (
  if s9 = 0 then (
  if x1 ≤ x4_2 then (
  some 0)
  else (
  some 1))
  else (
  some 0)))) fun s15 =>
  F3 (x3_1 + s15) (x4_2 + 1))
def fX12_rankOf (μ : zM) (x0 : Nat) (x1 : Int32) (x2 : Int32) : Option (Int32) := zgd (zm_ck μ 12 x0) <|
  zb1 (zf2 (fX12_rankOf_l5 μ x0 x2 x1) zfu 0 0) fun x3_5 =>
  some x3_5
theorem fX12_rankOf_ck {μ : zM} {x0 : Nat} {x1 : Int32} {x2 : Int32} {z : Int32} (h : fX12_rankOf μ x0 x1 x2 = some z) : zm_ck μ 12 x0 = true := (zgd_s h).1
set_option maxHeartbeats 4000000 in
set_option maxRecDepth 100000 in
theorem cX12_rankOf_ok {μ : zM} {x0 : Nat} {x1 : Int32} {x2 : Int32} {r : Int32} (hf : fX12_rankOf μ x0 x1 x2 = some r) : zC yX12_rankOf cX12_rankOf 6 (some .int) 3 0 0 [.ref x0, .int x1, .int x2] μ (some (.int r)) μ := by
  replace hf := (zgd_s hf).2
  refine zC.of (by decide) (Nat.le_of_ble_eq_true rfl) (fun K hin => ?_)
  clear hin
  show zz K cX12_rankOf (6, RX12, some .int, 3, 0, 0, some (.int r), μ) 0 0 0 [(0, .ref x0), (1, .int x1), (2, .int x2)] [] μ
  refine zr_iconst 0 dX12_rankOf_0 (by decide) ?_
  refine zr_istore_n [(3, .int 0), (0, .ref x0), (1, .int x1), (2, .int x2)] dX12_rankOf_1 (Nat.le_of_ble_eq_true rfl) rfl ?_
  refine zr_iconst 0 dX12_rankOf_2 (by decide) ?_
  refine zr_istore [(4, .int 0), (3, .int 0), (0, .ref x0), (1, .int x1), (2, .int x2)] dX12_rankOf_3 (Nat.le_of_ble_eq_true rfl) rfl ?_
  replace hf := zb1_s hf
  obtain ⟨x3_5, hg, hf⟩ := hf
  have hj6 : zz K cX12_rankOf (6, RX12, some .int, 3, 0, 0, some (.int r), μ) 0 0 106 [(3, .int x3_5)] [] μ := by
    refine zr_iload_n 0 dX12_rankOf_106 rfl ?_
    cases hf
    exact zr_iret dX12_rankOf_107
  clear hf
  have hf := hg
  clear hg
  have hL25 : ∀ (n : Nat) (x3_1 : Int32) (x4_2 : Int32), zf2 (fX12_rankOf_l5 μ x0 x2 x1) n x3_1 x4_2 = some x3_5 → zz K cX12_rankOf (6, RX12, some .int, 3, 0, 0, some (.int r), μ) 0 0 5 [(0, .ref x0), (1, .int x1), (2, .int x2), (3, .int x3_1), (4, .int x4_2)] [] μ := by
    intro n
    induction n with
    | zero => intro x3_1 x4_2 hf; cases hf
    | succ n ih4 =>
      intro x3_1 x4_2 hf
      replace hf := zf2_s hf
      generalize zf2 (fX12_rankOf_l5 μ x0 x2 x1) n = F3 at hf ih4
      unfold fX12_rankOf_l5 at hf
      refine zr_iload 4 dX12_rankOf_5 rfl ?_
      refine zr_aload_n 0 dX12_rankOf_7 rfl ?_
      replace hf := zb1_s hf
      obtain ⟨v7, h8, hf⟩ := hf
      refine zr_get (zm_gI_g h8) zk12 (by decide) zl_921 dX12_rankOf_8 ?_
      refine zr_icmp_ge 106 dX12_rankOf_11 (by decide) (fun hc => ?_) (fun hc => ?_)
      · rw [if_pos hc] at hf
        cases hf
        exact zr_lv [3] rfl hj6
      · rw [if_neg hc] at hf
        refine zr_iload_n 2 dX12_rankOf_14 rfl ?_
        replace hf := zb1_s hf
        obtain ⟨s9, hg, hf⟩ := hf
        have hj10 : zz K cX12_rankOf (6, RX12, some .int, 3, 0, 0, some (.int r), μ) 0 0 57 [(0, .ref x0), (1, .int x1), (2, .int x2), (3, .int x3_1), (4, .int x4_2)] [.int s9] μ := by
          refine zr_istore [(5, .int s9), (0, .ref x0), (1, .int x1), (2, .int x2), (3, .int x3_1), (4, .int x4_2)] dX12_rankOf_57 (Nat.le_of_ble_eq_true rfl) rfl ?_
          refine zr_iload_n 4 dX12_rankOf_59 rfl ?_
          refine zr_aload_n 1 dX12_rankOf_60 rfl ?_
          refine zr_iload 5 dX12_rankOf_61 rfl ?_
          refine zr_aload_n 1 dX12_rankOf_63 rfl ?_
          refine zr_bipush 27 dX12_rankOf_64 (by decide) ?_
          refine zr_iload_n 2 dX12_rankOf_66 rfl ?_
          refine zr_iadd dX12_rankOf_67 ?_
          replace hf := zb1_s hf
          obtain ⟨v12, h11, hf⟩ := hf
          refine zr_callV (ci := 12) [.int (27 + x1)] (cX12_of_ok h11) zvs_X12_of zl_918 zl_919 (fX12_of_ck h11) rfl rfl zl_917 rfl (Nat.le_of_ble_eq_true rfl) (Nat.le_of_ble_eq_true rfl) (Nat.le_of_ble_eq_true rfl) (Nat.le_of_ble_eq_true rfl) dX12_rankOf_68 rfl ?_
          replace hf := zb1_s hf
          obtain ⟨v14, h13, hf⟩ := hf
          refine zr_callV (ci := 12) [.int x4_2, .int v12] (cX12_isKind_ok h13) zvs_X12_isKind zl_1046 zl_1047 (fX12_isKind_ck h13) rfl rfl zl_1045 rfl (Nat.le_of_ble_eq_true rfl) (Nat.le_of_ble_eq_true rfl) (Nat.le_of_ble_eq_true rfl) (Nat.le_of_ble_eq_true rfl) dX12_rankOf_71 rfl ?_
          replace hf := zb1_s hf
          obtain ⟨s15, hg, hf⟩ := hf
          have hj16 : zz K cX12_rankOf (6, RX12, some .int, 3, 0, 0, some (.int r), μ) 0 0 98 [(0, .ref x0), (1, .int x1), (2, .int x2), (4, .int x4_2)] [.int s15, .int x3_1] μ := by
            refine zr_iadd dX12_rankOf_98 ?_
            refine zr_istore_n [(3, .int (x3_1 + s15)), (0, .ref x0), (1, .int x1), (2, .int x2), (4, .int x4_2)] dX12_rankOf_99 (Nat.le_of_ble_eq_true rfl) rfl ?_
            refine zr_iinc (j := 4) (x4_2 + 1) [(4, .int (x4_2 + 1)), (3, .int (x3_1 + s15)), (0, .ref x0), (1, .int x1), (2, .int x2)] dX12_rankOf_100 rfl rfl (Nat.le_of_ble_eq_true rfl) rfl ?_
            refine zr_goto 5 dX12_rankOf_103 (by decide) ?_
            exact zr_lv [2, 3, 4, 1, 0] rfl (ih4 (x3_1 + s15) (x4_2 + 1) hf)
          clear hf
          have hf := hg
          clear hg
          refine zr_if_eq 97 dX12_rankOf_74 (by decide) (fun hc => ?_) (fun hc => ?_)
          · rw [if_pos hc] at hf
            refine zr_iconst 0 dX12_rankOf_97 (by decide) ?_
            cases hf
            exact zr_lv [1, 2, 3, 5] rfl hj16
          · rw [if_neg hc] at hf
            refine zr_iload 0 dX12_rankOf_77 rfl ?_
            refine zr_if_gt 93 dX12_rankOf_79 (by decide) (fun hc => ?_) (fun hc => ?_)
            · rw [if_pos hc] at hf
              refine zr_iconst 1 dX12_rankOf_93 (by decide) ?_
              refine zr_goto 98 dX12_rankOf_94 (by decide) ?_
              cases hf
              exact zr_lv [1, 2, 3, 5] rfl hj16
            · rw [if_neg hc] at hf
              refine zr_iload 0 dX12_rankOf_82 rfl ?_
              refine zr_if_ne 97 dX12_rankOf_84 (by decide) (fun hc => ?_) (fun hc => ?_)
              · rw [if_neg hc] at hf
                refine zr_iconst 0 dX12_rankOf_97 (by decide) ?_
                cases hf
                exact zr_lv [1, 2, 3, 5] rfl hj16
              · rw [if_pos hc] at hf
                refine zr_iload 5 dX12_rankOf_87 rfl ?_
                refine zr_iload_n 2 dX12_rankOf_89 rfl ?_
                refine zr_icmp_ge 97 dX12_rankOf_90 (by decide) (fun hc => ?_) (fun hc => ?_)
                · rw [if_pos hc] at hf
                  refine zr_iconst 0 dX12_rankOf_97 (by decide) ?_
                  cases hf
                  exact zr_lv [1, 2, 3, 5] rfl hj16
                · rw [if_neg hc] at hf
                  refine zr_iconst 1 dX12_rankOf_93 (by decide) ?_
                  refine zr_goto 98 dX12_rankOf_94 (by decide) ?_
                  cases hf
                  exact zr_lv [1, 2, 3, 5] rfl hj16
        clear hf
        have hf := hg
        clear hg
        refine zr_if_eq 39 dX12_rankOf_15 (by decide) (fun hc => ?_) (fun hc => ?_)
        · rw [if_pos hc] at hf
          refine zr_aload_n 0 dX12_rankOf_39 rfl ?_
          refine zr_bipush 39 dX12_rankOf_40 (by decide) ?_
          refine zr_iload 4 dX12_rankOf_42 rfl ?_
          refine zr_iadd dX12_rankOf_44 ?_
          replace hf := zb1_s hf
          obtain ⟨v18, h17, hf⟩ := hf
          refine zr_callV (ci := 12) [.int (39 + x4_2)] (cX12_of_ok h17) zvs_X12_of zl_918 zl_919 (fX12_of_ck h17) rfl rfl zl_917 rfl (Nat.le_of_ble_eq_true rfl) (Nat.le_of_ble_eq_true rfl) (Nat.le_of_ble_eq_true rfl) (Nat.le_of_ble_eq_true rfl) dX12_rankOf_45 rfl ?_
          refine zr_aload_n 0 dX12_rankOf_48 rfl ?_
          refine zr_bipush 39 dX12_rankOf_49 (by decide) ?_
          refine zr_iload_n 1 dX12_rankOf_51 rfl ?_
          refine zr_iadd dX12_rankOf_52 ?_
          replace hf := zb1_s hf
          obtain ⟨v20, h19, hf⟩ := hf
          refine zr_callV (ci := 12) [.int (39 + x1)] (cX12_of_ok h19) zvs_X12_of zl_918 zl_919 (fX12_of_ck h19) rfl rfl zl_917 rfl (Nat.le_of_ble_eq_true rfl) (Nat.le_of_ble_eq_true rfl) (Nat.le_of_ble_eq_true rfl) (Nat.le_of_ble_eq_true rfl) dX12_rankOf_53 rfl ?_
          refine zr_isub dX12_rankOf_56 ?_
          cases hf
          exact zr_lv [0, 1, 2, 3, 4] rfl hj10
        · rw [if_neg hc] at hf
          refine zr_aload_n 0 dX12_rankOf_18 rfl ?_
          refine zr_bipush 39 dX12_rankOf_19 (by decide) ?_
          refine zr_iload_n 1 dX12_rankOf_21 rfl ?_
          refine zr_iadd dX12_rankOf_22 ?_
          replace hf := zb1_s hf
          obtain ⟨v22, h21, hf⟩ := hf
          refine zr_callV (ci := 12) [.int (39 + x1)] (cX12_of_ok h21) zvs_X12_of zl_918 zl_919 (fX12_of_ck h21) rfl rfl zl_917 rfl (Nat.le_of_ble_eq_true rfl) (Nat.le_of_ble_eq_true rfl) (Nat.le_of_ble_eq_true rfl) (Nat.le_of_ble_eq_true rfl) dX12_rankOf_23 rfl ?_
          refine zr_aload_n 0 dX12_rankOf_26 rfl ?_
          refine zr_bipush 39 dX12_rankOf_27 (by decide) ?_
          refine zr_iload 4 dX12_rankOf_29 rfl ?_
          refine zr_iadd dX12_rankOf_31 ?_
          replace hf := zb1_s hf
          obtain ⟨v24, h23, hf⟩ := hf
          refine zr_callV (ci := 12) [.int (39 + x4_2)] (cX12_of_ok h23) zvs_X12_of zl_918 zl_919 (fX12_of_ck h23) rfl rfl zl_917 rfl (Nat.le_of_ble_eq_true rfl) (Nat.le_of_ble_eq_true rfl) (Nat.le_of_ble_eq_true rfl) (Nat.le_of_ble_eq_true rfl) dX12_rankOf_32 rfl ?_
          refine zr_isub dX12_rankOf_35 ?_
          refine zr_goto 57 dX12_rankOf_36 (by decide) ?_
          cases hf
          exact zr_lv [0, 1, 2, 3, 4] rfl hj10
  exact zr_lv [2, 3, 4, 1, 0] rfl (hL25 _ 0 0 hf)
theorem zl_1048 : Cond.fieldLink RX12 394 "TwoEchoesModel" "sellers" "I" ∈ zt := zt_at 1380 (by decide +kernel)
theorem zl_1049 : Cond.fieldLink RX12 397 "TwoEchoesModel" "buyers" "I" ∈ zt := zt_at 1381 (by decide +kernel)
theorem zl_1050 : Cond.code yX12_rankOf cX12_rankOf 6 (some .int) ∈ zt := zt_at 1814 (by decide +kernel)
theorem zvs_X12_rankOf : zvS yX12_rankOf cX12_rankOf 6 (some .int) 2 := ⟨zl_1050, zl_782, ⟨by decide +kernel, by decide +kernel, by decide +kernel⟩, by decide⟩
theorem zl_1051 : Cond.methodLink RX12 400 yX12_rankOf ∈ zt := zt_at 1811 (by decide +kernel)
theorem zl_1052 : Cond.instanceMethod yX12_rankOf ∈ zt := zt_at 1813 (by decide +kernel)
theorem zl_1053 : Cond.selects RX12 yX12_rankOf yX12_rankOf ∈ zt := zt_at 98 (by decide +kernel)
theorem dX12_layMarket_0 : decode cX12_layMarket 0 = .ok (.aload_n 0, 1) := by decide +kernel
theorem dX12_layMarket_1 : decode cX12_layMarket 1 = .ok (.iconst 0, 1) := by decide +kernel
theorem dX12_layMarket_2 : decode cX12_layMarket 2 = .ok (.putfield 394, 3) := by decide +kernel
theorem dX12_layMarket_5 : decode cX12_layMarket 5 = .ok (.aload_n 0, 1) := by decide +kernel
theorem dX12_layMarket_6 : decode cX12_layMarket 6 = .ok (.iconst 0, 1) := by decide +kernel
theorem dX12_layMarket_7 : decode cX12_layMarket 7 = .ok (.putfield 397, 3) := by decide +kernel
theorem dX12_layMarket_10 : decode cX12_layMarket 10 = .ok (.iconst 0, 1) := by decide +kernel
theorem dX12_layMarket_11 : decode cX12_layMarket 11 = .ok (.istore_n 1, 1) := by decide +kernel
theorem dX12_layMarket_12 : decode cX12_layMarket 12 = .ok (.iload_n 1, 1) := by decide +kernel
theorem dX12_layMarket_13 : decode cX12_layMarket 13 = .ok (.aload_n 0, 1) := by decide +kernel
theorem dX12_layMarket_14 : decode cX12_layMarket 14 = .ok (.getfield 276, 3) := by decide +kernel
theorem dX12_layMarket_17 : decode cX12_layMarket 17 = .ok (.if_icmp .ge 85, 3) := by decide +kernel
theorem dX12_layMarket_20 : decode cX12_layMarket 20 = .ok (.aload_n 0, 1) := by decide +kernel
theorem dX12_layMarket_21 : decode cX12_layMarket 21 = .ok (.iload_n 1, 1) := by decide +kernel
theorem dX12_layMarket_22 : decode cX12_layMarket 22 = .ok (.iconst 0, 1) := by decide +kernel
theorem dX12_layMarket_23 : decode cX12_layMarket 23 = .ok (.invokevirtual 391, 3) := by decide +kernel
theorem dX12_layMarket_26 : decode cX12_layMarket 26 = .ok (.ifCond .eq 32, 3) := by decide +kernel
theorem dX12_layMarket_29 : decode cX12_layMarket 29 = .ok (.aload_n 0, 1) := by decide +kernel
theorem dX12_layMarket_30 : decode cX12_layMarket 30 = .ok (.getfield 59, 3) := by decide +kernel
theorem dX12_layMarket_33 : decode cX12_layMarket 33 = .ok (.aload_n 0, 1) := by decide +kernel
theorem dX12_layMarket_34 : decode cX12_layMarket 34 = .ok (.iload_n 1, 1) := by decide +kernel
theorem dX12_layMarket_35 : decode cX12_layMarket 35 = .ok (.iconst 1, 1) := by decide +kernel
theorem dX12_layMarket_36 : decode cX12_layMarket 36 = .ok (.invokevirtual 400, 3) := by decide +kernel
theorem dX12_layMarket_39 : decode cX12_layMarket 39 = .ok (.aload_n 0, 1) := by decide +kernel
theorem dX12_layMarket_40 : decode cX12_layMarket 40 = .ok (.bipush 39, 2) := by decide +kernel
theorem dX12_layMarket_42 : decode cX12_layMarket 42 = .ok (.iload_n 1, 1) := by decide +kernel
theorem dX12_layMarket_43 : decode cX12_layMarket 43 = .ok (.iadd, 1) := by decide +kernel
theorem dX12_layMarket_44 : decode cX12_layMarket 44 = .ok (.invokevirtual 269, 3) := by decide +kernel
theorem dX12_layMarket_47 : decode cX12_layMarket 47 = .ok (.iastore, 1) := by decide +kernel
theorem dX12_layMarket_48 : decode cX12_layMarket 48 = .ok (.aload_n 0, 1) := by decide +kernel
theorem dX12_layMarket_49 : decode cX12_layMarket 49 = .ok (.dup, 1) := by decide +kernel
theorem dX12_layMarket_50 : decode cX12_layMarket 50 = .ok (.getfield 394, 3) := by decide +kernel
theorem dX12_layMarket_53 : decode cX12_layMarket 53 = .ok (.iconst 1, 1) := by decide +kernel
theorem dX12_layMarket_54 : decode cX12_layMarket 54 = .ok (.iadd, 1) := by decide +kernel
theorem dX12_layMarket_55 : decode cX12_layMarket 55 = .ok (.putfield 394, 3) := by decide +kernel
theorem dX12_layMarket_58 : decode cX12_layMarket 58 = .ok (.aload_n 0, 1) := by decide +kernel
theorem dX12_layMarket_59 : decode cX12_layMarket 59 = .ok (.iload_n 1, 1) := by decide +kernel
theorem dX12_layMarket_60 : decode cX12_layMarket 60 = .ok (.iconst 1, 1) := by decide +kernel
theorem dX12_layMarket_61 : decode cX12_layMarket 61 = .ok (.invokevirtual 391, 3) := by decide +kernel
theorem dX12_layMarket_64 : decode cX12_layMarket 64 = .ok (.ifCond .eq 32, 3) := by decide +kernel
theorem dX12_layMarket_67 : decode cX12_layMarket 67 = .ok (.aload_n 0, 1) := by decide +kernel
theorem dX12_layMarket_68 : decode cX12_layMarket 68 = .ok (.getfield 62, 3) := by decide +kernel
theorem dX12_layMarket_71 : decode cX12_layMarket 71 = .ok (.aload_n 0, 1) := by decide +kernel
theorem dX12_layMarket_72 : decode cX12_layMarket 72 = .ok (.iload_n 1, 1) := by decide +kernel
theorem dX12_layMarket_73 : decode cX12_layMarket 73 = .ok (.iconst 0, 1) := by decide +kernel
theorem dX12_layMarket_74 : decode cX12_layMarket 74 = .ok (.invokevirtual 400, 3) := by decide +kernel
theorem dX12_layMarket_77 : decode cX12_layMarket 77 = .ok (.aload_n 0, 1) := by decide +kernel
theorem dX12_layMarket_78 : decode cX12_layMarket 78 = .ok (.bipush 39, 2) := by decide +kernel
theorem dX12_layMarket_80 : decode cX12_layMarket 80 = .ok (.iload_n 1, 1) := by decide +kernel
theorem dX12_layMarket_81 : decode cX12_layMarket 81 = .ok (.iadd, 1) := by decide +kernel
theorem dX12_layMarket_82 : decode cX12_layMarket 82 = .ok (.invokevirtual 269, 3) := by decide +kernel
theorem dX12_layMarket_85 : decode cX12_layMarket 85 = .ok (.iastore, 1) := by decide +kernel
theorem dX12_layMarket_86 : decode cX12_layMarket 86 = .ok (.aload_n 0, 1) := by decide +kernel
theorem dX12_layMarket_87 : decode cX12_layMarket 87 = .ok (.dup, 1) := by decide +kernel
theorem dX12_layMarket_88 : decode cX12_layMarket 88 = .ok (.getfield 397, 3) := by decide +kernel
theorem dX12_layMarket_91 : decode cX12_layMarket 91 = .ok (.iconst 1, 1) := by decide +kernel
theorem dX12_layMarket_92 : decode cX12_layMarket 92 = .ok (.iadd, 1) := by decide +kernel
theorem dX12_layMarket_93 : decode cX12_layMarket 93 = .ok (.putfield 397, 3) := by decide +kernel
theorem dX12_layMarket_96 : decode cX12_layMarket 96 = .ok (.iinc 1 1, 3) := by decide +kernel
theorem dX12_layMarket_99 : decode cX12_layMarket 99 = .ok (.goto (-87), 3) := by decide +kernel
theorem dX12_layMarket_102 : decode cX12_layMarket 102 = .ok (.return_, 1) := by decide +kernel
def fX12_layMarket_l12 (x0 : Nat) (F7 : Int32 → zM → Option (zM)) (x1_5 : Int32) (m6 : zM) : Option (zM) :=
  zb1 (zm_gI m6 12 x0 25) fun v11 =>
  if v11 ≤ x1_5 then (
  some m6)
  else (
  zb1 (fX12_isKind m6 x0 x1_5 0) fun v14 =>
  zb1 (if v14 = 0 then (
  some m6)
  else (
  zb1 (zm_gR m6 12 x0 37) fun v33 =>
  zb1 (fX12_rankOf m6 x0 x1_5 1) fun v36 =>
  zb1 (fX12_of m6 x0 (39 + x1_5)) fun v38 =>
  zb1 (zm_sI m6 0 v33 v36 v38) fun m39 =>
  zb1 (zm_gI m39 12 x0 39) fun v41 =>
  zb1 (zm_p m39 12 x0 39 (.int (v41 + 1))) fun m43 =>
  some m43)) fun m15 =>
  zb1 (fX12_isKind m15 x0 x1_5 1) fun v18 =>
  zb1 (if v18 = 0 then (
  some m15)
  else (
  zb1 (zm_gR m15 12 x0 38) fun v21 =>
  zb1 (fX12_rankOf m15 x0 x1_5 0) fun v24 =>
  zb1 (fX12_of m15 x0 (39 + x1_5)) fun v26 =>
  zb1 (zm_sI m15 0 v21 v24 v26) fun m27 =>
  zb1 (zm_gI m27 12 x0 40) fun v29 =>
  zb1 (zm_p m27 12 x0 40 (.int (v29 + 1))) fun m31 =>
  some m31)) fun m19 =>
  F7 (x1_5 + 1) m19)
def fX12_layMarket (μ : zM) (x0 : Nat) : Option (zM) := zgd (zm_ck μ 12 x0) <|
  zb1 (zm_p μ 12 x0 39 (.int 0)) fun m1 =>
  zb1 (zm_p m1 12 x0 40 (.int 0)) fun m3 =>
  zb1 (zf2 (fX12_layMarket_l12 x0) zfu 0 m3) fun m9 =>
  some m9
theorem fX12_layMarket_ck {μ : zM} {x0 : Nat} {z : zM} (h : fX12_layMarket μ x0 = some z) : zm_ck μ 12 x0 = true := (zgd_s h).1
set_option maxHeartbeats 4000000 in
set_option maxRecDepth 100000 in
theorem cX12_layMarket_ok {μ : zM} {x0 : Nat} {mo : zM} (hf : fX12_layMarket μ x0 = some mo) : zC yX12_layMarket cX12_layMarket 2 (none) 4 0 0 [.ref x0] μ (none) mo := by
  replace hf := (zgd_s hf).2
  refine zC.of (by decide) (Nat.le_of_ble_eq_true rfl) (fun K hin => ?_)
  clear hin
  show zz K cX12_layMarket (2, RX12, none, 4, 0, 0, none, mo) 0 0 0 [(0, .ref x0)] [] μ
  refine zr_aload_n 0 dX12_layMarket_0 rfl ?_
  refine zr_iconst 0 dX12_layMarket_1 (by decide) ?_
  replace hf := zb1_s hf
  obtain ⟨m1, h2, hf⟩ := hf
  refine zr_put h2 zk12 (by decide) zl_1048 rfl rfl rfl dX12_layMarket_2 ?_
  refine zr_aload_n 0 dX12_layMarket_5 rfl ?_
  refine zr_iconst 0 dX12_layMarket_6 (by decide) ?_
  replace hf := zb1_s hf
  obtain ⟨m3, h4, hf⟩ := hf
  refine zr_put h4 zk12 (by decide) zl_1049 rfl rfl rfl dX12_layMarket_7 ?_
  refine zr_iconst 0 dX12_layMarket_10 (by decide) ?_
  refine zr_istore_n [(1, .int 0), (0, .ref x0)] dX12_layMarket_11 (Nat.le_of_ble_eq_true rfl) rfl ?_
  replace hf := zb1_s hf
  obtain ⟨m9, hg, hf⟩ := hf
  have hj10 : zz K cX12_layMarket (2, RX12, none, 4, 0, 0, none, mo) 0 0 102 [] [] m9 := by
    cases hf
    exact zr_vret dX12_layMarket_102
  clear hf
  have hf := hg
  clear hg
  have hL45 : ∀ (n : Nat) (x1_5 : Int32) (m6 : zM), zf2 (fX12_layMarket_l12 x0) n x1_5 m6 = some m9 → zz K cX12_layMarket (2, RX12, none, 4, 0, 0, none, mo) 0 0 12 [(0, .ref x0), (1, .int x1_5)] [] m6 := by
    intro n
    induction n with
    | zero => intro x1_5 m6 hf; cases hf
    | succ n ih8 =>
      intro x1_5 m6 hf
      replace hf := zf2_s hf
      generalize zf2 (fX12_layMarket_l12 x0) n = F7 at hf ih8
      unfold fX12_layMarket_l12 at hf
      refine zr_iload_n 1 dX12_layMarket_12 rfl ?_
      refine zr_aload_n 0 dX12_layMarket_13 rfl ?_
      replace hf := zb1_s hf
      obtain ⟨v11, h12, hf⟩ := hf
      refine zr_get (zm_gI_g h12) zk12 (by decide) zl_921 dX12_layMarket_14 ?_
      refine zr_icmp_ge 102 dX12_layMarket_17 (by decide) (fun hc => ?_) (fun hc => ?_)
      · rw [if_pos hc] at hf
        cases hf
        exact zr_lv [] rfl hj10
      · rw [if_neg hc] at hf
        refine zr_aload_n 0 dX12_layMarket_20 rfl ?_
        refine zr_iload_n 1 dX12_layMarket_21 rfl ?_
        refine zr_iconst 0 dX12_layMarket_22 (by decide) ?_
        replace hf := zb1_s hf
        obtain ⟨v14, h13, hf⟩ := hf
        refine zr_callV (ci := 12) [.int x1_5, .int 0] (cX12_isKind_ok h13) zvs_X12_isKind zl_1046 zl_1047 (fX12_isKind_ck h13) rfl rfl zl_1045 rfl (Nat.le_of_ble_eq_true rfl) (Nat.le_of_ble_eq_true rfl) (Nat.le_of_ble_eq_true rfl) (Nat.le_of_ble_eq_true rfl) dX12_layMarket_23 rfl ?_
        replace hf := zb1_s hf
        obtain ⟨m15, hg, hf⟩ := hf
        have hj16 : zz K cX12_layMarket (2, RX12, none, 4, 0, 0, none, mo) 0 0 58 [(0, .ref x0), (1, .int x1_5)] [] m15 := by
          refine zr_aload_n 0 dX12_layMarket_58 rfl ?_
          refine zr_iload_n 1 dX12_layMarket_59 rfl ?_
          refine zr_iconst 1 dX12_layMarket_60 (by decide) ?_
          replace hf := zb1_s hf
          obtain ⟨v18, h17, hf⟩ := hf
          refine zr_callV (ci := 12) [.int x1_5, .int 1] (cX12_isKind_ok h17) zvs_X12_isKind zl_1046 zl_1047 (fX12_isKind_ck h17) rfl rfl zl_1045 rfl (Nat.le_of_ble_eq_true rfl) (Nat.le_of_ble_eq_true rfl) (Nat.le_of_ble_eq_true rfl) (Nat.le_of_ble_eq_true rfl) dX12_layMarket_61 rfl ?_
          replace hf := zb1_s hf
          obtain ⟨m19, hg, hf⟩ := hf
          have hj20 : zz K cX12_layMarket (2, RX12, none, 4, 0, 0, none, mo) 0 0 96 [(0, .ref x0), (1, .int x1_5)] [] m19 := by
            refine zr_iinc (j := 1) (x1_5 + 1) [(1, .int (x1_5 + 1)), (0, .ref x0)] dX12_layMarket_96 rfl rfl (Nat.le_of_ble_eq_true rfl) rfl ?_
            refine zr_goto 12 dX12_layMarket_99 (by decide) ?_
            exact zr_lv [1, 0] rfl (ih8 (x1_5 + 1) m19 hf)
          clear hf
          have hf := hg
          clear hg
          refine zr_if_eq 96 dX12_layMarket_64 (by decide) (fun hc => ?_) (fun hc => ?_)
          · rw [if_pos hc] at hf
            cases hf
            exact zr_lv [0, 1] rfl hj20
          · rw [if_neg hc] at hf
            refine zr_aload_n 0 dX12_layMarket_67 rfl ?_
            replace hf := zb1_s hf
            obtain ⟨v21, h22, hf⟩ := hf
            refine zr_get (zm_gR_g h22) zk12 (by decide) zl_770 dX12_layMarket_68 ?_
            refine zr_aload_n 0 dX12_layMarket_71 rfl ?_
            refine zr_iload_n 1 dX12_layMarket_72 rfl ?_
            refine zr_iconst 0 dX12_layMarket_73 (by decide) ?_
            replace hf := zb1_s hf
            obtain ⟨v24, h23, hf⟩ := hf
            refine zr_callV (ci := 12) [.int x1_5, .int 0] (cX12_rankOf_ok h23) zvs_X12_rankOf zl_1052 zl_1053 (fX12_rankOf_ck h23) rfl rfl zl_1051 rfl (Nat.le_of_ble_eq_true rfl) (Nat.le_of_ble_eq_true rfl) (Nat.le_of_ble_eq_true rfl) (Nat.le_of_ble_eq_true rfl) dX12_layMarket_74 rfl ?_
            refine zr_aload_n 0 dX12_layMarket_77 rfl ?_
            refine zr_bipush 39 dX12_layMarket_78 (by decide) ?_
            refine zr_iload_n 1 dX12_layMarket_80 rfl ?_
            refine zr_iadd dX12_layMarket_81 ?_
            replace hf := zb1_s hf
            obtain ⟨v26, h25, hf⟩ := hf
            refine zr_callV (ci := 12) [.int (39 + x1_5)] (cX12_of_ok h25) zvs_X12_of zl_918 zl_919 (fX12_of_ck h25) rfl rfl zl_917 rfl (Nat.le_of_ble_eq_true rfl) (Nat.le_of_ble_eq_true rfl) (Nat.le_of_ble_eq_true rfl) (Nat.le_of_ble_eq_true rfl) dX12_layMarket_82 rfl ?_
            replace hf := zb1_s hf
            obtain ⟨m27, h28, hf⟩ := hf
            refine zr_iast h28 dX12_layMarket_85 ?_
            refine zr_aload_n 0 dX12_layMarket_86 rfl ?_
            refine zr_dup dX12_layMarket_87 rfl ?_
            replace hf := zb1_s hf
            obtain ⟨v29, h30, hf⟩ := hf
            refine zr_get (zm_gI_g h30) zk12 (by decide) zl_1049 dX12_layMarket_88 ?_
            refine zr_iconst 1 dX12_layMarket_91 (by decide) ?_
            refine zr_iadd dX12_layMarket_92 ?_
            replace hf := zb1_s hf
            obtain ⟨m31, h32, hf⟩ := hf
            refine zr_put h32 zk12 (by decide) zl_1049 rfl rfl rfl dX12_layMarket_93 ?_
            cases hf
            exact zr_lv [0, 1] rfl hj20
        clear hf
        have hf := hg
        clear hg
        refine zr_if_eq 58 dX12_layMarket_26 (by decide) (fun hc => ?_) (fun hc => ?_)
        · rw [if_pos hc] at hf
          cases hf
          exact zr_lv [0, 1] rfl hj16
        · rw [if_neg hc] at hf
          refine zr_aload_n 0 dX12_layMarket_29 rfl ?_
          replace hf := zb1_s hf
          obtain ⟨v33, h34, hf⟩ := hf
          refine zr_get (zm_gR_g h34) zk12 (by decide) zl_769 dX12_layMarket_30 ?_
          refine zr_aload_n 0 dX12_layMarket_33 rfl ?_
          refine zr_iload_n 1 dX12_layMarket_34 rfl ?_
          refine zr_iconst 1 dX12_layMarket_35 (by decide) ?_
          replace hf := zb1_s hf
          obtain ⟨v36, h35, hf⟩ := hf
          refine zr_callV (ci := 12) [.int x1_5, .int 1] (cX12_rankOf_ok h35) zvs_X12_rankOf zl_1052 zl_1053 (fX12_rankOf_ck h35) rfl rfl zl_1051 rfl (Nat.le_of_ble_eq_true rfl) (Nat.le_of_ble_eq_true rfl) (Nat.le_of_ble_eq_true rfl) (Nat.le_of_ble_eq_true rfl) dX12_layMarket_36 rfl ?_
          refine zr_aload_n 0 dX12_layMarket_39 rfl ?_
          refine zr_bipush 39 dX12_layMarket_40 (by decide) ?_
          refine zr_iload_n 1 dX12_layMarket_42 rfl ?_
          refine zr_iadd dX12_layMarket_43 ?_
          replace hf := zb1_s hf
          obtain ⟨v38, h37, hf⟩ := hf
          refine zr_callV (ci := 12) [.int (39 + x1_5)] (cX12_of_ok h37) zvs_X12_of zl_918 zl_919 (fX12_of_ck h37) rfl rfl zl_917 rfl (Nat.le_of_ble_eq_true rfl) (Nat.le_of_ble_eq_true rfl) (Nat.le_of_ble_eq_true rfl) (Nat.le_of_ble_eq_true rfl) dX12_layMarket_44 rfl ?_
          replace hf := zb1_s hf
          obtain ⟨m39, h40, hf⟩ := hf
          refine zr_iast h40 dX12_layMarket_47 ?_
          refine zr_aload_n 0 dX12_layMarket_48 rfl ?_
          refine zr_dup dX12_layMarket_49 rfl ?_
          replace hf := zb1_s hf
          obtain ⟨v41, h42, hf⟩ := hf
          refine zr_get (zm_gI_g h42) zk12 (by decide) zl_1048 dX12_layMarket_50 ?_
          refine zr_iconst 1 dX12_layMarket_53 (by decide) ?_
          refine zr_iadd dX12_layMarket_54 ?_
          replace hf := zb1_s hf
          obtain ⟨m43, h44, hf⟩ := hf
          refine zr_put h44 zk12 (by decide) zl_1048 rfl rfl rfl dX12_layMarket_55 ?_
          cases hf
          exact zr_lv [0, 1] rfl hj16
  exact zr_lv [1, 0] rfl (hL45 _ 0 m3 hf)
theorem zl_1054 : Cond.code yX12_lesser cX12_lesser 2 (some .int) ∈ zt := zt_at 1821 (by decide +kernel)
theorem zvs_X12_lesser : zvS yX12_lesser cX12_lesser 2 (some .int) 2 := ⟨zl_1054, zl_782, ⟨by decide +kernel, by decide +kernel, by decide +kernel⟩, by decide⟩
theorem zl_1055 : Cond.methodLink RX12 404 yX12_lesser ∈ zt := zt_at 1819 (by decide +kernel)
theorem zl_1056 : Cond.static yX12_lesser ∈ zt := zt_at 1820 (by decide +kernel)
theorem dX12_clears_0 : decode cX12_clears 0 = .ok (.iconst 0, 1) := by decide +kernel
theorem dX12_clears_1 : decode cX12_clears 1 = .ok (.istore_n 2, 1) := by decide +kernel
theorem dX12_clears_2 : decode cX12_clears 2 = .ok (.iconst 0, 1) := by decide +kernel
theorem dX12_clears_3 : decode cX12_clears 3 = .ok (.istore_n 3, 1) := by decide +kernel
theorem dX12_clears_4 : decode cX12_clears 4 = .ok (.iconst 0, 1) := by decide +kernel
theorem dX12_clears_5 : decode cX12_clears 5 = .ok (.istore 4, 2) := by decide +kernel
theorem dX12_clears_7 : decode cX12_clears 7 = .ok (.iconst 0, 1) := by decide +kernel
theorem dX12_clears_8 : decode cX12_clears 8 = .ok (.istore 5, 2) := by decide +kernel
theorem dX12_clears_10 : decode cX12_clears 10 = .ok (.iconst 0, 1) := by decide +kernel
theorem dX12_clears_11 : decode cX12_clears 11 = .ok (.istore 6, 2) := by decide +kernel
theorem dX12_clears_13 : decode cX12_clears 13 = .ok (.iload 6, 2) := by decide +kernel
theorem dX12_clears_15 : decode cX12_clears 15 = .ok (.aload_n 0, 1) := by decide +kernel
theorem dX12_clears_16 : decode cX12_clears 16 = .ok (.getfield 394, 3) := by decide +kernel
theorem dX12_clears_19 : decode cX12_clears 19 = .ok (.if_icmp .ge 47, 3) := by decide +kernel
theorem dX12_clears_22 : decode cX12_clears 22 = .ok (.iload_n 2, 1) := by decide +kernel
theorem dX12_clears_23 : decode cX12_clears 23 = .ok (.aload_n 0, 1) := by decide +kernel
theorem dX12_clears_24 : decode cX12_clears 24 = .ok (.getfield 59, 3) := by decide +kernel
theorem dX12_clears_27 : decode cX12_clears 27 = .ok (.iload 6, 2) := by decide +kernel
theorem dX12_clears_29 : decode cX12_clears 29 = .ok (.iaload, 1) := by decide +kernel
theorem dX12_clears_30 : decode cX12_clears 30 = .ok (.iload_n 1, 1) := by decide +kernel
theorem dX12_clears_31 : decode cX12_clears 31 = .ok (.if_icmp .ge 7, 3) := by decide +kernel
theorem dX12_clears_34 : decode cX12_clears 34 = .ok (.iconst 1, 1) := by decide +kernel
theorem dX12_clears_35 : decode cX12_clears 35 = .ok (.goto 4, 3) := by decide +kernel
theorem dX12_clears_38 : decode cX12_clears 38 = .ok (.iconst 0, 1) := by decide +kernel
theorem dX12_clears_39 : decode cX12_clears 39 = .ok (.iadd, 1) := by decide +kernel
theorem dX12_clears_40 : decode cX12_clears 40 = .ok (.istore_n 2, 1) := by decide +kernel
theorem dX12_clears_41 : decode cX12_clears 41 = .ok (.iload_n 3, 1) := by decide +kernel
theorem dX12_clears_42 : decode cX12_clears 42 = .ok (.aload_n 0, 1) := by decide +kernel
theorem dX12_clears_43 : decode cX12_clears 43 = .ok (.getfield 59, 3) := by decide +kernel
theorem dX12_clears_46 : decode cX12_clears 46 = .ok (.iload 6, 2) := by decide +kernel
theorem dX12_clears_48 : decode cX12_clears 48 = .ok (.iaload, 1) := by decide +kernel
theorem dX12_clears_49 : decode cX12_clears 49 = .ok (.iload_n 1, 1) := by decide +kernel
theorem dX12_clears_50 : decode cX12_clears 50 = .ok (.if_icmp .gt 7, 3) := by decide +kernel
theorem dX12_clears_53 : decode cX12_clears 53 = .ok (.iconst 1, 1) := by decide +kernel
theorem dX12_clears_54 : decode cX12_clears 54 = .ok (.goto 4, 3) := by decide +kernel
theorem dX12_clears_57 : decode cX12_clears 57 = .ok (.iconst 0, 1) := by decide +kernel
theorem dX12_clears_58 : decode cX12_clears 58 = .ok (.iadd, 1) := by decide +kernel
theorem dX12_clears_59 : decode cX12_clears 59 = .ok (.istore_n 3, 1) := by decide +kernel
theorem dX12_clears_60 : decode cX12_clears 60 = .ok (.iinc 6 1, 3) := by decide +kernel
theorem dX12_clears_63 : decode cX12_clears 63 = .ok (.goto (-50), 3) := by decide +kernel
theorem dX12_clears_66 : decode cX12_clears 66 = .ok (.iconst 0, 1) := by decide +kernel
theorem dX12_clears_67 : decode cX12_clears 67 = .ok (.istore 6, 2) := by decide +kernel
theorem dX12_clears_69 : decode cX12_clears 69 = .ok (.iload 6, 2) := by decide +kernel
theorem dX12_clears_71 : decode cX12_clears 71 = .ok (.aload_n 0, 1) := by decide +kernel
theorem dX12_clears_72 : decode cX12_clears 72 = .ok (.getfield 397, 3) := by decide +kernel
theorem dX12_clears_75 : decode cX12_clears 75 = .ok (.if_icmp .ge 51, 3) := by decide +kernel
theorem dX12_clears_78 : decode cX12_clears 78 = .ok (.iload 4, 2) := by decide +kernel
theorem dX12_clears_80 : decode cX12_clears 80 = .ok (.aload_n 0, 1) := by decide +kernel
theorem dX12_clears_81 : decode cX12_clears 81 = .ok (.getfield 62, 3) := by decide +kernel
theorem dX12_clears_84 : decode cX12_clears 84 = .ok (.iload 6, 2) := by decide +kernel
theorem dX12_clears_86 : decode cX12_clears 86 = .ok (.iaload, 1) := by decide +kernel
theorem dX12_clears_87 : decode cX12_clears 87 = .ok (.iload_n 1, 1) := by decide +kernel
theorem dX12_clears_88 : decode cX12_clears 88 = .ok (.if_icmp .le 7, 3) := by decide +kernel
theorem dX12_clears_91 : decode cX12_clears 91 = .ok (.iconst 1, 1) := by decide +kernel
theorem dX12_clears_92 : decode cX12_clears 92 = .ok (.goto 4, 3) := by decide +kernel
theorem dX12_clears_95 : decode cX12_clears 95 = .ok (.iconst 0, 1) := by decide +kernel
theorem dX12_clears_96 : decode cX12_clears 96 = .ok (.iadd, 1) := by decide +kernel
theorem dX12_clears_97 : decode cX12_clears 97 = .ok (.istore 4, 2) := by decide +kernel
theorem dX12_clears_99 : decode cX12_clears 99 = .ok (.iload 5, 2) := by decide +kernel
theorem dX12_clears_101 : decode cX12_clears 101 = .ok (.aload_n 0, 1) := by decide +kernel
theorem dX12_clears_102 : decode cX12_clears 102 = .ok (.getfield 62, 3) := by decide +kernel
theorem dX12_clears_105 : decode cX12_clears 105 = .ok (.iload 6, 2) := by decide +kernel
theorem dX12_clears_107 : decode cX12_clears 107 = .ok (.iaload, 1) := by decide +kernel
theorem dX12_clears_108 : decode cX12_clears 108 = .ok (.iload_n 1, 1) := by decide +kernel
theorem dX12_clears_109 : decode cX12_clears 109 = .ok (.if_icmp .lt 7, 3) := by decide +kernel
theorem dX12_clears_112 : decode cX12_clears 112 = .ok (.iconst 1, 1) := by decide +kernel
theorem dX12_clears_113 : decode cX12_clears 113 = .ok (.goto 4, 3) := by decide +kernel
theorem dX12_clears_116 : decode cX12_clears 116 = .ok (.iconst 0, 1) := by decide +kernel
theorem dX12_clears_117 : decode cX12_clears 117 = .ok (.iadd, 1) := by decide +kernel
theorem dX12_clears_118 : decode cX12_clears 118 = .ok (.istore 5, 2) := by decide +kernel
theorem dX12_clears_120 : decode cX12_clears 120 = .ok (.iinc 6 1, 3) := by decide +kernel
theorem dX12_clears_123 : decode cX12_clears 123 = .ok (.goto (-54), 3) := by decide +kernel
theorem dX12_clears_126 : decode cX12_clears 126 = .ok (.iload_n 2, 1) := by decide +kernel
theorem dX12_clears_127 : decode cX12_clears 127 = .ok (.iload 4, 2) := by decide +kernel
theorem dX12_clears_129 : decode cX12_clears 129 = .ok (.invokestatic 168, 3) := by decide +kernel
theorem dX12_clears_132 : decode cX12_clears 132 = .ok (.iload_n 3, 1) := by decide +kernel
theorem dX12_clears_133 : decode cX12_clears 133 = .ok (.iload 5, 2) := by decide +kernel
theorem dX12_clears_135 : decode cX12_clears 135 = .ok (.invokestatic 404, 3) := by decide +kernel
theorem dX12_clears_138 : decode cX12_clears 138 = .ok (.if_icmp .gt 7, 3) := by decide +kernel
theorem dX12_clears_141 : decode cX12_clears 141 = .ok (.iconst 1, 1) := by decide +kernel
theorem dX12_clears_142 : decode cX12_clears 142 = .ok (.goto 4, 3) := by decide +kernel
theorem dX12_clears_145 : decode cX12_clears 145 = .ok (.iconst 0, 1) := by decide +kernel
theorem dX12_clears_146 : decode cX12_clears 146 = .ok (.ireturn, 1) := by decide +kernel
def fX12_clears_l13 (μ : zM) (x0 : Nat) (x1 : Int32) (F4 : Int32 → Int32 → Int32 → Option (Int32 × Int32)) (x2_1 : Int32) (x3_2 : Int32) (x6_3 : Int32) : Option (Int32 × Int32) :=
  zb1 (zm_gI μ 12 x0 39) fun v9 =>
  if v9 ≤ x6_3 then (
  some (x2_1, x3_2))
  else (
  zb1 (zm_gR μ 12 x0 37) fun v11 =>
  zb1 (zm_aI μ 0 v11 x6_3) fun v13 =>
  zb1 (if x1 ≤ v13 then (
  some 0)
  else (
  some 1)) fun s15 =>
  zb1 (zm_gR μ 12 x0 37) fun v17 =>
  zb1 (zm_aI μ 0 v17 x6_3) fun v19 =>
  zb1 (if x1 < v19 then (
  some 0)
  else (
  some 1)) fun s21 =>
  F4 (x2_1 + s15) (x3_2 + s21) (x6_3 + 1))
def fX12_clears_l69 (μ : zM) (x0 : Nat) (x1 : Int32) (F27 : Int32 → Int32 → Int32 → Option (Int32 × Int32)) (x4_24 : Int32) (x5_25 : Int32) (x6_26 : Int32) : Option (Int32 × Int32) :=
  zb1 (zm_gI μ 12 x0 40) fun v32 =>
  if v32 ≤ x6_26 then (
  some (x4_24, x5_25))
  else (
  zb1 (zm_gR μ 12 x0 38) fun v34 =>
  zb1 (zm_aI μ 0 v34 x6_26) fun v36 =>
  zb1 (if v36 ≤ x1 then (
  some 0)
  else (
  some 1)) fun s38 =>
  zb1 (zm_gR μ 12 x0 38) fun v40 =>
  zb1 (zm_aI μ 0 v40 x6_26) fun v42 =>
  zb1 (if v42 < x1 then (
  some 0)
  else (
  some 1)) fun s44 =>
  F27 (x4_24 + s38) (x5_25 + s44) (x6_26 + 1))
def fX12_clears (μ : zM) (x0 : Nat) (x1 : Int32) : Option (Int32) := zgd (zm_ck μ 12 x0) <|
  zb2 (zf3 (fX12_clears_l13 μ x0 x1) zfu 0 0 0) fun x2_6 x3_7 =>
  zb2 (zf3 (fX12_clears_l69 μ x0 x1) zfu 0 0 0) fun x4_29 x5_30 =>
  zb1 (fX12_greater μ x2_6 x4_29) fun v48 =>
  zb1 (fX12_lesser μ x3_7 x5_30) fun v50 =>
  zb1 (if v50 < v48 then (
  some 0)
  else (
  some 1)) fun s51 =>
  zb1 (zbz s51) fun v53 =>
  some v53
theorem fX12_clears_ck {μ : zM} {x0 : Nat} {x1 : Int32} {z : Int32} (h : fX12_clears μ x0 x1 = some z) : zm_ck μ 12 x0 = true := (zgd_s h).1
set_option maxHeartbeats 4000000 in
set_option maxRecDepth 100000 in
theorem cX12_clears_ok {μ : zM} {x0 : Nat} {x1 : Int32} {r : Int32} (hf : fX12_clears μ x0 x1 = some r) : zC yX12_clears cX12_clears 7 (some .boolean) 1 0 0 [.ref x0, .int x1] μ (some (.int r)) μ := by
  replace hf := (zgd_s hf).2
  refine zC.of (by decide) (Nat.le_of_ble_eq_true rfl) (fun K hin => ?_)
  clear hin
  show zz K cX12_clears (7, RX12, some .boolean, 1, 0, 0, some (.int r), μ) 0 0 0 [(0, .ref x0), (1, .int x1)] [] μ
  refine zr_iconst 0 dX12_clears_0 (by decide) ?_
  refine zr_istore_n [(2, .int 0), (0, .ref x0), (1, .int x1)] dX12_clears_1 (Nat.le_of_ble_eq_true rfl) rfl ?_
  refine zr_iconst 0 dX12_clears_2 (by decide) ?_
  refine zr_istore_n [(3, .int 0), (2, .int 0), (0, .ref x0), (1, .int x1)] dX12_clears_3 (Nat.le_of_ble_eq_true rfl) rfl ?_
  refine zr_iconst 0 dX12_clears_4 (by decide) ?_
  refine zr_istore [(4, .int 0), (3, .int 0), (2, .int 0), (0, .ref x0), (1, .int x1)] dX12_clears_5 (Nat.le_of_ble_eq_true rfl) rfl ?_
  refine zr_iconst 0 dX12_clears_7 (by decide) ?_
  refine zr_istore [(5, .int 0), (4, .int 0), (3, .int 0), (2, .int 0), (0, .ref x0), (1, .int x1)] dX12_clears_8 (Nat.le_of_ble_eq_true rfl) rfl ?_
  refine zr_iconst 0 dX12_clears_10 (by decide) ?_
  refine zr_istore [(6, .int 0), (5, .int 0), (4, .int 0), (3, .int 0), (2, .int 0), (0, .ref x0), (1, .int x1)] dX12_clears_11 (Nat.le_of_ble_eq_true rfl) rfl ?_
  replace hf := zb2_s hf
  obtain ⟨x2_6, x3_7, hg, hf⟩ := hf
  have hj8 : zz K cX12_clears (7, RX12, some .boolean, 1, 0, 0, some (.int r), μ) 0 0 66 [(0, .ref x0), (1, .int x1), (2, .int x2_6), (3, .int x3_7), (4, .int 0), (5, .int 0)] [] μ := by
    refine zr_iconst 0 dX12_clears_66 (by decide) ?_
    refine zr_istore [(6, .int 0), (0, .ref x0), (1, .int x1), (2, .int x2_6), (3, .int x3_7), (4, .int 0), (5, .int 0)] dX12_clears_67 (Nat.le_of_ble_eq_true rfl) rfl ?_
    replace hf := zb2_s hf
    obtain ⟨x4_29, x5_30, hg, hf⟩ := hf
    have hj31 : zz K cX12_clears (7, RX12, some .boolean, 1, 0, 0, some (.int r), μ) 0 0 126 [(2, .int x2_6), (3, .int x3_7), (4, .int x4_29), (5, .int x5_30)] [] μ := by
      refine zr_iload_n 0 dX12_clears_126 rfl ?_
      refine zr_iload 2 dX12_clears_127 rfl ?_
      replace hf := zb1_s hf
      obtain ⟨v48, h47, hf⟩ := hf
      refine zr_callS [.int x2_6, .int x4_29] (cX12_greater_ok h47) zvs_X12_greater zl_829 zl_828 rfl (Nat.le_of_ble_eq_true rfl) (Nat.le_of_ble_eq_true rfl) (Nat.le_of_ble_eq_true rfl) (Nat.le_of_ble_eq_true rfl) dX12_clears_129 rfl ?_
      refine zr_iload_n 1 dX12_clears_132 rfl ?_
      refine zr_iload 3 dX12_clears_133 rfl ?_
      replace hf := zb1_s hf
      obtain ⟨v50, h49, hf⟩ := hf
      refine zr_callS [.int x3_7, .int x5_30] (cX12_lesser_ok h49) zvs_X12_lesser zl_1056 zl_1055 rfl (Nat.le_of_ble_eq_true rfl) (Nat.le_of_ble_eq_true rfl) (Nat.le_of_ble_eq_true rfl) (Nat.le_of_ble_eq_true rfl) dX12_clears_135 rfl ?_
      replace hf := zb1_s hf
      obtain ⟨s51, hg, hf⟩ := hf
      have hj52 : zz K cX12_clears (7, RX12, some .boolean, 1, 0, 0, some (.int r), μ) 0 0 146 [] [.int s51] μ := by
        replace hf := zb1_s hf
        obtain ⟨v53, hn54, hf⟩ := hf
        obtain ⟨hn54, rfl⟩ := zbz_s hn54
        cases hf
        exact zr_zret hn54 dX12_clears_146
      clear hf
      have hf := hg
      clear hg
      refine zr_icmp_gt 145 dX12_clears_138 (by decide) (fun hc => ?_) (fun hc => ?_)
      · rw [if_pos hc] at hf
        refine zr_iconst 0 dX12_clears_145 (by decide) ?_
        cases hf
        exact zr_lv [] rfl hj52
      · rw [if_neg hc] at hf
        refine zr_iconst 1 dX12_clears_141 (by decide) ?_
        refine zr_goto 146 dX12_clears_142 (by decide) ?_
        cases hf
        exact zr_lv [] rfl hj52
    clear hf
    have hf := hg
    clear hg
    have hL46 : ∀ (n : Nat) (x4_24 : Int32) (x5_25 : Int32) (x6_26 : Int32), zf3 (fX12_clears_l69 μ x0 x1) n x4_24 x5_25 x6_26 = some (x4_29, x5_30) → zz K cX12_clears (7, RX12, some .boolean, 1, 0, 0, some (.int r), μ) 0 0 69 [(0, .ref x0), (1, .int x1), (2, .int x2_6), (3, .int x3_7), (4, .int x4_24), (5, .int x5_25), (6, .int x6_26)] [] μ := by
      intro n
      induction n with
      | zero => intro x4_24 x5_25 x6_26 hf; cases hf
      | succ n ih28 =>
        intro x4_24 x5_25 x6_26 hf
        replace hf := zf3_s hf
        generalize zf3 (fX12_clears_l69 μ x0 x1) n = F27 at hf ih28
        unfold fX12_clears_l69 at hf
        refine zr_iload 6 dX12_clears_69 rfl ?_
        refine zr_aload_n 0 dX12_clears_71 rfl ?_
        replace hf := zb1_s hf
        obtain ⟨v32, h33, hf⟩ := hf
        refine zr_get (zm_gI_g h33) zk12 (by decide) zl_1049 dX12_clears_72 ?_
        refine zr_icmp_ge 126 dX12_clears_75 (by decide) (fun hc => ?_) (fun hc => ?_)
        · rw [if_pos hc] at hf
          cases hf
          exact zr_lv [2, 3, 4, 5] rfl hj31
        · rw [if_neg hc] at hf
          refine zr_iload 4 dX12_clears_78 rfl ?_
          refine zr_aload_n 0 dX12_clears_80 rfl ?_
          replace hf := zb1_s hf
          obtain ⟨v34, h35, hf⟩ := hf
          refine zr_get (zm_gR_g h35) zk12 (by decide) zl_770 dX12_clears_81 ?_
          refine zr_iload 6 dX12_clears_84 rfl ?_
          replace hf := zb1_s hf
          obtain ⟨v36, h37, hf⟩ := hf
          refine zr_iald h37 dX12_clears_86 ?_
          refine zr_iload_n 1 dX12_clears_87 rfl ?_
          replace hf := zb1_s hf
          obtain ⟨s38, hg, hf⟩ := hf
          have hj39 : zz K cX12_clears (7, RX12, some .boolean, 1, 0, 0, some (.int r), μ) 0 0 96 [(0, .ref x0), (1, .int x1), (2, .int x2_6), (3, .int x3_7), (5, .int x5_25), (6, .int x6_26)] [.int s38, .int x4_24] μ := by
            refine zr_iadd dX12_clears_96 ?_
            refine zr_istore [(4, .int (x4_24 + s38)), (0, .ref x0), (1, .int x1), (2, .int x2_6), (3, .int x3_7), (5, .int x5_25), (6, .int x6_26)] dX12_clears_97 (Nat.le_of_ble_eq_true rfl) rfl ?_
            refine zr_iload 5 dX12_clears_99 rfl ?_
            refine zr_aload_n 1 dX12_clears_101 rfl ?_
            replace hf := zb1_s hf
            obtain ⟨v40, h41, hf⟩ := hf
            refine zr_get (zm_gR_g h41) zk12 (by decide) zl_770 dX12_clears_102 ?_
            refine zr_iload 6 dX12_clears_105 rfl ?_
            replace hf := zb1_s hf
            obtain ⟨v42, h43, hf⟩ := hf
            refine zr_iald h43 dX12_clears_107 ?_
            refine zr_iload_n 2 dX12_clears_108 rfl ?_
            replace hf := zb1_s hf
            obtain ⟨s44, hg, hf⟩ := hf
            have hj45 : zz K cX12_clears (7, RX12, some .boolean, 1, 0, 0, some (.int r), μ) 0 0 117 [(0, .ref x0), (1, .int x1), (2, .int x2_6), (3, .int x3_7), (4, .int (x4_24 + s38)), (6, .int x6_26)] [.int s44, .int x5_25] μ := by
              refine zr_iadd dX12_clears_117 ?_
              refine zr_istore [(5, .int (x5_25 + s44)), (0, .ref x0), (1, .int x1), (2, .int x2_6), (3, .int x3_7), (4, .int (x4_24 + s38)), (6, .int x6_26)] dX12_clears_118 (Nat.le_of_ble_eq_true rfl) rfl ?_
              refine zr_iinc (j := 6) (x6_26 + 1) [(6, .int (x6_26 + 1)), (5, .int (x5_25 + s44)), (0, .ref x0), (1, .int x1), (2, .int x2_6), (3, .int x3_7), (4, .int (x4_24 + s38))] dX12_clears_120 rfl rfl (Nat.le_of_ble_eq_true rfl) rfl ?_
              refine zr_goto 69 dX12_clears_123 (by decide) ?_
              exact zr_lv [2, 3, 4, 5, 6, 1, 0] rfl (ih28 (x4_24 + s38) (x5_25 + s44) (x6_26 + 1) hf)
            clear hf
            have hf := hg
            clear hg
            refine zr_icmp_lt 116 dX12_clears_109 (by decide) (fun hc => ?_) (fun hc => ?_)
            · rw [if_pos hc] at hf
              refine zr_iconst 0 dX12_clears_116 (by decide) ?_
              cases hf
              exact zr_lv [1, 2, 3, 4, 0, 6] rfl hj45
            · rw [if_neg hc] at hf
              refine zr_iconst 1 dX12_clears_112 (by decide) ?_
              refine zr_goto 117 dX12_clears_113 (by decide) ?_
              cases hf
              exact zr_lv [1, 2, 3, 4, 0, 6] rfl hj45
          clear hf
          have hf := hg
          clear hg
          refine zr_icmp_le 95 dX12_clears_88 (by decide) (fun hc => ?_) (fun hc => ?_)
          · rw [if_pos hc] at hf
            refine zr_iconst 0 dX12_clears_95 (by decide) ?_
            cases hf
            exact zr_lv [0, 1, 2, 3, 5, 6] rfl hj39
          · rw [if_neg hc] at hf
            refine zr_iconst 1 dX12_clears_91 (by decide) ?_
            refine zr_goto 96 dX12_clears_92 (by decide) ?_
            cases hf
            exact zr_lv [0, 1, 2, 3, 5, 6] rfl hj39
    exact zr_lv [1, 2, 3, 4, 5, 6, 0] rfl (hL46 _ 0 0 0 hf)
  clear hf
  have hf := hg
  clear hg
  have hL23 : ∀ (n : Nat) (x2_1 : Int32) (x3_2 : Int32) (x6_3 : Int32), zf3 (fX12_clears_l13 μ x0 x1) n x2_1 x3_2 x6_3 = some (x2_6, x3_7) → zz K cX12_clears (7, RX12, some .boolean, 1, 0, 0, some (.int r), μ) 0 0 13 [(0, .ref x0), (1, .int x1), (2, .int x2_1), (3, .int x3_2), (4, .int 0), (5, .int 0), (6, .int x6_3)] [] μ := by
    intro n
    induction n with
    | zero => intro x2_1 x3_2 x6_3 hf; cases hf
    | succ n ih5 =>
      intro x2_1 x3_2 x6_3 hf
      replace hf := zf3_s hf
      generalize zf3 (fX12_clears_l13 μ x0 x1) n = F4 at hf ih5
      unfold fX12_clears_l13 at hf
      refine zr_iload 6 dX12_clears_13 rfl ?_
      refine zr_aload_n 0 dX12_clears_15 rfl ?_
      replace hf := zb1_s hf
      obtain ⟨v9, h10, hf⟩ := hf
      refine zr_get (zm_gI_g h10) zk12 (by decide) zl_1048 dX12_clears_16 ?_
      refine zr_icmp_ge 66 dX12_clears_19 (by decide) (fun hc => ?_) (fun hc => ?_)
      · rw [if_pos hc] at hf
        cases hf
        exact zr_lv [0, 1, 2, 3, 4, 5] rfl hj8
      · rw [if_neg hc] at hf
        refine zr_iload_n 2 dX12_clears_22 rfl ?_
        refine zr_aload_n 0 dX12_clears_23 rfl ?_
        replace hf := zb1_s hf
        obtain ⟨v11, h12, hf⟩ := hf
        refine zr_get (zm_gR_g h12) zk12 (by decide) zl_769 dX12_clears_24 ?_
        refine zr_iload 6 dX12_clears_27 rfl ?_
        replace hf := zb1_s hf
        obtain ⟨v13, h14, hf⟩ := hf
        refine zr_iald h14 dX12_clears_29 ?_
        refine zr_iload_n 1 dX12_clears_30 rfl ?_
        replace hf := zb1_s hf
        obtain ⟨s15, hg, hf⟩ := hf
        have hj16 : zz K cX12_clears (7, RX12, some .boolean, 1, 0, 0, some (.int r), μ) 0 0 39 [(0, .ref x0), (1, .int x1), (3, .int x3_2), (4, .int 0), (5, .int 0), (6, .int x6_3)] [.int s15, .int x2_1] μ := by
          refine zr_iadd dX12_clears_39 ?_
          refine zr_istore_n [(2, .int (x2_1 + s15)), (0, .ref x0), (1, .int x1), (3, .int x3_2), (4, .int 0), (5, .int 0), (6, .int x6_3)] dX12_clears_40 (Nat.le_of_ble_eq_true rfl) rfl ?_
          refine zr_iload_n 3 dX12_clears_41 rfl ?_
          refine zr_aload_n 1 dX12_clears_42 rfl ?_
          replace hf := zb1_s hf
          obtain ⟨v17, h18, hf⟩ := hf
          refine zr_get (zm_gR_g h18) zk12 (by decide) zl_769 dX12_clears_43 ?_
          refine zr_iload 6 dX12_clears_46 rfl ?_
          replace hf := zb1_s hf
          obtain ⟨v19, h20, hf⟩ := hf
          refine zr_iald h20 dX12_clears_48 ?_
          refine zr_iload_n 2 dX12_clears_49 rfl ?_
          replace hf := zb1_s hf
          obtain ⟨s21, hg, hf⟩ := hf
          have hj22 : zz K cX12_clears (7, RX12, some .boolean, 1, 0, 0, some (.int r), μ) 0 0 58 [(0, .ref x0), (1, .int x1), (2, .int (x2_1 + s15)), (4, .int 0), (5, .int 0), (6, .int x6_3)] [.int s21, .int x3_2] μ := by
            refine zr_iadd dX12_clears_58 ?_
            refine zr_istore_n [(3, .int (x3_2 + s21)), (0, .ref x0), (1, .int x1), (2, .int (x2_1 + s15)), (4, .int 0), (5, .int 0), (6, .int x6_3)] dX12_clears_59 (Nat.le_of_ble_eq_true rfl) rfl ?_
            refine zr_iinc (j := 6) (x6_3 + 1) [(6, .int (x6_3 + 1)), (3, .int (x3_2 + s21)), (0, .ref x0), (1, .int x1), (2, .int (x2_1 + s15)), (4, .int 0), (5, .int 0)] dX12_clears_60 rfl rfl (Nat.le_of_ble_eq_true rfl) rfl ?_
            refine zr_goto 13 dX12_clears_63 (by decide) ?_
            exact zr_lv [2, 3, 4, 1, 5, 6, 0] rfl (ih5 (x2_1 + s15) (x3_2 + s21) (x6_3 + 1) hf)
          clear hf
          have hf := hg
          clear hg
          refine zr_icmp_gt 57 dX12_clears_50 (by decide) (fun hc => ?_) (fun hc => ?_)
          · rw [if_pos hc] at hf
            refine zr_iconst 0 dX12_clears_57 (by decide) ?_
            cases hf
            exact zr_lv [1, 2, 0, 4, 5, 6] rfl hj22
          · rw [if_neg hc] at hf
            refine zr_iconst 1 dX12_clears_53 (by decide) ?_
            refine zr_goto 58 dX12_clears_54 (by decide) ?_
            cases hf
            exact zr_lv [1, 2, 0, 4, 5, 6] rfl hj22
        clear hf
        have hf := hg
        clear hg
        refine zr_icmp_ge 38 dX12_clears_31 (by decide) (fun hc => ?_) (fun hc => ?_)
        · rw [if_pos hc] at hf
          refine zr_iconst 0 dX12_clears_38 (by decide) ?_
          cases hf
          exact zr_lv [0, 1, 3, 4, 5, 6] rfl hj16
        · rw [if_neg hc] at hf
          refine zr_iconst 1 dX12_clears_34 (by decide) ?_
          refine zr_goto 39 dX12_clears_35 (by decide) ?_
          cases hf
          exact zr_lv [0, 1, 3, 4, 5, 6] rfl hj16
  exact zr_lv [5, 6, 4, 3, 2, 1, 0] rfl (hL23 _ 0 0 0 hf)
theorem zl_1057 : Cond.code yX12_layMarket cX12_layMarket 2 (none) ∈ zt := zt_at 1806 (by decide +kernel)
theorem zvs_X12_layMarket : zvS yX12_layMarket cX12_layMarket 2 (none) 0 := ⟨zl_1057, zl_782, ⟨by decide +kernel, by decide +kernel, by decide +kernel⟩, by decide⟩
theorem zl_1058 : Cond.methodLink RX12 407 yX12_layMarket ∈ zt := zt_at 1803 (by decide +kernel)
theorem zl_1059 : Cond.instanceMethod yX12_layMarket ∈ zt := zt_at 1805 (by decide +kernel)
theorem zl_1060 : Cond.selects RX12 yX12_layMarket yX12_layMarket ∈ zt := zt_at 96 (by decide +kernel)
theorem zl_1061 : Cond.code yX12_clears cX12_clears 7 (some .boolean) ∈ zt := zt_at 1818 (by decide +kernel)
theorem zvs_X12_clears : zvS yX12_clears cX12_clears 7 (some .boolean) 1 := ⟨zl_1061, zl_782, ⟨by decide +kernel, by decide +kernel, by decide +kernel⟩, by decide⟩
theorem zl_1062 : Cond.methodLink RX12 410 yX12_clears ∈ zt := zt_at 1815 (by decide +kernel)
theorem zl_1063 : Cond.instanceMethod yX12_clears ∈ zt := zt_at 1817 (by decide +kernel)
theorem zl_1064 : Cond.selects RX12 yX12_clears yX12_clears ∈ zt := zt_at 99 (by decide +kernel)
theorem dX12_market_0 : decode cX12_market 0 = .ok (.aload_n 0, 1) := by decide +kernel
theorem dX12_market_1 : decode cX12_market 1 = .ok (.iconst 0, 1) := by decide +kernel
theorem dX12_market_2 : decode cX12_market 2 = .ok (.putfield 93, 3) := by decide +kernel
theorem dX12_market_5 : decode cX12_market 5 = .ok (.aload_n 0, 1) := by decide +kernel
theorem dX12_market_6 : decode cX12_market 6 = .ok (.iload_n 1, 1) := by decide +kernel
theorem dX12_market_7 : decode cX12_market 7 = .ok (.invokevirtual 298, 3) := by decide +kernel
theorem dX12_market_10 : decode cX12_market 10 = .ok (.ifCond .eq 12, 3) := by decide +kernel
theorem dX12_market_13 : decode cX12_market 13 = .ok (.iload_n 2, 1) := by decide +kernel
theorem dX12_market_14 : decode cX12_market 14 = .ok (.iconst 0, 1) := by decide +kernel
theorem dX12_market_15 : decode cX12_market 15 = .ok (.iconst 3, 1) := by decide +kernel
theorem dX12_market_16 : decode cX12_market 16 = .ok (.invokestatic 101, 3) := by decide +kernel
theorem dX12_market_19 : decode cX12_market 19 = .ok (.ifCond .ne 5, 3) := by decide +kernel
theorem dX12_market_22 : decode cX12_market 22 = .ok (.iconst (-1), 1) := by decide +kernel
theorem dX12_market_23 : decode cX12_market 23 = .ok (.ireturn, 1) := by decide +kernel
theorem dX12_market_24 : decode cX12_market 24 = .ok (.aload_n 0, 1) := by decide +kernel
theorem dX12_market_25 : decode cX12_market 25 = .ok (.invokevirtual 407, 3) := by decide +kernel
theorem dX12_market_28 : decode cX12_market 28 = .ok (.iconst 0, 1) := by decide +kernel
theorem dX12_market_29 : decode cX12_market 29 = .ok (.istore_n 3, 1) := by decide +kernel
theorem dX12_market_30 : decode cX12_market 30 = .ok (.iconst 0, 1) := by decide +kernel
theorem dX12_market_31 : decode cX12_market 31 = .ok (.istore 4, 2) := by decide +kernel
theorem dX12_market_33 : decode cX12_market 33 = .ok (.iload 4, 2) := by decide +kernel
theorem dX12_market_35 : decode cX12_market 35 = .ok (.aload_n 0, 1) := by decide +kernel
theorem dX12_market_36 : decode cX12_market 36 = .ok (.getfield 394, 3) := by decide +kernel
theorem dX12_market_39 : decode cX12_market 39 = .ok (.if_icmp .ge 53, 3) := by decide +kernel
theorem dX12_market_42 : decode cX12_market 42 = .ok (.iload 4, 2) := by decide +kernel
theorem dX12_market_44 : decode cX12_market 44 = .ok (.aload_n 0, 1) := by decide +kernel
theorem dX12_market_45 : decode cX12_market 45 = .ok (.getfield 397, 3) := by decide +kernel
theorem dX12_market_48 : decode cX12_market 48 = .ok (.if_icmp .ge 44, 3) := by decide +kernel
theorem dX12_market_51 : decode cX12_market 51 = .ok (.aload_n 0, 1) := by decide +kernel
theorem dX12_market_52 : decode cX12_market 52 = .ok (.getfield 62, 3) := by decide +kernel
theorem dX12_market_55 : decode cX12_market 55 = .ok (.iload 4, 2) := by decide +kernel
theorem dX12_market_57 : decode cX12_market 57 = .ok (.iaload, 1) := by decide +kernel
theorem dX12_market_58 : decode cX12_market 58 = .ok (.aload_n 0, 1) := by decide +kernel
theorem dX12_market_59 : decode cX12_market 59 = .ok (.getfield 59, 3) := by decide +kernel
theorem dX12_market_62 : decode cX12_market 62 = .ok (.iload 4, 2) := by decide +kernel
theorem dX12_market_64 : decode cX12_market 64 = .ok (.iaload, 1) := by decide +kernel
theorem dX12_market_65 : decode cX12_market 65 = .ok (.if_icmp .lt 27, 3) := by decide +kernel
theorem dX12_market_68 : decode cX12_market 68 = .ok (.iload_n 3, 1) := by decide +kernel
theorem dX12_market_69 : decode cX12_market 69 = .ok (.aload_n 0, 1) := by decide +kernel
theorem dX12_market_70 : decode cX12_market 70 = .ok (.getfield 62, 3) := by decide +kernel
theorem dX12_market_73 : decode cX12_market 73 = .ok (.iload 4, 2) := by decide +kernel
theorem dX12_market_75 : decode cX12_market 75 = .ok (.iaload, 1) := by decide +kernel
theorem dX12_market_76 : decode cX12_market 76 = .ok (.aload_n 0, 1) := by decide +kernel
theorem dX12_market_77 : decode cX12_market 77 = .ok (.getfield 59, 3) := by decide +kernel
theorem dX12_market_80 : decode cX12_market 80 = .ok (.iload 4, 2) := by decide +kernel
theorem dX12_market_82 : decode cX12_market 82 = .ok (.iaload, 1) := by decide +kernel
theorem dX12_market_83 : decode cX12_market 83 = .ok (.isub, 1) := by decide +kernel
theorem dX12_market_84 : decode cX12_market 84 = .ok (.iadd, 1) := by decide +kernel
theorem dX12_market_85 : decode cX12_market 85 = .ok (.istore_n 3, 1) := by decide +kernel
theorem dX12_market_86 : decode cX12_market 86 = .ok (.iinc 4 1, 3) := by decide +kernel
theorem dX12_market_89 : decode cX12_market 89 = .ok (.goto (-56), 3) := by decide +kernel
theorem dX12_market_92 : decode cX12_market 92 = .ok (.iconst (-1), 1) := by decide +kernel
theorem dX12_market_93 : decode cX12_market 93 = .ok (.istore 5, 2) := by decide +kernel
theorem dX12_market_95 : decode cX12_market 95 = .ok (.iconst (-1), 1) := by decide +kernel
theorem dX12_market_96 : decode cX12_market 96 = .ok (.istore 6, 2) := by decide +kernel
theorem dX12_market_98 : decode cX12_market 98 = .ok (.iconst 0, 1) := by decide +kernel
theorem dX12_market_99 : decode cX12_market 99 = .ok (.istore 7, 2) := by decide +kernel
theorem dX12_market_101 : decode cX12_market 101 = .ok (.iload 7, 2) := by decide +kernel
theorem dX12_market_103 : decode cX12_market 103 = .ok (.bipush 99, 2) := by decide +kernel
theorem dX12_market_105 : decode cX12_market 105 = .ok (.if_icmp .gt 51, 3) := by decide +kernel
theorem dX12_market_108 : decode cX12_market 108 = .ok (.aload_n 0, 1) := by decide +kernel
theorem dX12_market_109 : decode cX12_market 109 = .ok (.iload 7, 2) := by decide +kernel
theorem dX12_market_111 : decode cX12_market 111 = .ok (.invokevirtual 410, 3) := by decide +kernel
theorem dX12_market_114 : decode cX12_market 114 = .ok (.istore 8, 2) := by decide +kernel
theorem dX12_market_116 : decode cX12_market 116 = .ok (.iload 8, 2) := by decide +kernel
theorem dX12_market_118 : decode cX12_market 118 = .ok (.ifCond .eq 14, 3) := by decide +kernel
theorem dX12_market_121 : decode cX12_market 121 = .ok (.iload 5, 2) := by decide +kernel
theorem dX12_market_123 : decode cX12_market 123 = .ok (.iconst (-1), 1) := by decide +kernel
theorem dX12_market_124 : decode cX12_market 124 = .ok (.if_icmp .ne 8, 3) := by decide +kernel
theorem dX12_market_127 : decode cX12_market 127 = .ok (.iload 7, 2) := by decide +kernel
theorem dX12_market_129 : decode cX12_market 129 = .ok (.goto 5, 3) := by decide +kernel
theorem dX12_market_132 : decode cX12_market 132 = .ok (.iload 5, 2) := by decide +kernel
theorem dX12_market_134 : decode cX12_market 134 = .ok (.istore 5, 2) := by decide +kernel
theorem dX12_market_136 : decode cX12_market 136 = .ok (.iload 8, 2) := by decide +kernel
theorem dX12_market_138 : decode cX12_market 138 = .ok (.ifCond .eq 8, 3) := by decide +kernel
theorem dX12_market_141 : decode cX12_market 141 = .ok (.iload 7, 2) := by decide +kernel
theorem dX12_market_143 : decode cX12_market 143 = .ok (.goto 5, 3) := by decide +kernel
theorem dX12_market_146 : decode cX12_market 146 = .ok (.iload 6, 2) := by decide +kernel
theorem dX12_market_148 : decode cX12_market 148 = .ok (.istore 6, 2) := by decide +kernel
theorem dX12_market_150 : decode cX12_market 150 = .ok (.iinc 7 1, 3) := by decide +kernel
theorem dX12_market_153 : decode cX12_market 153 = .ok (.goto (-52), 3) := by decide +kernel
theorem dX12_market_156 : decode cX12_market 156 = .ok (.iload_n 2, 1) := by decide +kernel
theorem dX12_market_157 : decode cX12_market 157 = .ok (.ifCond .ne 7, 3) := by decide +kernel
theorem dX12_market_160 : decode cX12_market 160 = .ok (.iload_n 3, 1) := by decide +kernel
theorem dX12_market_161 : decode cX12_market 161 = .ok (.goto 25, 3) := by decide +kernel
theorem dX12_market_164 : decode cX12_market 164 = .ok (.iload_n 2, 1) := by decide +kernel
theorem dX12_market_165 : decode cX12_market 165 = .ok (.iconst 1, 1) := by decide +kernel
theorem dX12_market_166 : decode cX12_market 166 = .ok (.if_icmp .ne 8, 3) := by decide +kernel
theorem dX12_market_169 : decode cX12_market 169 = .ok (.iload 4, 2) := by decide +kernel
theorem dX12_market_171 : decode cX12_market 171 = .ok (.goto 15, 3) := by decide +kernel
theorem dX12_market_174 : decode cX12_market 174 = .ok (.iload_n 2, 1) := by decide +kernel
theorem dX12_market_175 : decode cX12_market 175 = .ok (.iconst 2, 1) := by decide +kernel
theorem dX12_market_176 : decode cX12_market 176 = .ok (.if_icmp .ne 8, 3) := by decide +kernel
theorem dX12_market_179 : decode cX12_market 179 = .ok (.iload 5, 2) := by decide +kernel
theorem dX12_market_181 : decode cX12_market 181 = .ok (.goto 5, 3) := by decide +kernel
theorem dX12_market_184 : decode cX12_market 184 = .ok (.iload 6, 2) := by decide +kernel
theorem dX12_market_186 : decode cX12_market 186 = .ok (.ireturn, 1) := by decide +kernel
def fX12_market_l33 (m9 : zM) (x0 : Nat) (F12 : Int32 → Int32 → Option (Int32 × Int32)) (x3_10 : Int32) (x4_11 : Int32) : Option (Int32 × Int32) :=
  zb1 (zm_gI m9 12 x0 39) fun v17 =>
  if v17 ≤ x4_11 then (
  some (x3_10, x4_11))
  else (
  zb1 (zm_gI m9 12 x0 40) fun v19 =>
  if v19 ≤ x4_11 then (
  some (x3_10, x4_11))
  else (
  zb1 (zm_gR m9 12 x0 38) fun v21 =>
  zb1 (zm_aI m9 0 v21 x4_11) fun v23 =>
  zb1 (zm_gR m9 12 x0 37) fun v25 =>
  zb1 (zm_aI m9 0 v25 x4_11) fun v27 =>
  if v23 < v27 then (
  some (x3_10, x4_11))
  else (
  zb1 (zm_gR m9 12 x0 38) fun v29 =>
  zb1 (zm_aI m9 0 v29 x4_11) fun v31 =>
  zb1 (zm_gR m9 12 x0 37) fun v33 =>
  zb1 (zm_aI m9 0 v33 x4_11) fun v35 =>
  F12 (x3_10 + (v31 - v35)) (x4_11 + 1))))
def fX12_market_b132x (x5_38 : Int32) : Option (Int32) :=
  some x5_38
def fX12_market_l101 (m9 : zM) (x0 : Nat) (F41 : Int32 → Int32 → Int32 → Option (Int32 × Int32)) (x5_38 : Int32) (x6_39 : Int32) (x7_40 : Int32) : Option (Int32 × Int32) :=
  if 99 < x7_40 then (
  some (x5_38, x6_39))
  else (
  zb1 (fX12_clears m9 x0 x7_40) fun v47 =>
  zb1 (if v47 = 0 then (
  fX12_market_b132x x5_38)
  else (
  if x5_38 = (-1) then (
  some x7_40)
  else (
  fX12_market_b132x x5_38))) fun s48 =>
  zb1 (if v47 = 0 then (
  some x6_39)
  else (
  some x7_40)) fun s51 =>
  F41 s48 s51 (x7_40 + 1))
def fX12_market (μ : zM) (x0 : Nat) (x1 : Int32) (x2 : Int32) : Option (Int32 × zM) := zgd (zm_ck μ 12 x0) <|
  zb1 (zm_p μ 12 x0 0 (.int 0)) fun m1 =>
  zb2 (fX12_hand m1 x0 x1) fun v5 m4 =>
  if v5 = 0 then (
  some ((-1), m4))
  else (
  zb1 (fX12_in m4 x2 0 3) fun v7 =>
  if v7 = 0 then (
  some ((-1), m4))
  else (
  zb1 (fX12_layMarket m4 x0) fun m9 =>
  zb2 (zf2 (fX12_market_l33 m9 x0) zfu 0 0) fun x3_14 x4_15 =>
  zb2 (zf3 (fX12_market_l101 m9 x0) zfu (-1) (-1) 0) fun x5_43 x6_44 =>
  zb1 (if x2 = 0 then (
  some x3_14)
  else (
  if x2 = 1 then (
  some x4_15)
  else (
  if x2 = 2 then (
  some x5_43)
  else (
  some x6_44)))) fun s54 =>
  some (s54, m9)))
theorem fX12_market_ck {μ : zM} {x0 : Nat} {x1 : Int32} {x2 : Int32} {z : Int32 × zM} (h : fX12_market μ x0 x1 x2 = some z) : zm_ck μ 12 x0 = true := (zgd_s h).1
set_option maxHeartbeats 4000000 in
set_option maxRecDepth 100000 in
theorem cX12_market_ok {μ : zM} {x0 : Nat} {x1 : Int32} {x2 : Int32} {r : Int32} {mo : zM} (hf : fX12_market μ x0 x1 x2 = some (r, mo)) : zC yX12_market cX12_market 9 (some .int) 5 0 0 [.ref x0, .int x1, .int x2] μ (some (.int r)) mo := by
  replace hf := (zgd_s hf).2
  refine zC.of (by decide) (Nat.le_of_ble_eq_true rfl) (fun K hin => ?_)
  clear hin
  show zz K cX12_market (9, RX12, some .int, 5, 0, 0, some (.int r), mo) 0 0 0 [(0, .ref x0), (1, .int x1), (2, .int x2)] [] μ
  refine zr_aload_n 0 dX12_market_0 rfl ?_
  refine zr_iconst 0 dX12_market_1 (by decide) ?_
  replace hf := zb1_s hf
  obtain ⟨m1, h2, hf⟩ := hf
  refine zr_put h2 zk12 (by decide) zl_788 rfl rfl rfl dX12_market_2 ?_
  refine zr_aload_n 0 dX12_market_5 rfl ?_
  refine zr_iload_n 1 dX12_market_6 rfl ?_
  replace hf := zb2_s hf
  obtain ⟨v5, m4, h3, hf⟩ := hf
  refine zr_callV (ci := 12) [.int x1] (cX12_hand_ok h3) zvs_X12_hand zl_946 zl_947 (fX12_hand_ck h3) rfl rfl zl_945 rfl (Nat.le_of_ble_eq_true rfl) (Nat.le_of_ble_eq_true rfl) (Nat.le_of_ble_eq_true rfl) (Nat.le_of_ble_eq_true rfl) dX12_market_7 rfl ?_
  refine zr_if_eq 22 dX12_market_10 (by decide) (fun hc => ?_) (fun hc => ?_)
  · rw [if_pos hc] at hf
    refine zr_iconst (-1) dX12_market_22 (by decide) ?_
    cases hf
    exact zr_iret dX12_market_23
  · rw [if_neg hc] at hf
    refine zr_iload_n 2 dX12_market_13 rfl ?_
    refine zr_iconst 0 dX12_market_14 (by decide) ?_
    refine zr_iconst 3 dX12_market_15 (by decide) ?_
    replace hf := zb1_s hf
    obtain ⟨v7, h6, hf⟩ := hf
    refine zr_callS [.int x2, .int 0, .int 3] (cX12_in_ok h6) zvs_X12_in zl_787 zl_786 rfl (Nat.le_of_ble_eq_true rfl) (Nat.le_of_ble_eq_true rfl) (Nat.le_of_ble_eq_true rfl) (Nat.le_of_ble_eq_true rfl) dX12_market_16 rfl ?_
    refine zr_if_ne 24 dX12_market_19 (by decide) (fun hc => ?_) (fun hc => ?_)
    · rw [if_neg hc] at hf
      refine zr_aload_n 0 dX12_market_24 rfl ?_
      replace hf := zb1_s hf
      obtain ⟨m9, h8, hf⟩ := hf
      refine zr_callV (ci := 12) [] (cX12_layMarket_ok h8) zvs_X12_layMarket zl_1059 zl_1060 (fX12_layMarket_ck h8) rfl rfl zl_1058 rfl (Nat.le_of_ble_eq_true rfl) (Nat.le_of_ble_eq_true rfl) (Nat.le_of_ble_eq_true rfl) (Nat.le_of_ble_eq_true rfl) dX12_market_25 rfl ?_
      refine zr_iconst 0 dX12_market_28 (by decide) ?_
      refine zr_istore_n [(3, .int 0), (0, .ref x0), (1, .int x1), (2, .int x2)] dX12_market_29 (Nat.le_of_ble_eq_true rfl) rfl ?_
      refine zr_iconst 0 dX12_market_30 (by decide) ?_
      refine zr_istore [(4, .int 0), (3, .int 0), (0, .ref x0), (1, .int x1), (2, .int x2)] dX12_market_31 (Nat.le_of_ble_eq_true rfl) rfl ?_
      replace hf := zb2_s hf
      obtain ⟨x3_14, x4_15, hg, hf⟩ := hf
      have hj16 : zz K cX12_market (9, RX12, some .int, 5, 0, 0, some (.int r), mo) 0 0 92 [(0, .ref x0), (2, .int x2), (3, .int x3_14), (4, .int x4_15)] [] m9 := by
        refine zr_iconst (-1) dX12_market_92 (by decide) ?_
        refine zr_istore [(5, .int (-1)), (0, .ref x0), (2, .int x2), (3, .int x3_14), (4, .int x4_15)] dX12_market_93 (Nat.le_of_ble_eq_true rfl) rfl ?_
        refine zr_iconst (-1) dX12_market_95 (by decide) ?_
        refine zr_istore [(6, .int (-1)), (5, .int (-1)), (0, .ref x0), (2, .int x2), (3, .int x3_14), (4, .int x4_15)] dX12_market_96 (Nat.le_of_ble_eq_true rfl) rfl ?_
        refine zr_iconst 0 dX12_market_98 (by decide) ?_
        refine zr_istore [(7, .int 0), (6, .int (-1)), (5, .int (-1)), (0, .ref x0), (2, .int x2), (3, .int x3_14), (4, .int x4_15)] dX12_market_99 (Nat.le_of_ble_eq_true rfl) rfl ?_
        replace hf := zb2_s hf
        obtain ⟨x5_43, x6_44, hg, hf⟩ := hf
        have hj45 : zz K cX12_market (9, RX12, some .int, 5, 0, 0, some (.int r), mo) 0 0 156 [(2, .int x2), (3, .int x3_14), (4, .int x4_15), (5, .int x5_43), (6, .int x6_44)] [] m9 := by
          refine zr_iload_n 0 dX12_market_156 rfl ?_
          replace hf := zb1_s hf
          obtain ⟨s54, hg, hf⟩ := hf
          have hj55 : zz K cX12_market (9, RX12, some .int, 5, 0, 0, some (.int r), mo) 0 0 186 [] [.int s54] m9 := by
            cases hf
            exact zr_iret dX12_market_186
          clear hf
          have hf := hg
          clear hg
          refine zr_if_ne 164 dX12_market_157 (by decide) (fun hc => ?_) (fun hc => ?_)
          · rw [if_neg hc] at hf
            refine zr_iload_n 0 dX12_market_164 rfl ?_
            refine zr_iconst 1 dX12_market_165 (by decide) ?_
            refine zr_icmp_ne 174 dX12_market_166 (by decide) (fun hc => ?_) (fun hc => ?_)
            · rw [if_neg hc] at hf
              refine zr_iload_n 0 dX12_market_174 rfl ?_
              refine zr_iconst 2 dX12_market_175 (by decide) ?_
              refine zr_icmp_ne 184 dX12_market_176 (by decide) (fun hc => ?_) (fun hc => ?_)
              · rw [if_neg hc] at hf
                refine zr_iload 4 dX12_market_184 rfl ?_
                cases hf
                exact zr_lv [] rfl hj55
              · rw [if_pos hc] at hf
                refine zr_iload 3 dX12_market_179 rfl ?_
                refine zr_goto 186 dX12_market_181 (by decide) ?_
                cases hf
                exact zr_lv [] rfl hj55
            · rw [if_pos hc] at hf
              refine zr_iload 2 dX12_market_169 rfl ?_
              refine zr_goto 186 dX12_market_171 (by decide) ?_
              cases hf
              exact zr_lv [] rfl hj55
          · rw [if_pos hc] at hf
            refine zr_iload_n 1 dX12_market_160 rfl ?_
            refine zr_goto 186 dX12_market_161 (by decide) ?_
            cases hf
            exact zr_lv [] rfl hj55
        clear hf
        have hf := hg
        clear hg
        have hL53 : ∀ (n : Nat) (x5_38 : Int32) (x6_39 : Int32) (x7_40 : Int32), zf3 (fX12_market_l101 m9 x0) n x5_38 x6_39 x7_40 = some (x5_43, x6_44) → zz K cX12_market (9, RX12, some .int, 5, 0, 0, some (.int r), mo) 0 0 101 [(0, .ref x0), (2, .int x2), (3, .int x3_14), (4, .int x4_15), (5, .int x5_38), (6, .int x6_39), (7, .int x7_40)] [] m9 := by
          intro n
          induction n with
          | zero => intro x5_38 x6_39 x7_40 hf; cases hf
          | succ n ih42 =>
            intro x5_38 x6_39 x7_40 hf
            replace hf := zf3_s hf
            generalize zf3 (fX12_market_l101 m9 x0) n = F41 at hf ih42
            unfold fX12_market_l101 at hf
            refine zr_iload 6 dX12_market_101 rfl ?_
            refine zr_bipush 99 dX12_market_103 (by decide) ?_
            refine zr_icmp_gt 156 dX12_market_105 (by decide) (fun hc => ?_) (fun hc => ?_)
            · rw [if_pos hc] at hf
              cases hf
              exact zr_lv [1, 2, 3, 4, 5] rfl hj45
            · rw [if_neg hc] at hf
              refine zr_aload_n 0 dX12_market_108 rfl ?_
              refine zr_iload 6 dX12_market_109 rfl ?_
              replace hf := zb1_s hf
              obtain ⟨v47, h46, hf⟩ := hf
              refine zr_callV (ci := 12) [.int x7_40] (cX12_clears_ok h46) zvs_X12_clears zl_1063 zl_1064 (fX12_clears_ck h46) rfl rfl zl_1062 rfl (Nat.le_of_ble_eq_true rfl) (Nat.le_of_ble_eq_true rfl) (Nat.le_of_ble_eq_true rfl) (Nat.le_of_ble_eq_true rfl) dX12_market_111 rfl ?_
              refine zr_istore [(8, .int v47), (0, .ref x0), (2, .int x2), (3, .int x3_14), (4, .int x4_15), (5, .int x5_38), (6, .int x6_39), (7, .int x7_40)] dX12_market_114 (Nat.le_of_ble_eq_true rfl) rfl ?_
              refine zr_iload 0 dX12_market_116 rfl ?_
              replace hf := zb1_s hf
              obtain ⟨s48, hg, hf⟩ := hf
              have hj49 : zz K cX12_market (9, RX12, some .int, 5, 0, 0, some (.int r), mo) 0 0 134 [(0, .ref x0), (2, .int x2), (3, .int x3_14), (4, .int x4_15), (6, .int x6_39), (7, .int x7_40), (8, .int v47)] [.int s48] m9 := by
                refine zr_istore [(5, .int s48), (0, .ref x0), (2, .int x2), (3, .int x3_14), (4, .int x4_15), (6, .int x6_39), (7, .int x7_40), (8, .int v47)] dX12_market_134 (Nat.le_of_ble_eq_true rfl) rfl ?_
                refine zr_iload 7 dX12_market_136 rfl ?_
                replace hf := zb1_s hf
                obtain ⟨s51, hg, hf⟩ := hf
                have hj52 : zz K cX12_market (9, RX12, some .int, 5, 0, 0, some (.int r), mo) 0 0 148 [(0, .ref x0), (2, .int x2), (3, .int x3_14), (4, .int x4_15), (5, .int s48), (7, .int x7_40)] [.int s51] m9 := by
                  refine zr_istore [(6, .int s51), (0, .ref x0), (2, .int x2), (3, .int x3_14), (4, .int x4_15), (5, .int s48), (7, .int x7_40)] dX12_market_148 (Nat.le_of_ble_eq_true rfl) rfl ?_
                  refine zr_iinc (j := 6) (x7_40 + 1) [(7, .int (x7_40 + 1)), (6, .int s51), (0, .ref x0), (2, .int x2), (3, .int x3_14), (4, .int x4_15), (5, .int s48)] dX12_market_150 rfl rfl (Nat.le_of_ble_eq_true rfl) rfl ?_
                  refine zr_goto 101 dX12_market_153 (by decide) ?_
                  exact zr_lv [2, 3, 4, 5, 6, 1, 0] rfl (ih42 s48 s51 (x7_40 + 1) hf)
                clear hf
                have hf := hg
                clear hg
                refine zr_if_eq 146 dX12_market_138 (by decide) (fun hc => ?_) (fun hc => ?_)
                · rw [if_pos hc] at hf
                  refine zr_iload 5 dX12_market_146 rfl ?_
                  cases hf
                  exact zr_lv [1, 2, 3, 4, 0, 6] rfl hj52
                · rw [if_neg hc] at hf
                  refine zr_iload 6 dX12_market_141 rfl ?_
                  refine zr_goto 148 dX12_market_143 (by decide) ?_
                  cases hf
                  exact zr_lv [1, 2, 3, 4, 0, 6] rfl hj52
              clear hf
              have hf := hg
              clear hg
              have hb50 : ∀ (_ : Unit), fX12_market_b132x x5_38 = some s48 → zz K cX12_market (9, RX12, some .int, 5, 0, 0, some (.int r), mo) 0 0 132 [(0, .ref x0), (2, .int x2), (3, .int x3_14), (4, .int x4_15), (5, .int x5_38), (6, .int x6_39), (7, .int x7_40), (8, .int v47)] [] m9 := by
                intro _ hf
                unfold fX12_market_b132x at hf
                refine zr_iload 4 dX12_market_132 rfl ?_
                cases hf
                exact zr_lv [0, 1, 2, 3, 5, 6, 7] rfl hj49
              refine zr_if_eq 132 dX12_market_118 (by decide) (fun hc => ?_) (fun hc => ?_)
              · rw [if_pos hc] at hf
                exact zr_lv [1, 2, 3, 4, 5, 6, 7, 0] rfl (hb50 () hf)
              · rw [if_neg hc] at hf
                refine zr_iload 5 dX12_market_121 rfl ?_
                refine zr_iconst (-1) dX12_market_123 (by decide) ?_
                refine zr_icmp_ne 132 dX12_market_124 (by decide) (fun hc => ?_) (fun hc => ?_)
                · rw [if_neg hc] at hf
                  exact zr_lv [1, 2, 3, 4, 5, 6, 7, 0] rfl (hb50 () hf)
                · rw [if_pos hc] at hf
                  refine zr_iload 7 dX12_market_127 rfl ?_
                  refine zr_goto 134 dX12_market_129 (by decide) ?_
                  cases hf
                  exact zr_lv [1, 2, 3, 4, 6, 7, 0] rfl hj49
        exact zr_lv [3, 4, 5, 6, 2, 1, 0] rfl (hL53 _ (-1) (-1) 0 hf)
      clear hf
      have hf := hg
      clear hg
      have hL37 : ∀ (n : Nat) (x3_10 : Int32) (x4_11 : Int32), zf2 (fX12_market_l33 m9 x0) n x3_10 x4_11 = some (x3_14, x4_15) → zz K cX12_market (9, RX12, some .int, 5, 0, 0, some (.int r), mo) 0 0 33 [(0, .ref x0), (2, .int x2), (3, .int x3_10), (4, .int x4_11)] [] m9 := by
        intro n
        induction n with
        | zero => intro x3_10 x4_11 hf; cases hf
        | succ n ih13 =>
          intro x3_10 x4_11 hf
          replace hf := zf2_s hf
          generalize zf2 (fX12_market_l33 m9 x0) n = F12 at hf ih13
          unfold fX12_market_l33 at hf
          refine zr_iload 3 dX12_market_33 rfl ?_
          refine zr_aload_n 0 dX12_market_35 rfl ?_
          replace hf := zb1_s hf
          obtain ⟨v17, h18, hf⟩ := hf
          refine zr_get (zm_gI_g h18) zk12 (by decide) zl_1048 dX12_market_36 ?_
          refine zr_icmp_ge 92 dX12_market_39 (by decide) (fun hc => ?_) (fun hc => ?_)
          · rw [if_pos hc] at hf
            cases hf
            exact zr_lv [0, 1, 2, 3] rfl hj16
          · rw [if_neg hc] at hf
            refine zr_iload 3 dX12_market_42 rfl ?_
            refine zr_aload_n 0 dX12_market_44 rfl ?_
            replace hf := zb1_s hf
            obtain ⟨v19, h20, hf⟩ := hf
            refine zr_get (zm_gI_g h20) zk12 (by decide) zl_1049 dX12_market_45 ?_
            refine zr_icmp_ge 92 dX12_market_48 (by decide) (fun hc => ?_) (fun hc => ?_)
            · rw [if_pos hc] at hf
              cases hf
              exact zr_lv [0, 1, 2, 3] rfl hj16
            · rw [if_neg hc] at hf
              refine zr_aload_n 0 dX12_market_51 rfl ?_
              replace hf := zb1_s hf
              obtain ⟨v21, h22, hf⟩ := hf
              refine zr_get (zm_gR_g h22) zk12 (by decide) zl_770 dX12_market_52 ?_
              refine zr_iload 3 dX12_market_55 rfl ?_
              replace hf := zb1_s hf
              obtain ⟨v23, h24, hf⟩ := hf
              refine zr_iald h24 dX12_market_57 ?_
              refine zr_aload_n 0 dX12_market_58 rfl ?_
              replace hf := zb1_s hf
              obtain ⟨v25, h26, hf⟩ := hf
              refine zr_get (zm_gR_g h26) zk12 (by decide) zl_769 dX12_market_59 ?_
              refine zr_iload 3 dX12_market_62 rfl ?_
              replace hf := zb1_s hf
              obtain ⟨v27, h28, hf⟩ := hf
              refine zr_iald h28 dX12_market_64 ?_
              refine zr_icmp_lt 92 dX12_market_65 (by decide) (fun hc => ?_) (fun hc => ?_)
              · rw [if_pos hc] at hf
                cases hf
                exact zr_lv [0, 1, 2, 3] rfl hj16
              · rw [if_neg hc] at hf
                refine zr_iload_n 2 dX12_market_68 rfl ?_
                refine zr_aload_n 0 dX12_market_69 rfl ?_
                replace hf := zb1_s hf
                obtain ⟨v29, h30, hf⟩ := hf
                refine zr_get (zm_gR_g h30) zk12 (by decide) zl_770 dX12_market_70 ?_
                refine zr_iload 3 dX12_market_73 rfl ?_
                replace hf := zb1_s hf
                obtain ⟨v31, h32, hf⟩ := hf
                refine zr_iald h32 dX12_market_75 ?_
                refine zr_aload_n 0 dX12_market_76 rfl ?_
                replace hf := zb1_s hf
                obtain ⟨v33, h34, hf⟩ := hf
                refine zr_get (zm_gR_g h34) zk12 (by decide) zl_769 dX12_market_77 ?_
                refine zr_iload 3 dX12_market_80 rfl ?_
                replace hf := zb1_s hf
                obtain ⟨v35, h36, hf⟩ := hf
                refine zr_iald h36 dX12_market_82 ?_
                refine zr_isub dX12_market_83 ?_
                refine zr_iadd dX12_market_84 ?_
                refine zr_istore_n [(3, .int (x3_10 + (v31 - v35))), (0, .ref x0), (2, .int x2), (4, .int x4_11)] dX12_market_85 (Nat.le_of_ble_eq_true rfl) rfl ?_
                refine zr_iinc (j := 3) (x4_11 + 1) [(4, .int (x4_11 + 1)), (3, .int (x3_10 + (v31 - v35))), (0, .ref x0), (2, .int x2)] dX12_market_86 rfl rfl (Nat.le_of_ble_eq_true rfl) rfl ?_
                refine zr_goto 33 dX12_market_89 (by decide) ?_
                exact zr_lv [2, 3, 1, 0] rfl (ih13 (x3_10 + (v31 - v35)) (x4_11 + 1) hf)
      exact zr_lv [2, 4, 1, 0] rfl (hL37 _ 0 0 hf)
    · rw [if_pos hc] at hf
      refine zr_iconst (-1) dX12_market_22 (by decide) ?_
      cases hf
      exact zr_iret dX12_market_23
theorem dX12_soldFor_0 : decode cX12_soldFor 0 = .ok (.iload_n 1, 1) := by decide +kernel
theorem dX12_soldFor_1 : decode cX12_soldFor 1 = .ok (.iload_n 0, 1) := by decide +kernel
theorem dX12_soldFor_2 : decode cX12_soldFor 2 = .ok (.if_icmp .ge 7, 3) := by decide +kernel
theorem dX12_soldFor_5 : decode cX12_soldFor 5 = .ok (.iconst 0, 1) := by decide +kernel
theorem dX12_soldFor_6 : decode cX12_soldFor 6 = .ok (.goto 10, 3) := by decide +kernel
theorem dX12_soldFor_9 : decode cX12_soldFor 9 = .ok (.iload_n 0, 1) := by decide +kernel
theorem dX12_soldFor_10 : decode cX12_soldFor 10 = .ok (.iload_n 1, 1) := by decide +kernel
theorem dX12_soldFor_11 : decode cX12_soldFor 11 = .ok (.iadd, 1) := by decide +kernel
theorem dX12_soldFor_12 : decode cX12_soldFor 12 = .ok (.iconst 2, 1) := by decide +kernel
theorem dX12_soldFor_13 : decode cX12_soldFor 13 = .ok (.idiv, 1) := by decide +kernel
theorem dX12_soldFor_14 : decode cX12_soldFor 14 = .ok (.iload_n 2, 1) := by decide +kernel
theorem dX12_soldFor_15 : decode cX12_soldFor 15 = .ok (.isub, 1) := by decide +kernel
theorem dX12_soldFor_16 : decode cX12_soldFor 16 = .ok (.ireturn, 1) := by decide +kernel
def fX12_soldFor (μ : zM) (x0 : Int32) (x1 : Int32) (x2 : Int32) : Option (Int32) :=
  zb1 (if x0 ≤ x1 then (
  some (((x0 + x1) / 2) - x2))
  else (
  some 0)) fun s1 =>
  some s1
set_option maxHeartbeats 4000000 in
set_option maxRecDepth 100000 in
theorem cX12_soldFor_ok {μ : zM} {x0 : Int32} {x1 : Int32} {x2 : Int32} {r : Int32} (hf : fX12_soldFor μ x0 x1 x2 = some r) : zC yX12_soldFor cX12_soldFor 3 (some .int) 0 0 0 [.int x0, .int x1, .int x2] μ (some (.int r)) μ := by
  unfold fX12_soldFor at hf
  refine zC.of (by decide) (Nat.le_of_ble_eq_true rfl) (fun K hin => ?_)
  clear hin
  show zz K cX12_soldFor (3, RX12, some .int, 0, 0, 0, some (.int r), μ) 0 0 0 [(0, .int x0), (1, .int x1), (2, .int x2)] [] μ
  refine zr_iload_n 1 dX12_soldFor_0 rfl ?_
  refine zr_iload_n 0 dX12_soldFor_1 rfl ?_
  replace hf := zb1_s hf
  obtain ⟨s1, hg, hf⟩ := hf
  have hj2 : zz K cX12_soldFor (3, RX12, some .int, 0, 0, 0, some (.int r), μ) 0 0 16 [] [.int s1] μ := by
    cases hf
    exact zr_iret dX12_soldFor_16
  clear hf
  have hf := hg
  clear hg
  refine zr_icmp_ge 9 dX12_soldFor_2 (by decide) (fun hc => ?_) (fun hc => ?_)
  · rw [if_pos hc] at hf
    refine zr_iload_n 0 dX12_soldFor_9 rfl ?_
    refine zr_iload_n 1 dX12_soldFor_10 rfl ?_
    refine zr_iadd dX12_soldFor_11 ?_
    refine zr_iconst 2 dX12_soldFor_12 (by decide) ?_
    refine zr_idiv dX12_soldFor_13 (by decide) ?_
    refine zr_iload_n 2 dX12_soldFor_14 rfl ?_
    refine zr_isub dX12_soldFor_15 ?_
    cases hf
    exact zr_lv [] rfl hj2
  · rw [if_neg hc] at hf
    refine zr_iconst 0 dX12_soldFor_5 (by decide) ?_
    refine zr_goto 16 dX12_soldFor_6 (by decide) ?_
    cases hf
    exact zr_lv [] rfl hj2
theorem dX12_boughtFor_0 : decode cX12_boughtFor 0 = .ok (.iload_n 1, 1) := by decide +kernel
theorem dX12_boughtFor_1 : decode cX12_boughtFor 1 = .ok (.iload_n 0, 1) := by decide +kernel
theorem dX12_boughtFor_2 : decode cX12_boughtFor 2 = .ok (.if_icmp .ge 7, 3) := by decide +kernel
theorem dX12_boughtFor_5 : decode cX12_boughtFor 5 = .ok (.iconst 0, 1) := by decide +kernel
theorem dX12_boughtFor_6 : decode cX12_boughtFor 6 = .ok (.goto 10, 3) := by decide +kernel
theorem dX12_boughtFor_9 : decode cX12_boughtFor 9 = .ok (.iload_n 2, 1) := by decide +kernel
theorem dX12_boughtFor_10 : decode cX12_boughtFor 10 = .ok (.iload_n 0, 1) := by decide +kernel
theorem dX12_boughtFor_11 : decode cX12_boughtFor 11 = .ok (.iload_n 1, 1) := by decide +kernel
theorem dX12_boughtFor_12 : decode cX12_boughtFor 12 = .ok (.iadd, 1) := by decide +kernel
theorem dX12_boughtFor_13 : decode cX12_boughtFor 13 = .ok (.iconst 2, 1) := by decide +kernel
theorem dX12_boughtFor_14 : decode cX12_boughtFor 14 = .ok (.idiv, 1) := by decide +kernel
theorem dX12_boughtFor_15 : decode cX12_boughtFor 15 = .ok (.isub, 1) := by decide +kernel
theorem dX12_boughtFor_16 : decode cX12_boughtFor 16 = .ok (.ireturn, 1) := by decide +kernel
def fX12_boughtFor (μ : zM) (x0 : Int32) (x1 : Int32) (x2 : Int32) : Option (Int32) :=
  zb1 (if x0 ≤ x1 then (
  some (x2 - ((x0 + x1) / 2)))
  else (
  some 0)) fun s1 =>
  some s1
set_option maxHeartbeats 4000000 in
set_option maxRecDepth 100000 in
theorem cX12_boughtFor_ok {μ : zM} {x0 : Int32} {x1 : Int32} {x2 : Int32} {r : Int32} (hf : fX12_boughtFor μ x0 x1 x2 = some r) : zC yX12_boughtFor cX12_boughtFor 3 (some .int) 0 0 0 [.int x0, .int x1, .int x2] μ (some (.int r)) μ := by
  unfold fX12_boughtFor at hf
  refine zC.of (by decide) (Nat.le_of_ble_eq_true rfl) (fun K hin => ?_)
  clear hin
  show zz K cX12_boughtFor (3, RX12, some .int, 0, 0, 0, some (.int r), μ) 0 0 0 [(0, .int x0), (1, .int x1), (2, .int x2)] [] μ
  refine zr_iload_n 1 dX12_boughtFor_0 rfl ?_
  refine zr_iload_n 0 dX12_boughtFor_1 rfl ?_
  replace hf := zb1_s hf
  obtain ⟨s1, hg, hf⟩ := hf
  have hj2 : zz K cX12_boughtFor (3, RX12, some .int, 0, 0, 0, some (.int r), μ) 0 0 16 [] [.int s1] μ := by
    cases hf
    exact zr_iret dX12_boughtFor_16
  clear hf
  have hf := hg
  clear hg
  refine zr_icmp_ge 9 dX12_boughtFor_2 (by decide) (fun hc => ?_) (fun hc => ?_)
  · rw [if_pos hc] at hf
    refine zr_iload_n 2 dX12_boughtFor_9 rfl ?_
    refine zr_iload_n 0 dX12_boughtFor_10 rfl ?_
    refine zr_iload_n 1 dX12_boughtFor_11 rfl ?_
    refine zr_iadd dX12_boughtFor_12 ?_
    refine zr_iconst 2 dX12_boughtFor_13 (by decide) ?_
    refine zr_idiv dX12_boughtFor_14 (by decide) ?_
    refine zr_isub dX12_boughtFor_15 ?_
    cases hf
    exact zr_lv [] rfl hj2
  · rw [if_neg hc] at hf
    refine zr_iconst 0 dX12_boughtFor_5 (by decide) ?_
    refine zr_goto 16 dX12_boughtFor_6 (by decide) ?_
    cases hf
    exact zr_lv [] rfl hj2
theorem zl_1065 : Cond.constant RX12 413 (-1000000) ∈ zt := zt_at 1826 (by decide +kernel)
theorem zl_1066 : Cond.code yX12_soldFor cX12_soldFor 3 (some .int) ∈ zt := zt_at 1829 (by decide +kernel)
theorem zvs_X12_soldFor : zvS yX12_soldFor cX12_soldFor 3 (some .int) 3 := ⟨zl_1066, zl_782, ⟨by decide +kernel, by decide +kernel, by decide +kernel⟩, by decide⟩
theorem zl_1067 : Cond.methodLink RX12 414 yX12_soldFor ∈ zt := zt_at 1827 (by decide +kernel)
theorem zl_1068 : Cond.static yX12_soldFor ∈ zt := zt_at 1828 (by decide +kernel)
theorem zl_1069 : Cond.code yX12_boughtFor cX12_boughtFor 3 (some .int) ∈ zt := zt_at 1832 (by decide +kernel)
theorem zvs_X12_boughtFor : zvS yX12_boughtFor cX12_boughtFor 3 (some .int) 3 := ⟨zl_1069, zl_782, ⟨by decide +kernel, by decide +kernel, by decide +kernel⟩, by decide⟩
theorem zl_1070 : Cond.methodLink RX12 417 yX12_boughtFor ∈ zt := zt_at 1830 (by decide +kernel)
theorem zl_1071 : Cond.static yX12_boughtFor ∈ zt := zt_at 1831 (by decide +kernel)
theorem dX12_bargain_0 : decode cX12_bargain 0 = .ok (.aload_n 0, 1) := by decide +kernel
theorem dX12_bargain_1 : decode cX12_bargain 1 = .ok (.iconst 0, 1) := by decide +kernel
theorem dX12_bargain_2 : decode cX12_bargain 2 = .ok (.putfield 93, 3) := by decide +kernel
theorem dX12_bargain_5 : decode cX12_bargain 5 = .ok (.aload_n 0, 1) := by decide +kernel
theorem dX12_bargain_6 : decode cX12_bargain 6 = .ok (.iload_n 1, 1) := by decide +kernel
theorem dX12_bargain_7 : decode cX12_bargain 7 = .ok (.invokevirtual 298, 3) := by decide +kernel
theorem dX12_bargain_10 : decode cX12_bargain 10 = .ok (.ifCond .eq 21, 3) := by decide +kernel
theorem dX12_bargain_13 : decode cX12_bargain 13 = .ok (.aload_n 0, 1) := by decide +kernel
theorem dX12_bargain_14 : decode cX12_bargain 14 = .ok (.iload_n 2, 1) := by decide +kernel
theorem dX12_bargain_15 : decode cX12_bargain 15 = .ok (.iconst 0, 1) := by decide +kernel
theorem dX12_bargain_16 : decode cX12_bargain 16 = .ok (.invokevirtual 391, 3) := by decide +kernel
theorem dX12_bargain_19 : decode cX12_bargain 19 = .ok (.ifCond .eq 12, 3) := by decide +kernel
theorem dX12_bargain_22 : decode cX12_bargain 22 = .ok (.aload_n 0, 1) := by decide +kernel
theorem dX12_bargain_23 : decode cX12_bargain 23 = .ok (.iload_n 3, 1) := by decide +kernel
theorem dX12_bargain_24 : decode cX12_bargain 24 = .ok (.iconst 1, 1) := by decide +kernel
theorem dX12_bargain_25 : decode cX12_bargain 25 = .ok (.invokevirtual 391, 3) := by decide +kernel
theorem dX12_bargain_28 : decode cX12_bargain 28 = .ok (.ifCond .ne 5, 3) := by decide +kernel
theorem dX12_bargain_31 : decode cX12_bargain 31 = .ok (.iconst (-1), 1) := by decide +kernel
theorem dX12_bargain_32 : decode cX12_bargain 32 = .ok (.ireturn, 1) := by decide +kernel
theorem dX12_bargain_33 : decode cX12_bargain 33 = .ok (.aload_n 0, 1) := by decide +kernel
theorem dX12_bargain_34 : decode cX12_bargain 34 = .ok (.bipush 39, 2) := by decide +kernel
theorem dX12_bargain_36 : decode cX12_bargain 36 = .ok (.iload_n 2, 1) := by decide +kernel
theorem dX12_bargain_37 : decode cX12_bargain 37 = .ok (.iadd, 1) := by decide +kernel
theorem dX12_bargain_38 : decode cX12_bargain 38 = .ok (.invokevirtual 269, 3) := by decide +kernel
theorem dX12_bargain_41 : decode cX12_bargain 41 = .ok (.istore 5, 2) := by decide +kernel
theorem dX12_bargain_43 : decode cX12_bargain 43 = .ok (.aload_n 0, 1) := by decide +kernel
theorem dX12_bargain_44 : decode cX12_bargain 44 = .ok (.bipush 39, 2) := by decide +kernel
theorem dX12_bargain_46 : decode cX12_bargain 46 = .ok (.iload_n 3, 1) := by decide +kernel
theorem dX12_bargain_47 : decode cX12_bargain 47 = .ok (.iadd, 1) := by decide +kernel
theorem dX12_bargain_48 : decode cX12_bargain 48 = .ok (.invokevirtual 269, 3) := by decide +kernel
theorem dX12_bargain_51 : decode cX12_bargain 51 = .ok (.istore 6, 2) := by decide +kernel
theorem dX12_bargain_53 : decode cX12_bargain 53 = .ok (.iconst 0, 1) := by decide +kernel
theorem dX12_bargain_54 : decode cX12_bargain 54 = .ok (.istore 7, 2) := by decide +kernel
theorem dX12_bargain_56 : decode cX12_bargain 56 = .ok (.iload 7, 2) := by decide +kernel
theorem dX12_bargain_58 : decode cX12_bargain 58 = .ok (.bipush 99, 2) := by decide +kernel
theorem dX12_bargain_60 : decode cX12_bargain 60 = .ok (.if_icmp .gt 97, 3) := by decide +kernel
theorem dX12_bargain_63 : decode cX12_bargain 63 = .ok (.aload_n 0, 1) := by decide +kernel
theorem dX12_bargain_64 : decode cX12_bargain 64 = .ok (.getfield 65, 3) := by decide +kernel
theorem dX12_bargain_67 : decode cX12_bargain 67 = .ok (.iload 7, 2) := by decide +kernel
theorem dX12_bargain_69 : decode cX12_bargain 69 = .ok (.ldc_w 413, 3) := by decide +kernel
theorem dX12_bargain_72 : decode cX12_bargain 72 = .ok (.iastore, 1) := by decide +kernel
theorem dX12_bargain_73 : decode cX12_bargain 73 = .ok (.aload_n 0, 1) := by decide +kernel
theorem dX12_bargain_74 : decode cX12_bargain 74 = .ok (.getfield 68, 3) := by decide +kernel
theorem dX12_bargain_77 : decode cX12_bargain 77 = .ok (.iload 7, 2) := by decide +kernel
theorem dX12_bargain_79 : decode cX12_bargain 79 = .ok (.ldc_w 413, 3) := by decide +kernel
theorem dX12_bargain_82 : decode cX12_bargain 82 = .ok (.iastore, 1) := by decide +kernel
theorem dX12_bargain_83 : decode cX12_bargain 83 = .ok (.iconst 0, 1) := by decide +kernel
theorem dX12_bargain_84 : decode cX12_bargain 84 = .ok (.istore 8, 2) := by decide +kernel
theorem dX12_bargain_86 : decode cX12_bargain 86 = .ok (.iload 8, 2) := by decide +kernel
theorem dX12_bargain_88 : decode cX12_bargain 88 = .ok (.bipush 99, 2) := by decide +kernel
theorem dX12_bargain_90 : decode cX12_bargain 90 = .ok (.if_icmp .gt 61, 3) := by decide +kernel
theorem dX12_bargain_93 : decode cX12_bargain 93 = .ok (.aload_n 0, 1) := by decide +kernel
theorem dX12_bargain_94 : decode cX12_bargain 94 = .ok (.getfield 65, 3) := by decide +kernel
theorem dX12_bargain_97 : decode cX12_bargain 97 = .ok (.iload 7, 2) := by decide +kernel
theorem dX12_bargain_99 : decode cX12_bargain 99 = .ok (.aload_n 0, 1) := by decide +kernel
theorem dX12_bargain_100 : decode cX12_bargain 100 = .ok (.getfield 65, 3) := by decide +kernel
theorem dX12_bargain_103 : decode cX12_bargain 103 = .ok (.iload 7, 2) := by decide +kernel
theorem dX12_bargain_105 : decode cX12_bargain 105 = .ok (.iaload, 1) := by decide +kernel
theorem dX12_bargain_106 : decode cX12_bargain 106 = .ok (.iload 8, 2) := by decide +kernel
theorem dX12_bargain_108 : decode cX12_bargain 108 = .ok (.iload 7, 2) := by decide +kernel
theorem dX12_bargain_110 : decode cX12_bargain 110 = .ok (.iload 5, 2) := by decide +kernel
theorem dX12_bargain_112 : decode cX12_bargain 112 = .ok (.invokestatic 414, 3) := by decide +kernel
theorem dX12_bargain_115 : decode cX12_bargain 115 = .ok (.invokestatic 168, 3) := by decide +kernel
theorem dX12_bargain_118 : decode cX12_bargain 118 = .ok (.iastore, 1) := by decide +kernel
theorem dX12_bargain_119 : decode cX12_bargain 119 = .ok (.aload_n 0, 1) := by decide +kernel
theorem dX12_bargain_120 : decode cX12_bargain 120 = .ok (.getfield 68, 3) := by decide +kernel
theorem dX12_bargain_123 : decode cX12_bargain 123 = .ok (.iload 7, 2) := by decide +kernel
theorem dX12_bargain_125 : decode cX12_bargain 125 = .ok (.aload_n 0, 1) := by decide +kernel
theorem dX12_bargain_126 : decode cX12_bargain 126 = .ok (.getfield 68, 3) := by decide +kernel
theorem dX12_bargain_129 : decode cX12_bargain 129 = .ok (.iload 7, 2) := by decide +kernel
theorem dX12_bargain_131 : decode cX12_bargain 131 = .ok (.iaload, 1) := by decide +kernel
theorem dX12_bargain_132 : decode cX12_bargain 132 = .ok (.iload 7, 2) := by decide +kernel
theorem dX12_bargain_134 : decode cX12_bargain 134 = .ok (.iload 8, 2) := by decide +kernel
theorem dX12_bargain_136 : decode cX12_bargain 136 = .ok (.iload 6, 2) := by decide +kernel
theorem dX12_bargain_138 : decode cX12_bargain 138 = .ok (.invokestatic 417, 3) := by decide +kernel
theorem dX12_bargain_141 : decode cX12_bargain 141 = .ok (.invokestatic 168, 3) := by decide +kernel
theorem dX12_bargain_144 : decode cX12_bargain 144 = .ok (.iastore, 1) := by decide +kernel
theorem dX12_bargain_145 : decode cX12_bargain 145 = .ok (.iinc 8 1, 3) := by decide +kernel
theorem dX12_bargain_148 : decode cX12_bargain 148 = .ok (.goto (-62), 3) := by decide +kernel
theorem dX12_bargain_151 : decode cX12_bargain 151 = .ok (.iinc 7 1, 3) := by decide +kernel
theorem dX12_bargain_154 : decode cX12_bargain 154 = .ok (.goto (-98), 3) := by decide +kernel
theorem dX12_bargain_157 : decode cX12_bargain 157 = .ok (.iconst 0, 1) := by decide +kernel
theorem dX12_bargain_158 : decode cX12_bargain 158 = .ok (.istore 7, 2) := by decide +kernel
theorem dX12_bargain_160 : decode cX12_bargain 160 = .ok (.iconst 0, 1) := by decide +kernel
theorem dX12_bargain_161 : decode cX12_bargain 161 = .ok (.istore 8, 2) := by decide +kernel
theorem dX12_bargain_163 : decode cX12_bargain 163 = .ok (.iconst 0, 1) := by decide +kernel
theorem dX12_bargain_164 : decode cX12_bargain 164 = .ok (.istore 9, 2) := by decide +kernel
theorem dX12_bargain_166 : decode cX12_bargain 166 = .ok (.iload 9, 2) := by decide +kernel
theorem dX12_bargain_168 : decode cX12_bargain 168 = .ok (.bipush 99, 2) := by decide +kernel
theorem dX12_bargain_170 : decode cX12_bargain 170 = .ok (.if_icmp .gt 107, 3) := by decide +kernel
theorem dX12_bargain_173 : decode cX12_bargain 173 = .ok (.iconst 0, 1) := by decide +kernel
theorem dX12_bargain_174 : decode cX12_bargain 174 = .ok (.istore 10, 2) := by decide +kernel
theorem dX12_bargain_176 : decode cX12_bargain 176 = .ok (.iload 10, 2) := by decide +kernel
theorem dX12_bargain_178 : decode cX12_bargain 178 = .ok (.bipush 99, 2) := by decide +kernel
theorem dX12_bargain_180 : decode cX12_bargain 180 = .ok (.if_icmp .gt 91, 3) := by decide +kernel
theorem dX12_bargain_183 : decode cX12_bargain 183 = .ok (.iload 9, 2) := by decide +kernel
theorem dX12_bargain_185 : decode cX12_bargain 185 = .ok (.iload 10, 2) := by decide +kernel
theorem dX12_bargain_187 : decode cX12_bargain 187 = .ok (.iload 5, 2) := by decide +kernel
theorem dX12_bargain_189 : decode cX12_bargain 189 = .ok (.invokestatic 414, 3) := by decide +kernel
theorem dX12_bargain_192 : decode cX12_bargain 192 = .ok (.aload_n 0, 1) := by decide +kernel
theorem dX12_bargain_193 : decode cX12_bargain 193 = .ok (.getfield 65, 3) := by decide +kernel
theorem dX12_bargain_196 : decode cX12_bargain 196 = .ok (.iload 10, 2) := by decide +kernel
theorem dX12_bargain_198 : decode cX12_bargain 198 = .ok (.iaload, 1) := by decide +kernel
theorem dX12_bargain_199 : decode cX12_bargain 199 = .ok (.if_icmp .ne 26, 3) := by decide +kernel
theorem dX12_bargain_202 : decode cX12_bargain 202 = .ok (.iload 9, 2) := by decide +kernel
theorem dX12_bargain_204 : decode cX12_bargain 204 = .ok (.iload 10, 2) := by decide +kernel
theorem dX12_bargain_206 : decode cX12_bargain 206 = .ok (.iload 6, 2) := by decide +kernel
theorem dX12_bargain_208 : decode cX12_bargain 208 = .ok (.invokestatic 417, 3) := by decide +kernel
theorem dX12_bargain_211 : decode cX12_bargain 211 = .ok (.aload_n 0, 1) := by decide +kernel
theorem dX12_bargain_212 : decode cX12_bargain 212 = .ok (.getfield 68, 3) := by decide +kernel
theorem dX12_bargain_215 : decode cX12_bargain 215 = .ok (.iload 9, 2) := by decide +kernel
theorem dX12_bargain_217 : decode cX12_bargain 217 = .ok (.iaload, 1) := by decide +kernel
theorem dX12_bargain_218 : decode cX12_bargain 218 = .ok (.if_icmp .ne 7, 3) := by decide +kernel
theorem dX12_bargain_221 : decode cX12_bargain 221 = .ok (.iconst 1, 1) := by decide +kernel
theorem dX12_bargain_222 : decode cX12_bargain 222 = .ok (.goto 4, 3) := by decide +kernel
theorem dX12_bargain_225 : decode cX12_bargain 225 = .ok (.iconst 0, 1) := by decide +kernel
theorem dX12_bargain_226 : decode cX12_bargain 226 = .ok (.istore 11, 2) := by decide +kernel
theorem dX12_bargain_228 : decode cX12_bargain 228 = .ok (.iload 7, 2) := by decide +kernel
theorem dX12_bargain_230 : decode cX12_bargain 230 = .ok (.iload 11, 2) := by decide +kernel
theorem dX12_bargain_232 : decode cX12_bargain 232 = .ok (.ifCond .eq 7, 3) := by decide +kernel
theorem dX12_bargain_235 : decode cX12_bargain 235 = .ok (.iconst 1, 1) := by decide +kernel
theorem dX12_bargain_236 : decode cX12_bargain 236 = .ok (.goto 4, 3) := by decide +kernel
theorem dX12_bargain_239 : decode cX12_bargain 239 = .ok (.iconst 0, 1) := by decide +kernel
theorem dX12_bargain_240 : decode cX12_bargain 240 = .ok (.iadd, 1) := by decide +kernel
theorem dX12_bargain_241 : decode cX12_bargain 241 = .ok (.istore 7, 2) := by decide +kernel
theorem dX12_bargain_243 : decode cX12_bargain 243 = .ok (.iload 8, 2) := by decide +kernel
theorem dX12_bargain_245 : decode cX12_bargain 245 = .ok (.iload 11, 2) := by decide +kernel
theorem dX12_bargain_247 : decode cX12_bargain 247 = .ok (.ifCond .eq 14, 3) := by decide +kernel
theorem dX12_bargain_250 : decode cX12_bargain 250 = .ok (.iload 10, 2) := by decide +kernel
theorem dX12_bargain_252 : decode cX12_bargain 252 = .ok (.iload 9, 2) := by decide +kernel
theorem dX12_bargain_254 : decode cX12_bargain 254 = .ok (.if_icmp .lt 7, 3) := by decide +kernel
theorem dX12_bargain_257 : decode cX12_bargain 257 = .ok (.iconst 1, 1) := by decide +kernel
theorem dX12_bargain_258 : decode cX12_bargain 258 = .ok (.goto 4, 3) := by decide +kernel
theorem dX12_bargain_261 : decode cX12_bargain 261 = .ok (.iconst 0, 1) := by decide +kernel
theorem dX12_bargain_262 : decode cX12_bargain 262 = .ok (.iadd, 1) := by decide +kernel
theorem dX12_bargain_263 : decode cX12_bargain 263 = .ok (.istore 8, 2) := by decide +kernel
theorem dX12_bargain_265 : decode cX12_bargain 265 = .ok (.iinc 10 1, 3) := by decide +kernel
theorem dX12_bargain_268 : decode cX12_bargain 268 = .ok (.goto (-92), 3) := by decide +kernel
theorem dX12_bargain_271 : decode cX12_bargain 271 = .ok (.iinc 9 1, 3) := by decide +kernel
theorem dX12_bargain_274 : decode cX12_bargain 274 = .ok (.goto (-108), 3) := by decide +kernel
theorem dX12_bargain_277 : decode cX12_bargain 277 = .ok (.iload 4, 2) := by decide +kernel
theorem dX12_bargain_279 : decode cX12_bargain 279 = .ok (.ifCond .eq 8, 3) := by decide +kernel
theorem dX12_bargain_282 : decode cX12_bargain 282 = .ok (.iload 8, 2) := by decide +kernel
theorem dX12_bargain_284 : decode cX12_bargain 284 = .ok (.goto 5, 3) := by decide +kernel
theorem dX12_bargain_287 : decode cX12_bargain 287 = .ok (.iload 7, 2) := by decide +kernel
theorem dX12_bargain_289 : decode cX12_bargain 289 = .ok (.ireturn, 1) := by decide +kernel
def fX12_bargain_l86x (x0 : Nat) (x7_14 : Int32) (v11 : Int32) (v13 : Int32) (F30 : Int32 → zM → Option (zM)) (x8_28 : Int32) (m29 : zM) : Option (zM) :=
  if 99 < x8_28 then (
  some m29)
  else (
  zb1 (zm_gR m29 12 x0 41) fun v34 =>
  zb1 (zm_gR m29 12 x0 41) fun v36 =>
  zb1 (zm_aI m29 0 v36 x7_14) fun v38 =>
  zb1 (fX12_soldFor m29 x8_28 x7_14 v11) fun v41 =>
  zb1 (fX12_greater m29 v38 v41) fun v43 =>
  zb1 (zm_sI m29 0 v34 x7_14 v43) fun m44 =>
  zb1 (zm_gR m44 12 x0 42) fun v46 =>
  zb1 (zm_gR m44 12 x0 42) fun v48 =>
  zb1 (zm_aI m44 0 v48 x7_14) fun v50 =>
  zb1 (fX12_boughtFor m44 x7_14 x8_28 v13) fun v53 =>
  zb1 (fX12_greater m44 v50 v53) fun v55 =>
  zb1 (zm_sI m44 0 v46 x7_14 v55) fun m56 =>
  F30 (x8_28 + 1) m56)
def fX12_bargain_l56 (x0 : Nat) (v11 : Int32) (v13 : Int32) (F16 : Int32 → zM → Option (zM)) (x7_14 : Int32) (m15 : zM) : Option (zM) :=
  if 99 < x7_14 then (
  some m15)
  else (
  zb1 (zm_gR m15 12 x0 41) fun v20 =>
  zb1 (zm_sI m15 0 v20 x7_14 (-1000000)) fun m22 =>
  zb1 (zm_gR m22 12 x0 42) fun v24 =>
  zb1 (zm_sI m22 0 v24 x7_14 (-1000000)) fun m26 =>
  zb1 (zf2 (fX12_bargain_l86x x0 x7_14 v11 v13) zfu 0 m26) fun m32 =>
  F16 (x7_14 + 1) m32)
def fX12_bargain_b225xxx  : Option (Int32) :=
  some 0
def fX12_bargain_l176x (m18 : zM) (x9_62 : Int32) (v11 : Int32) (x0 : Nat) (v13 : Int32) (F71 : Int32 → Int32 → Int32 → Option (Int32 × Int32)) (x7_68 : Int32) (x8_69 : Int32) (x10_70 : Int32) : Option (Int32 × Int32) :=
  if 99 < x10_70 then (
  some (x7_68, x8_69))
  else (
  zb1 (fX12_soldFor m18 x9_62 x10_70 v11) fun v77 =>
  zb1 (zm_gR m18 12 x0 41) fun v78 =>
  zb1 (zm_aI m18 0 v78 x10_70) fun v80 =>
  zb1 (if v77 = v80 then (
  zb1 (fX12_boughtFor m18 x9_62 x10_70 v13) fun v90 =>
  zb1 (zm_gR m18 12 x0 42) fun v91 =>
  zb1 (zm_aI m18 0 v91 x9_62) fun v93 =>
  if v90 = v93 then (
  some 1)
  else (
  fX12_bargain_b225xxx))
  else (
  fX12_bargain_b225xxx)) fun s82 =>
  zb1 (if s82 = 0 then (
  some 0)
  else (
  some 1)) fun s85 =>
  zb1 (if s82 = 0 then (
  some 0)
  else (
  if x10_70 < x9_62 then (
  some 0)
  else (
  some 1))) fun s87 =>
  F71 (x7_68 + s85) (x8_69 + s87) (x10_70 + 1))
def fX12_bargain_l166 (m18 : zM) (v11 : Int32) (x0 : Nat) (v13 : Int32) (F63 : Int32 → Int32 → Int32 → Option (Int32 × Int32)) (x7_60 : Int32) (x8_61 : Int32) (x9_62 : Int32) : Option (Int32 × Int32) :=
  if 99 < x9_62 then (
  some (x7_60, x8_61))
  else (
  zb2 (zf3 (fX12_bargain_l176x m18 x9_62 v11 x0 v13) zfu x7_60 x8_61 0) fun x7_73 x8_74 =>
  F63 x7_73 x8_74 (x9_62 + 1))
def fX12_bargain (μ : zM) (x0 : Nat) (x1 : Int32) (x2 : Int32) (x3 : Int32) (x4 : Int32) : Option (Int32 × zM) := zgd (zm_ck μ 12 x0) <|
  zb1 (zm_p μ 12 x0 0 (.int 0)) fun m1 =>
  zb2 (fX12_hand m1 x0 x1) fun v5 m4 =>
  if v5 = 0 then (
  some ((-1), m4))
  else (
  zb1 (fX12_isKind m4 x0 x2 0) fun v7 =>
  if v7 = 0 then (
  some ((-1), m4))
  else (
  zb1 (fX12_isKind m4 x0 x3 1) fun v9 =>
  if v9 = 0 then (
  some ((-1), m4))
  else (
  zb1 (fX12_of m4 x0 (39 + x2)) fun v11 =>
  zb1 (fX12_of m4 x0 (39 + x3)) fun v13 =>
  zb1 (zf2 (fX12_bargain_l56 x0 v11 v13) zfu 0 m4) fun m18 =>
  zb2 (zf3 (fX12_bargain_l166 m18 v11 x0 v13) zfu 0 0 0) fun x7_65 x8_66 =>
  zb1 (if x4 = 0 then (
  some x7_65)
  else (
  some x8_66)) fun s97 =>
  some (s97, m18))))
theorem fX12_bargain_ck {μ : zM} {x0 : Nat} {x1 : Int32} {x2 : Int32} {x3 : Int32} {x4 : Int32} {z : Int32 × zM} (h : fX12_bargain μ x0 x1 x2 x3 x4 = some z) : zm_ck μ 12 x0 = true := (zgd_s h).1
set_option maxHeartbeats 4000000 in
set_option maxRecDepth 100000 in
theorem cX12_bargain_ok {μ : zM} {x0 : Nat} {x1 : Int32} {x2 : Int32} {x3 : Int32} {x4 : Int32} {r : Int32} {mo : zM} (hf : fX12_bargain μ x0 x1 x2 x3 x4 = some (r, mo)) : zC yX12_bargain cX12_bargain 12 (some .int) 3 0 0 [.ref x0, .int x1, .int x2, .int x3, .int x4] μ (some (.int r)) mo := by
  replace hf := (zgd_s hf).2
  refine zC.of (by decide) (Nat.le_of_ble_eq_true rfl) (fun K hin => ?_)
  clear hin
  show zz K cX12_bargain (12, RX12, some .int, 3, 0, 0, some (.int r), mo) 0 0 0 [(0, .ref x0), (1, .int x1), (2, .int x2), (3, .int x3), (4, .int x4)] [] μ
  refine zr_aload_n 0 dX12_bargain_0 rfl ?_
  refine zr_iconst 0 dX12_bargain_1 (by decide) ?_
  replace hf := zb1_s hf
  obtain ⟨m1, h2, hf⟩ := hf
  refine zr_put h2 zk12 (by decide) zl_788 rfl rfl rfl dX12_bargain_2 ?_
  refine zr_aload_n 0 dX12_bargain_5 rfl ?_
  refine zr_iload_n 1 dX12_bargain_6 rfl ?_
  replace hf := zb2_s hf
  obtain ⟨v5, m4, h3, hf⟩ := hf
  refine zr_callV (ci := 12) [.int x1] (cX12_hand_ok h3) zvs_X12_hand zl_946 zl_947 (fX12_hand_ck h3) rfl rfl zl_945 rfl (Nat.le_of_ble_eq_true rfl) (Nat.le_of_ble_eq_true rfl) (Nat.le_of_ble_eq_true rfl) (Nat.le_of_ble_eq_true rfl) dX12_bargain_7 rfl ?_
  refine zr_if_eq 31 dX12_bargain_10 (by decide) (fun hc => ?_) (fun hc => ?_)
  · rw [if_pos hc] at hf
    refine zr_iconst (-1) dX12_bargain_31 (by decide) ?_
    cases hf
    exact zr_iret dX12_bargain_32
  · rw [if_neg hc] at hf
    refine zr_aload_n 0 dX12_bargain_13 rfl ?_
    refine zr_iload_n 2 dX12_bargain_14 rfl ?_
    refine zr_iconst 0 dX12_bargain_15 (by decide) ?_
    replace hf := zb1_s hf
    obtain ⟨v7, h6, hf⟩ := hf
    refine zr_callV (ci := 12) [.int x2, .int 0] (cX12_isKind_ok h6) zvs_X12_isKind zl_1046 zl_1047 (fX12_isKind_ck h6) rfl rfl zl_1045 rfl (Nat.le_of_ble_eq_true rfl) (Nat.le_of_ble_eq_true rfl) (Nat.le_of_ble_eq_true rfl) (Nat.le_of_ble_eq_true rfl) dX12_bargain_16 rfl ?_
    refine zr_if_eq 31 dX12_bargain_19 (by decide) (fun hc => ?_) (fun hc => ?_)
    · rw [if_pos hc] at hf
      refine zr_iconst (-1) dX12_bargain_31 (by decide) ?_
      cases hf
      exact zr_iret dX12_bargain_32
    · rw [if_neg hc] at hf
      refine zr_aload_n 0 dX12_bargain_22 rfl ?_
      refine zr_iload_n 3 dX12_bargain_23 rfl ?_
      refine zr_iconst 1 dX12_bargain_24 (by decide) ?_
      replace hf := zb1_s hf
      obtain ⟨v9, h8, hf⟩ := hf
      refine zr_callV (ci := 12) [.int x3, .int 1] (cX12_isKind_ok h8) zvs_X12_isKind zl_1046 zl_1047 (fX12_isKind_ck h8) rfl rfl zl_1045 rfl (Nat.le_of_ble_eq_true rfl) (Nat.le_of_ble_eq_true rfl) (Nat.le_of_ble_eq_true rfl) (Nat.le_of_ble_eq_true rfl) dX12_bargain_25 rfl ?_
      refine zr_if_ne 33 dX12_bargain_28 (by decide) (fun hc => ?_) (fun hc => ?_)
      · rw [if_neg hc] at hf
        refine zr_aload_n 0 dX12_bargain_33 rfl ?_
        refine zr_bipush 39 dX12_bargain_34 (by decide) ?_
        refine zr_iload_n 2 dX12_bargain_36 rfl ?_
        refine zr_iadd dX12_bargain_37 ?_
        replace hf := zb1_s hf
        obtain ⟨v11, h10, hf⟩ := hf
        refine zr_callV (ci := 12) [.int (39 + x2)] (cX12_of_ok h10) zvs_X12_of zl_918 zl_919 (fX12_of_ck h10) rfl rfl zl_917 rfl (Nat.le_of_ble_eq_true rfl) (Nat.le_of_ble_eq_true rfl) (Nat.le_of_ble_eq_true rfl) (Nat.le_of_ble_eq_true rfl) dX12_bargain_38 rfl ?_
        refine zr_istore [(5, .int v11), (0, .ref x0), (1, .int x1), (2, .int x2), (3, .int x3), (4, .int x4)] dX12_bargain_41 (Nat.le_of_ble_eq_true rfl) rfl ?_
        refine zr_aload_n 1 dX12_bargain_43 rfl ?_
        refine zr_bipush 39 dX12_bargain_44 (by decide) ?_
        refine zr_iload_n 4 dX12_bargain_46 rfl ?_
        refine zr_iadd dX12_bargain_47 ?_
        replace hf := zb1_s hf
        obtain ⟨v13, h12, hf⟩ := hf
        refine zr_callV (ci := 12) [.int (39 + x3)] (cX12_of_ok h12) zvs_X12_of zl_918 zl_919 (fX12_of_ck h12) rfl rfl zl_917 rfl (Nat.le_of_ble_eq_true rfl) (Nat.le_of_ble_eq_true rfl) (Nat.le_of_ble_eq_true rfl) (Nat.le_of_ble_eq_true rfl) dX12_bargain_48 rfl ?_
        refine zr_istore [(6, .int v13), (5, .int v11), (0, .ref x0), (1, .int x1), (2, .int x2), (3, .int x3), (4, .int x4)] dX12_bargain_51 (Nat.le_of_ble_eq_true rfl) rfl ?_
        refine zr_iconst 0 dX12_bargain_53 (by decide) ?_
        refine zr_istore [(7, .int 0), (6, .int v13), (5, .int v11), (0, .ref x0), (1, .int x1), (2, .int x2), (3, .int x3), (4, .int x4)] dX12_bargain_54 (Nat.le_of_ble_eq_true rfl) rfl ?_
        replace hf := zb1_s hf
        obtain ⟨m18, hg, hf⟩ := hf
        have hj19 : zz K cX12_bargain (12, RX12, some .int, 3, 0, 0, some (.int r), mo) 0 0 157 [(0, .ref x0), (4, .int x4), (5, .int v11), (6, .int v13)] [] m18 := by
          refine zr_iconst 0 dX12_bargain_157 (by decide) ?_
          refine zr_istore [(7, .int 0), (0, .ref x0), (4, .int x4), (5, .int v11), (6, .int v13)] dX12_bargain_158 (Nat.le_of_ble_eq_true rfl) rfl ?_
          refine zr_iconst 0 dX12_bargain_160 (by decide) ?_
          refine zr_istore [(8, .int 0), (7, .int 0), (0, .ref x0), (4, .int x4), (5, .int v11), (6, .int v13)] dX12_bargain_161 (Nat.le_of_ble_eq_true rfl) rfl ?_
          refine zr_iconst 0 dX12_bargain_163 (by decide) ?_
          refine zr_istore [(9, .int 0), (8, .int 0), (7, .int 0), (0, .ref x0), (4, .int x4), (5, .int v11), (6, .int v13)] dX12_bargain_164 (Nat.le_of_ble_eq_true rfl) rfl ?_
          replace hf := zb2_s hf
          obtain ⟨x7_65, x8_66, hg, hf⟩ := hf
          have hj67 : zz K cX12_bargain (12, RX12, some .int, 3, 0, 0, some (.int r), mo) 0 0 277 [(4, .int x4), (7, .int x7_65), (8, .int x8_66)] [] m18 := by
            refine zr_iload 0 dX12_bargain_277 rfl ?_
            replace hf := zb1_s hf
            obtain ⟨s97, hg, hf⟩ := hf
            have hj98 : zz K cX12_bargain (12, RX12, some .int, 3, 0, 0, some (.int r), mo) 0 0 289 [] [.int s97] m18 := by
              cases hf
              exact zr_iret dX12_bargain_289
            clear hf
            have hf := hg
            clear hg
            refine zr_if_eq 287 dX12_bargain_279 (by decide) (fun hc => ?_) (fun hc => ?_)
            · rw [if_pos hc] at hf
              refine zr_iload 1 dX12_bargain_287 rfl ?_
              cases hf
              exact zr_lv [] rfl hj98
            · rw [if_neg hc] at hf
              refine zr_iload 2 dX12_bargain_282 rfl ?_
              refine zr_goto 289 dX12_bargain_284 (by decide) ?_
              cases hf
              exact zr_lv [] rfl hj98
          clear hf
          have hf := hg
          clear hg
          have hL96 : ∀ (n : Nat) (x7_60 : Int32) (x8_61 : Int32) (x9_62 : Int32), zf3 (fX12_bargain_l166 m18 v11 x0 v13) n x7_60 x8_61 x9_62 = some (x7_65, x8_66) → zz K cX12_bargain (12, RX12, some .int, 3, 0, 0, some (.int r), mo) 0 0 166 [(0, .ref x0), (4, .int x4), (5, .int v11), (6, .int v13), (7, .int x7_60), (8, .int x8_61), (9, .int x9_62)] [] m18 := by
            intro n
            induction n with
            | zero => intro x7_60 x8_61 x9_62 hf; cases hf
            | succ n ih64 =>
              intro x7_60 x8_61 x9_62 hf
              replace hf := zf3_s hf
              generalize zf3 (fX12_bargain_l166 m18 v11 x0 v13) n = F63 at hf ih64
              unfold fX12_bargain_l166 at hf
              refine zr_iload 6 dX12_bargain_166 rfl ?_
              refine zr_bipush 99 dX12_bargain_168 (by decide) ?_
              refine zr_icmp_gt 277 dX12_bargain_170 (by decide) (fun hc => ?_) (fun hc => ?_)
              · rw [if_pos hc] at hf
                cases hf
                exact zr_lv [1, 4, 5] rfl hj67
              · rw [if_neg hc] at hf
                refine zr_iconst 0 dX12_bargain_173 (by decide) ?_
                refine zr_istore [(10, .int 0), (0, .ref x0), (4, .int x4), (5, .int v11), (6, .int v13), (7, .int x7_60), (8, .int x8_61), (9, .int x9_62)] dX12_bargain_174 (Nat.le_of_ble_eq_true rfl) rfl ?_
                replace hf := zb2_s hf
                obtain ⟨x7_73, x8_74, hg, hf⟩ := hf
                have hj75 : zz K cX12_bargain (12, RX12, some .int, 3, 0, 0, some (.int r), mo) 0 0 271 [(0, .ref x0), (4, .int x4), (5, .int v11), (6, .int v13), (7, .int x7_73), (8, .int x8_74), (9, .int x9_62)] [] m18 := by
                  refine zr_iinc (j := 6) (x9_62 + 1) [(9, .int (x9_62 + 1)), (0, .ref x0), (4, .int x4), (5, .int v11), (6, .int v13), (7, .int x7_73), (8, .int x8_74)] dX12_bargain_271 rfl rfl (Nat.le_of_ble_eq_true rfl) rfl ?_
                  refine zr_goto 166 dX12_bargain_274 (by decide) ?_
                  exact zr_lv [1, 2, 3, 4, 5, 6, 0] rfl (ih64 x7_73 x8_74 (x9_62 + 1) hf)
                clear hf
                have hf := hg
                clear hg
                have hL95 : ∀ (n : Nat) (x7_68 : Int32) (x8_69 : Int32) (x10_70 : Int32), zf3 (fX12_bargain_l176x m18 x9_62 v11 x0 v13) n x7_68 x8_69 x10_70 = some (x7_73, x8_74) → zz K cX12_bargain (12, RX12, some .int, 3, 0, 0, some (.int r), mo) 0 0 176 [(0, .ref x0), (4, .int x4), (5, .int v11), (6, .int v13), (7, .int x7_68), (8, .int x8_69), (9, .int x9_62), (10, .int x10_70)] [] m18 := by
                  intro n
                  induction n with
                  | zero => intro x7_68 x8_69 x10_70 hf; cases hf
                  | succ n ih72 =>
                    intro x7_68 x8_69 x10_70 hf
                    replace hf := zf3_s hf
                    generalize zf3 (fX12_bargain_l176x m18 x9_62 v11 x0 v13) n = F71 at hf ih72
                    unfold fX12_bargain_l176x at hf
                    refine zr_iload 7 dX12_bargain_176 rfl ?_
                    refine zr_bipush 99 dX12_bargain_178 (by decide) ?_
                    refine zr_icmp_gt 271 dX12_bargain_180 (by decide) (fun hc => ?_) (fun hc => ?_)
                    · rw [if_pos hc] at hf
                      cases hf
                      exact zr_lv [0, 1, 2, 3, 4, 5, 6] rfl hj75
                    · rw [if_neg hc] at hf
                      refine zr_iload 6 dX12_bargain_183 rfl ?_
                      refine zr_iload 7 dX12_bargain_185 rfl ?_
                      refine zr_iload 2 dX12_bargain_187 rfl ?_
                      replace hf := zb1_s hf
                      obtain ⟨v77, h76, hf⟩ := hf
                      refine zr_callS [.int x9_62, .int x10_70, .int v11] (cX12_soldFor_ok h76) zvs_X12_soldFor zl_1068 zl_1067 rfl (Nat.le_of_ble_eq_true rfl) (Nat.le_of_ble_eq_true rfl) (Nat.le_of_ble_eq_true rfl) (Nat.le_of_ble_eq_true rfl) dX12_bargain_189 rfl ?_
                      refine zr_aload_n 0 dX12_bargain_192 rfl ?_
                      replace hf := zb1_s hf
                      obtain ⟨v78, h79, hf⟩ := hf
                      refine zr_get (zm_gR_g h79) zk12 (by decide) zl_771 dX12_bargain_193 ?_
                      refine zr_iload 7 dX12_bargain_196 rfl ?_
                      replace hf := zb1_s hf
                      obtain ⟨v80, h81, hf⟩ := hf
                      refine zr_iald h81 dX12_bargain_198 ?_
                      replace hf := zb1_s hf
                      obtain ⟨s82, hg, hf⟩ := hf
                      have hj83 : zz K cX12_bargain (12, RX12, some .int, 3, 0, 0, some (.int r), mo) 0 0 226 [(0, .ref x0), (4, .int x4), (5, .int v11), (6, .int v13), (7, .int x7_68), (8, .int x8_69), (9, .int x9_62), (10, .int x10_70)] [.int s82] m18 := by
                        refine zr_istore [(11, .int s82), (0, .ref x0), (4, .int x4), (5, .int v11), (6, .int v13), (7, .int x7_68), (8, .int x8_69), (9, .int x9_62), (10, .int x10_70)] dX12_bargain_226 (Nat.le_of_ble_eq_true rfl) rfl ?_
                        refine zr_iload 5 dX12_bargain_228 rfl ?_
                        refine zr_iload 0 dX12_bargain_230 rfl ?_
                        replace hf := zb1_s hf
                        obtain ⟨s85, hg, hf⟩ := hf
                        have hj86 : zz K cX12_bargain (12, RX12, some .int, 3, 0, 0, some (.int r), mo) 0 0 240 [(0, .ref x0), (4, .int x4), (5, .int v11), (6, .int v13), (8, .int x8_69), (9, .int x9_62), (10, .int x10_70), (11, .int s82)] [.int s85, .int x7_68] m18 := by
                          refine zr_iadd dX12_bargain_240 ?_
                          refine zr_istore [(7, .int (x7_68 + s85)), (0, .ref x0), (4, .int x4), (5, .int v11), (6, .int v13), (8, .int x8_69), (9, .int x9_62), (10, .int x10_70), (11, .int s82)] dX12_bargain_241 (Nat.le_of_ble_eq_true rfl) rfl ?_
                          refine zr_iload 5 dX12_bargain_243 rfl ?_
                          refine zr_iload 8 dX12_bargain_245 rfl ?_
                          replace hf := zb1_s hf
                          obtain ⟨s87, hg, hf⟩ := hf
                          have hj88 : zz K cX12_bargain (12, RX12, some .int, 3, 0, 0, some (.int r), mo) 0 0 262 [(0, .ref x0), (4, .int x4), (5, .int v11), (6, .int v13), (7, .int (x7_68 + s85)), (9, .int x9_62), (10, .int x10_70)] [.int s87, .int x8_69] m18 := by
                            refine zr_iadd dX12_bargain_262 ?_
                            refine zr_istore [(8, .int (x8_69 + s87)), (0, .ref x0), (4, .int x4), (5, .int v11), (6, .int v13), (7, .int (x7_68 + s85)), (9, .int x9_62), (10, .int x10_70)] dX12_bargain_263 (Nat.le_of_ble_eq_true rfl) rfl ?_
                            refine zr_iinc (j := 7) (x10_70 + 1) [(10, .int (x10_70 + 1)), (8, .int (x8_69 + s87)), (0, .ref x0), (4, .int x4), (5, .int v11), (6, .int v13), (7, .int (x7_68 + s85)), (9, .int x9_62)] dX12_bargain_265 rfl rfl (Nat.le_of_ble_eq_true rfl) rfl ?_
                            refine zr_goto 176 dX12_bargain_268 (by decide) ?_
                            exact zr_lv [2, 3, 4, 5, 6, 1, 7, 0] rfl (ih72 (x7_68 + s85) (x8_69 + s87) (x10_70 + 1) hf)
                          clear hf
                          have hf := hg
                          clear hg
                          refine zr_if_eq 261 dX12_bargain_247 (by decide) (fun hc => ?_) (fun hc => ?_)
                          · rw [if_pos hc] at hf
                            refine zr_iconst 0 dX12_bargain_261 (by decide) ?_
                            cases hf
                            exact zr_lv [1, 2, 3, 4, 0, 6, 7] rfl hj88
                          · rw [if_neg hc] at hf
                            refine zr_iload 7 dX12_bargain_250 rfl ?_
                            refine zr_iload 6 dX12_bargain_252 rfl ?_
                            refine zr_icmp_lt 261 dX12_bargain_254 (by decide) (fun hc => ?_) (fun hc => ?_)
                            · rw [if_pos hc] at hf
                              refine zr_iconst 0 dX12_bargain_261 (by decide) ?_
                              cases hf
                              exact zr_lv [1, 2, 3, 4, 0, 6, 7] rfl hj88
                            · rw [if_neg hc] at hf
                              refine zr_iconst 1 dX12_bargain_257 (by decide) ?_
                              refine zr_goto 262 dX12_bargain_258 (by decide) ?_
                              cases hf
                              exact zr_lv [1, 2, 3, 4, 0, 6, 7] rfl hj88
                        clear hf
                        have hf := hg
                        clear hg
                        refine zr_if_eq 239 dX12_bargain_232 (by decide) (fun hc => ?_) (fun hc => ?_)
                        · rw [if_pos hc] at hf
                          refine zr_iconst 0 dX12_bargain_239 (by decide) ?_
                          cases hf
                          exact zr_lv [1, 2, 3, 4, 6, 7, 8, 0] rfl hj86
                        · rw [if_neg hc] at hf
                          refine zr_iconst 1 dX12_bargain_235 (by decide) ?_
                          refine zr_goto 240 dX12_bargain_236 (by decide) ?_
                          cases hf
                          exact zr_lv [1, 2, 3, 4, 6, 7, 8, 0] rfl hj86
                      clear hf
                      have hf := hg
                      clear hg
                      have hb84 : ∀ (_ : Unit), fX12_bargain_b225xxx = some s82 → zz K cX12_bargain (12, RX12, some .int, 3, 0, 0, some (.int r), mo) 0 0 225 [(0, .ref x0), (4, .int x4), (5, .int v11), (6, .int v13), (7, .int x7_68), (8, .int x8_69), (9, .int x9_62), (10, .int x10_70)] [] m18 := by
                        intro _ hf
                        unfold fX12_bargain_b225xxx at hf
                        refine zr_iconst 0 dX12_bargain_225 (by decide) ?_
                        cases hf
                        exact zr_lv [0, 1, 2, 3, 4, 5, 6, 7] rfl hj83
                      refine zr_icmp_ne 225 dX12_bargain_199 (by decide) (fun hc => ?_) (fun hc => ?_)
                      · rw [if_neg hc] at hf
                        exact zr_lv [0, 1, 2, 3, 4, 5, 6, 7] rfl (hb84 () hf)
                      · rw [if_pos hc] at hf
                        refine zr_iload 6 dX12_bargain_202 rfl ?_
                        refine zr_iload 7 dX12_bargain_204 rfl ?_
                        refine zr_iload 3 dX12_bargain_206 rfl ?_
                        replace hf := zb1_s hf
                        obtain ⟨v90, h89, hf⟩ := hf
                        refine zr_callS [.int x9_62, .int x10_70, .int v13] (cX12_boughtFor_ok h89) zvs_X12_boughtFor zl_1071 zl_1070 rfl (Nat.le_of_ble_eq_true rfl) (Nat.le_of_ble_eq_true rfl) (Nat.le_of_ble_eq_true rfl) (Nat.le_of_ble_eq_true rfl) dX12_bargain_208 rfl ?_
                        refine zr_aload_n 0 dX12_bargain_211 rfl ?_
                        replace hf := zb1_s hf
                        obtain ⟨v91, h92, hf⟩ := hf
                        refine zr_get (zm_gR_g h92) zk12 (by decide) zl_772 dX12_bargain_212 ?_
                        refine zr_iload 6 dX12_bargain_215 rfl ?_
                        replace hf := zb1_s hf
                        obtain ⟨v93, h94, hf⟩ := hf
                        refine zr_iald h94 dX12_bargain_217 ?_
                        refine zr_icmp_ne 225 dX12_bargain_218 (by decide) (fun hc => ?_) (fun hc => ?_)
                        · rw [if_neg hc] at hf
                          exact zr_lv [0, 1, 2, 3, 4, 5, 6, 7] rfl (hb84 () hf)
                        · rw [if_pos hc] at hf
                          refine zr_iconst 1 dX12_bargain_221 (by decide) ?_
                          refine zr_goto 226 dX12_bargain_222 (by decide) ?_
                          cases hf
                          exact zr_lv [0, 1, 2, 3, 4, 5, 6, 7] rfl hj83
                exact zr_lv [1, 2, 3, 4, 5, 6, 7, 0] rfl (hL95 _ x7_60 x8_61 0 hf)
          exact zr_lv [3, 4, 5, 6, 2, 1, 0] rfl (hL96 _ 0 0 0 hf)
        clear hf
        have hf := hg
        clear hg
        have hL59 : ∀ (n : Nat) (x7_14 : Int32) (m15 : zM), zf2 (fX12_bargain_l56 x0 v11 v13) n x7_14 m15 = some m18 → zz K cX12_bargain (12, RX12, some .int, 3, 0, 0, some (.int r), mo) 0 0 56 [(0, .ref x0), (4, .int x4), (5, .int v11), (6, .int v13), (7, .int x7_14)] [] m15 := by
          intro n
          induction n with
          | zero => intro x7_14 m15 hf; cases hf
          | succ n ih17 =>
            intro x7_14 m15 hf
            replace hf := zf2_s hf
            generalize zf2 (fX12_bargain_l56 x0 v11 v13) n = F16 at hf ih17
            unfold fX12_bargain_l56 at hf
            refine zr_iload 4 dX12_bargain_56 rfl ?_
            refine zr_bipush 99 dX12_bargain_58 (by decide) ?_
            refine zr_icmp_gt 157 dX12_bargain_60 (by decide) (fun hc => ?_) (fun hc => ?_)
            · rw [if_pos hc] at hf
              cases hf
              exact zr_lv [0, 1, 2, 3] rfl hj19
            · rw [if_neg hc] at hf
              refine zr_aload_n 0 dX12_bargain_63 rfl ?_
              replace hf := zb1_s hf
              obtain ⟨v20, h21, hf⟩ := hf
              refine zr_get (zm_gR_g h21) zk12 (by decide) zl_771 dX12_bargain_64 ?_
              refine zr_iload 4 dX12_bargain_67 rfl ?_
              refine zr_ldcw zl_1065 dX12_bargain_69 ?_
              replace hf := zb1_s hf
              obtain ⟨m22, h23, hf⟩ := hf
              refine zr_iast h23 dX12_bargain_72 ?_
              refine zr_aload_n 0 dX12_bargain_73 rfl ?_
              replace hf := zb1_s hf
              obtain ⟨v24, h25, hf⟩ := hf
              refine zr_get (zm_gR_g h25) zk12 (by decide) zl_772 dX12_bargain_74 ?_
              refine zr_iload 4 dX12_bargain_77 rfl ?_
              refine zr_ldcw zl_1065 dX12_bargain_79 ?_
              replace hf := zb1_s hf
              obtain ⟨m26, h27, hf⟩ := hf
              refine zr_iast h27 dX12_bargain_82 ?_
              refine zr_iconst 0 dX12_bargain_83 (by decide) ?_
              refine zr_istore [(8, .int 0), (0, .ref x0), (4, .int x4), (5, .int v11), (6, .int v13), (7, .int x7_14)] dX12_bargain_84 (Nat.le_of_ble_eq_true rfl) rfl ?_
              replace hf := zb1_s hf
              obtain ⟨m32, hg, hf⟩ := hf
              have hj33 : zz K cX12_bargain (12, RX12, some .int, 3, 0, 0, some (.int r), mo) 0 0 151 [(0, .ref x0), (4, .int x4), (5, .int v11), (6, .int v13), (7, .int x7_14)] [] m32 := by
                refine zr_iinc (j := 4) (x7_14 + 1) [(7, .int (x7_14 + 1)), (0, .ref x0), (4, .int x4), (5, .int v11), (6, .int v13)] dX12_bargain_151 rfl rfl (Nat.le_of_ble_eq_true rfl) rfl ?_
                refine zr_goto 56 dX12_bargain_154 (by decide) ?_
                exact zr_lv [1, 2, 3, 4, 0] rfl (ih17 (x7_14 + 1) m32 hf)
              clear hf
              have hf := hg
              clear hg
              have hL58 : ∀ (n : Nat) (x8_28 : Int32) (m29 : zM), zf2 (fX12_bargain_l86x x0 x7_14 v11 v13) n x8_28 m29 = some m32 → zz K cX12_bargain (12, RX12, some .int, 3, 0, 0, some (.int r), mo) 0 0 86 [(0, .ref x0), (4, .int x4), (5, .int v11), (6, .int v13), (7, .int x7_14), (8, .int x8_28)] [] m29 := by
                intro n
                induction n with
                | zero => intro x8_28 m29 hf; cases hf
                | succ n ih31 =>
                  intro x8_28 m29 hf
                  replace hf := zf2_s hf
                  generalize zf2 (fX12_bargain_l86x x0 x7_14 v11 v13) n = F30 at hf ih31
                  unfold fX12_bargain_l86x at hf
                  refine zr_iload 5 dX12_bargain_86 rfl ?_
                  refine zr_bipush 99 dX12_bargain_88 (by decide) ?_
                  refine zr_icmp_gt 151 dX12_bargain_90 (by decide) (fun hc => ?_) (fun hc => ?_)
                  · rw [if_pos hc] at hf
                    cases hf
                    exact zr_lv [0, 1, 2, 3, 4] rfl hj33
                  · rw [if_neg hc] at hf
                    refine zr_aload_n 0 dX12_bargain_93 rfl ?_
                    replace hf := zb1_s hf
                    obtain ⟨v34, h35, hf⟩ := hf
                    refine zr_get (zm_gR_g h35) zk12 (by decide) zl_771 dX12_bargain_94 ?_
                    refine zr_iload 4 dX12_bargain_97 rfl ?_
                    refine zr_aload_n 0 dX12_bargain_99 rfl ?_
                    replace hf := zb1_s hf
                    obtain ⟨v36, h37, hf⟩ := hf
                    refine zr_get (zm_gR_g h37) zk12 (by decide) zl_771 dX12_bargain_100 ?_
                    refine zr_iload 4 dX12_bargain_103 rfl ?_
                    replace hf := zb1_s hf
                    obtain ⟨v38, h39, hf⟩ := hf
                    refine zr_iald h39 dX12_bargain_105 ?_
                    refine zr_iload 5 dX12_bargain_106 rfl ?_
                    refine zr_iload 4 dX12_bargain_108 rfl ?_
                    refine zr_iload 2 dX12_bargain_110 rfl ?_
                    replace hf := zb1_s hf
                    obtain ⟨v41, h40, hf⟩ := hf
                    refine zr_callS [.int x8_28, .int x7_14, .int v11] (cX12_soldFor_ok h40) zvs_X12_soldFor zl_1068 zl_1067 rfl (Nat.le_of_ble_eq_true rfl) (Nat.le_of_ble_eq_true rfl) (Nat.le_of_ble_eq_true rfl) (Nat.le_of_ble_eq_true rfl) dX12_bargain_112 rfl ?_
                    replace hf := zb1_s hf
                    obtain ⟨v43, h42, hf⟩ := hf
                    refine zr_callS [.int v38, .int v41] (cX12_greater_ok h42) zvs_X12_greater zl_829 zl_828 rfl (Nat.le_of_ble_eq_true rfl) (Nat.le_of_ble_eq_true rfl) (Nat.le_of_ble_eq_true rfl) (Nat.le_of_ble_eq_true rfl) dX12_bargain_115 rfl ?_
                    replace hf := zb1_s hf
                    obtain ⟨m44, h45, hf⟩ := hf
                    refine zr_iast h45 dX12_bargain_118 ?_
                    refine zr_aload_n 0 dX12_bargain_119 rfl ?_
                    replace hf := zb1_s hf
                    obtain ⟨v46, h47, hf⟩ := hf
                    refine zr_get (zm_gR_g h47) zk12 (by decide) zl_772 dX12_bargain_120 ?_
                    refine zr_iload 4 dX12_bargain_123 rfl ?_
                    refine zr_aload_n 0 dX12_bargain_125 rfl ?_
                    replace hf := zb1_s hf
                    obtain ⟨v48, h49, hf⟩ := hf
                    refine zr_get (zm_gR_g h49) zk12 (by decide) zl_772 dX12_bargain_126 ?_
                    refine zr_iload 4 dX12_bargain_129 rfl ?_
                    replace hf := zb1_s hf
                    obtain ⟨v50, h51, hf⟩ := hf
                    refine zr_iald h51 dX12_bargain_131 ?_
                    refine zr_iload 4 dX12_bargain_132 rfl ?_
                    refine zr_iload 5 dX12_bargain_134 rfl ?_
                    refine zr_iload 3 dX12_bargain_136 rfl ?_
                    replace hf := zb1_s hf
                    obtain ⟨v53, h52, hf⟩ := hf
                    refine zr_callS [.int x7_14, .int x8_28, .int v13] (cX12_boughtFor_ok h52) zvs_X12_boughtFor zl_1071 zl_1070 rfl (Nat.le_of_ble_eq_true rfl) (Nat.le_of_ble_eq_true rfl) (Nat.le_of_ble_eq_true rfl) (Nat.le_of_ble_eq_true rfl) dX12_bargain_138 rfl ?_
                    replace hf := zb1_s hf
                    obtain ⟨v55, h54, hf⟩ := hf
                    refine zr_callS [.int v50, .int v53] (cX12_greater_ok h54) zvs_X12_greater zl_829 zl_828 rfl (Nat.le_of_ble_eq_true rfl) (Nat.le_of_ble_eq_true rfl) (Nat.le_of_ble_eq_true rfl) (Nat.le_of_ble_eq_true rfl) dX12_bargain_141 rfl ?_
                    replace hf := zb1_s hf
                    obtain ⟨m56, h57, hf⟩ := hf
                    refine zr_iast h57 dX12_bargain_144 ?_
                    refine zr_iinc (j := 5) (x8_28 + 1) [(8, .int (x8_28 + 1)), (0, .ref x0), (4, .int x4), (5, .int v11), (6, .int v13), (7, .int x7_14)] dX12_bargain_145 rfl rfl (Nat.le_of_ble_eq_true rfl) rfl ?_
                    refine zr_goto 86 dX12_bargain_148 (by decide) ?_
                    exact zr_lv [1, 2, 3, 4, 5, 0] rfl (ih31 (x8_28 + 1) m56 hf)
              exact zr_lv [1, 2, 3, 4, 5, 0] rfl (hL58 _ 0 m26 hf)
        exact zr_lv [3, 7, 2, 1, 0] rfl (hL59 _ 0 m4 hf)
      · rw [if_pos hc] at hf
        refine zr_iconst (-1) dX12_bargain_31 (by decide) ?_
        cases hf
        exact zr_iret dX12_bargain_32
theorem dX12_heavy_0 : decode cX12_heavy 0 = .ok (.iconst 0, 1) := by decide +kernel
theorem dX12_heavy_1 : decode cX12_heavy 1 = .ok (.istore_n 2, 1) := by decide +kernel
theorem dX12_heavy_2 : decode cX12_heavy 2 = .ok (.iload_n 2, 1) := by decide +kernel
theorem dX12_heavy_3 : decode cX12_heavy 3 = .ok (.bipush 8, 2) := by decide +kernel
theorem dX12_heavy_5 : decode cX12_heavy 5 = .ok (.if_icmp .ge 95, 3) := by decide +kernel
theorem dX12_heavy_8 : decode cX12_heavy 8 = .ok (.iconst 0, 1) := by decide +kernel
theorem dX12_heavy_9 : decode cX12_heavy 9 = .ok (.istore_n 3, 1) := by decide +kernel
theorem dX12_heavy_10 : decode cX12_heavy 10 = .ok (.iconst 0, 1) := by decide +kernel
theorem dX12_heavy_11 : decode cX12_heavy 11 = .ok (.istore 4, 2) := by decide +kernel
theorem dX12_heavy_13 : decode cX12_heavy 13 = .ok (.iload 4, 2) := by decide +kernel
theorem dX12_heavy_15 : decode cX12_heavy 15 = .ok (.bipush 8, 2) := by decide +kernel
theorem dX12_heavy_17 : decode cX12_heavy 17 = .ok (.if_icmp .ge 63, 3) := by decide +kernel
theorem dX12_heavy_20 : decode cX12_heavy 20 = .ok (.iload_n 3, 1) := by decide +kernel
theorem dX12_heavy_21 : decode cX12_heavy 21 = .ok (.aload_n 0, 1) := by decide +kernel
theorem dX12_heavy_22 : decode cX12_heavy 22 = .ok (.bipush 19, 2) := by decide +kernel
theorem dX12_heavy_24 : decode cX12_heavy 24 = .ok (.iload 4, 2) := by decide +kernel
theorem dX12_heavy_26 : decode cX12_heavy 26 = .ok (.iadd, 1) := by decide +kernel
theorem dX12_heavy_27 : decode cX12_heavy 27 = .ok (.invokevirtual 269, 3) := by decide +kernel
theorem dX12_heavy_30 : decode cX12_heavy 30 = .ok (.aload_n 0, 1) := by decide +kernel
theorem dX12_heavy_31 : decode cX12_heavy 31 = .ok (.bipush 19, 2) := by decide +kernel
theorem dX12_heavy_33 : decode cX12_heavy 33 = .ok (.iload_n 2, 1) := by decide +kernel
theorem dX12_heavy_34 : decode cX12_heavy 34 = .ok (.iadd, 1) := by decide +kernel
theorem dX12_heavy_35 : decode cX12_heavy 35 = .ok (.invokevirtual 269, 3) := by decide +kernel
theorem dX12_heavy_38 : decode cX12_heavy 38 = .ok (.if_icmp .gt 29, 3) := by decide +kernel
theorem dX12_heavy_41 : decode cX12_heavy 41 = .ok (.aload_n 0, 1) := by decide +kernel
theorem dX12_heavy_42 : decode cX12_heavy 42 = .ok (.bipush 19, 2) := by decide +kernel
theorem dX12_heavy_44 : decode cX12_heavy 44 = .ok (.iload 4, 2) := by decide +kernel
theorem dX12_heavy_46 : decode cX12_heavy 46 = .ok (.iadd, 1) := by decide +kernel
theorem dX12_heavy_47 : decode cX12_heavy 47 = .ok (.invokevirtual 269, 3) := by decide +kernel
theorem dX12_heavy_50 : decode cX12_heavy 50 = .ok (.aload_n 0, 1) := by decide +kernel
theorem dX12_heavy_51 : decode cX12_heavy 51 = .ok (.bipush 19, 2) := by decide +kernel
theorem dX12_heavy_53 : decode cX12_heavy 53 = .ok (.iload_n 2, 1) := by decide +kernel
theorem dX12_heavy_54 : decode cX12_heavy 54 = .ok (.iadd, 1) := by decide +kernel
theorem dX12_heavy_55 : decode cX12_heavy 55 = .ok (.invokevirtual 269, 3) := by decide +kernel
theorem dX12_heavy_58 : decode cX12_heavy 58 = .ok (.if_icmp .ne 13, 3) := by decide +kernel
theorem dX12_heavy_61 : decode cX12_heavy 61 = .ok (.iload 4, 2) := by decide +kernel
theorem dX12_heavy_63 : decode cX12_heavy 63 = .ok (.iload_n 2, 1) := by decide +kernel
theorem dX12_heavy_64 : decode cX12_heavy 64 = .ok (.if_icmp .ge 7, 3) := by decide +kernel
theorem dX12_heavy_67 : decode cX12_heavy 67 = .ok (.iconst 1, 1) := by decide +kernel
theorem dX12_heavy_68 : decode cX12_heavy 68 = .ok (.goto 4, 3) := by decide +kernel
theorem dX12_heavy_71 : decode cX12_heavy 71 = .ok (.iconst 0, 1) := by decide +kernel
theorem dX12_heavy_72 : decode cX12_heavy 72 = .ok (.iadd, 1) := by decide +kernel
theorem dX12_heavy_73 : decode cX12_heavy 73 = .ok (.istore_n 3, 1) := by decide +kernel
theorem dX12_heavy_74 : decode cX12_heavy 74 = .ok (.iinc 4 1, 3) := by decide +kernel
theorem dX12_heavy_77 : decode cX12_heavy 77 = .ok (.goto (-64), 3) := by decide +kernel
theorem dX12_heavy_80 : decode cX12_heavy 80 = .ok (.iload_n 3, 1) := by decide +kernel
theorem dX12_heavy_81 : decode cX12_heavy 81 = .ok (.iload_n 1, 1) := by decide +kernel
theorem dX12_heavy_82 : decode cX12_heavy 82 = .ok (.if_icmp .ne 12, 3) := by decide +kernel
theorem dX12_heavy_85 : decode cX12_heavy 85 = .ok (.aload_n 0, 1) := by decide +kernel
theorem dX12_heavy_86 : decode cX12_heavy 86 = .ok (.bipush 19, 2) := by decide +kernel
theorem dX12_heavy_88 : decode cX12_heavy 88 = .ok (.iload_n 2, 1) := by decide +kernel
theorem dX12_heavy_89 : decode cX12_heavy 89 = .ok (.iadd, 1) := by decide +kernel
theorem dX12_heavy_90 : decode cX12_heavy 90 = .ok (.invokevirtual 269, 3) := by decide +kernel
theorem dX12_heavy_93 : decode cX12_heavy 93 = .ok (.ireturn, 1) := by decide +kernel
theorem dX12_heavy_94 : decode cX12_heavy 94 = .ok (.iinc 2 1, 3) := by decide +kernel
theorem dX12_heavy_97 : decode cX12_heavy 97 = .ok (.goto (-95), 3) := by decide +kernel
theorem dX12_heavy_100 : decode cX12_heavy 100 = .ok (.iconst 0, 1) := by decide +kernel
theorem dX12_heavy_101 : decode cX12_heavy 101 = .ok (.ireturn, 1) := by decide +kernel
def fX12_heavy_l13 (μ : zM) (x0 : Nat) (x2_1 : Int32) (F6 : Int32 → Int32 → Option (Int32)) (x3_4 : Int32) (x4_5 : Int32) : Option (Int32) :=
  if 8 ≤ x4_5 then (
  some x3_4)
  else (
  zb1 (fX12_of μ x0 (19 + x4_5)) fun v11 =>
  zb1 (fX12_of μ x0 (19 + x2_1)) fun v13 =>
  zb1 (if v13 < v11 then (
  some 1)
  else (
  zb1 (fX12_of μ x0 (19 + x4_5)) fun v17 =>
  zb1 (fX12_of μ x0 (19 + x2_1)) fun v19 =>
  if v17 = v19 then (
  if x2_1 ≤ x4_5 then (
  some 0)
  else (
  some 1))
  else (
  some 0))) fun s14 =>
  F6 (x3_4 + s14) (x4_5 + 1))
def fX12_heavy_l2 (μ : zM) (x0 : Nat) (x1 : Int32) (F2 : Int32 → Option (Int32)) (x2_1 : Int32) : Option (Int32) :=
  if 8 ≤ x2_1 then (
  some 0)
  else (
  zb1 (zf2 (fX12_heavy_l13 μ x0 x2_1) zfu 0 0) fun x3_8 =>
  if x3_8 = x1 then (
  zb1 (fX12_of μ x0 (19 + x2_1)) fun v22 =>
  some v22)
  else (
  F2 (x2_1 + 1)))
def fX12_heavy (μ : zM) (x0 : Nat) (x1 : Int32) : Option (Int32) := zgd (zm_ck μ 12 x0) <|
  zf1 (fX12_heavy_l2 μ x0 x1) zfu 0
theorem fX12_heavy_ck {μ : zM} {x0 : Nat} {x1 : Int32} {z : Int32} (h : fX12_heavy μ x0 x1 = some z) : zm_ck μ 12 x0 = true := (zgd_s h).1
set_option maxHeartbeats 4000000 in
set_option maxRecDepth 100000 in
theorem cX12_heavy_ok {μ : zM} {x0 : Nat} {x1 : Int32} {r : Int32} (hf : fX12_heavy μ x0 x1 = some r) : zC yX12_heavy cX12_heavy 5 (some .int) 1 0 0 [.ref x0, .int x1] μ (some (.int r)) μ := by
  replace hf := (zgd_s hf).2
  refine zC.of (by decide) (Nat.le_of_ble_eq_true rfl) (fun K hin => ?_)
  clear hin
  show zz K cX12_heavy (5, RX12, some .int, 1, 0, 0, some (.int r), μ) 0 0 0 [(0, .ref x0), (1, .int x1)] [] μ
  refine zr_iconst 0 dX12_heavy_0 (by decide) ?_
  refine zr_istore_n [(2, .int 0), (0, .ref x0), (1, .int x1)] dX12_heavy_1 (Nat.le_of_ble_eq_true rfl) rfl ?_
  have hL23 : ∀ (n : Nat) (x2_1 : Int32), zf1 (fX12_heavy_l2 μ x0 x1) n x2_1 = some r → zz K cX12_heavy (5, RX12, some .int, 1, 0, 0, some (.int r), μ) 0 0 2 [(0, .ref x0), (1, .int x1), (2, .int x2_1)] [] μ := by
    intro n
    induction n with
    | zero => intro x2_1 hf; cases hf
    | succ n ih3 =>
      intro x2_1 hf
      replace hf := zf1_s hf
      generalize zf1 (fX12_heavy_l2 μ x0 x1) n = F2 at hf ih3
      unfold fX12_heavy_l2 at hf
      refine zr_iload_n 2 dX12_heavy_2 rfl ?_
      refine zr_bipush 8 dX12_heavy_3 (by decide) ?_
      refine zr_icmp_ge 100 dX12_heavy_5 (by decide) (fun hc => ?_) (fun hc => ?_)
      · rw [if_pos hc] at hf
        refine zr_iconst 0 dX12_heavy_100 (by decide) ?_
        cases hf
        exact zr_iret dX12_heavy_101
      · rw [if_neg hc] at hf
        refine zr_iconst 0 dX12_heavy_8 (by decide) ?_
        refine zr_istore_n [(3, .int 0), (0, .ref x0), (1, .int x1), (2, .int x2_1)] dX12_heavy_9 (Nat.le_of_ble_eq_true rfl) rfl ?_
        refine zr_iconst 0 dX12_heavy_10 (by decide) ?_
        refine zr_istore [(4, .int 0), (3, .int 0), (0, .ref x0), (1, .int x1), (2, .int x2_1)] dX12_heavy_11 (Nat.le_of_ble_eq_true rfl) rfl ?_
        replace hf := zb1_s hf
        obtain ⟨x3_8, hg, hf⟩ := hf
        have hj9 : zz K cX12_heavy (5, RX12, some .int, 1, 0, 0, some (.int r), μ) 0 0 80 [(0, .ref x0), (1, .int x1), (2, .int x2_1), (3, .int x3_8)] [] μ := by
          refine zr_iload_n 3 dX12_heavy_80 rfl ?_
          refine zr_iload_n 1 dX12_heavy_81 rfl ?_
          refine zr_icmp_ne 94 dX12_heavy_82 (by decide) (fun hc => ?_) (fun hc => ?_)
          · rw [if_neg hc] at hf
            refine zr_iinc (j := 2) (x2_1 + 1) [(2, .int (x2_1 + 1)), (0, .ref x0), (1, .int x1), (3, .int x3_8)] dX12_heavy_94 rfl rfl (Nat.le_of_ble_eq_true rfl) rfl ?_
            refine zr_goto 2 dX12_heavy_97 (by decide) ?_
            exact zr_lv [1, 2, 0] rfl (ih3 (x2_1 + 1) hf)
          · rw [if_pos hc] at hf
            refine zr_aload_n 0 dX12_heavy_85 rfl ?_
            refine zr_bipush 19 dX12_heavy_86 (by decide) ?_
            refine zr_iload_n 2 dX12_heavy_88 rfl ?_
            refine zr_iadd dX12_heavy_89 ?_
            replace hf := zb1_s hf
            obtain ⟨v22, h21, hf⟩ := hf
            refine zr_callV (ci := 12) [.int (19 + x2_1)] (cX12_of_ok h21) zvs_X12_of zl_918 zl_919 (fX12_of_ck h21) rfl rfl zl_917 rfl (Nat.le_of_ble_eq_true rfl) (Nat.le_of_ble_eq_true rfl) (Nat.le_of_ble_eq_true rfl) (Nat.le_of_ble_eq_true rfl) dX12_heavy_90 rfl ?_
            cases hf
            exact zr_iret dX12_heavy_93
        clear hf
        have hf := hg
        clear hg
        have hL20 : ∀ (n : Nat) (x3_4 : Int32) (x4_5 : Int32), zf2 (fX12_heavy_l13 μ x0 x2_1) n x3_4 x4_5 = some x3_8 → zz K cX12_heavy (5, RX12, some .int, 1, 0, 0, some (.int r), μ) 0 0 13 [(0, .ref x0), (1, .int x1), (2, .int x2_1), (3, .int x3_4), (4, .int x4_5)] [] μ := by
          intro n
          induction n with
          | zero => intro x3_4 x4_5 hf; cases hf
          | succ n ih7 =>
            intro x3_4 x4_5 hf
            replace hf := zf2_s hf
            generalize zf2 (fX12_heavy_l13 μ x0 x2_1) n = F6 at hf ih7
            unfold fX12_heavy_l13 at hf
            refine zr_iload 4 dX12_heavy_13 rfl ?_
            refine zr_bipush 8 dX12_heavy_15 (by decide) ?_
            refine zr_icmp_ge 80 dX12_heavy_17 (by decide) (fun hc => ?_) (fun hc => ?_)
            · rw [if_pos hc] at hf
              cases hf
              exact zr_lv [0, 1, 2, 3] rfl hj9
            · rw [if_neg hc] at hf
              refine zr_iload_n 3 dX12_heavy_20 rfl ?_
              refine zr_aload_n 0 dX12_heavy_21 rfl ?_
              refine zr_bipush 19 dX12_heavy_22 (by decide) ?_
              refine zr_iload 4 dX12_heavy_24 rfl ?_
              refine zr_iadd dX12_heavy_26 ?_
              replace hf := zb1_s hf
              obtain ⟨v11, h10, hf⟩ := hf
              refine zr_callV (ci := 12) [.int (19 + x4_5)] (cX12_of_ok h10) zvs_X12_of zl_918 zl_919 (fX12_of_ck h10) rfl rfl zl_917 rfl (Nat.le_of_ble_eq_true rfl) (Nat.le_of_ble_eq_true rfl) (Nat.le_of_ble_eq_true rfl) (Nat.le_of_ble_eq_true rfl) dX12_heavy_27 rfl ?_
              refine zr_aload_n 0 dX12_heavy_30 rfl ?_
              refine zr_bipush 19 dX12_heavy_31 (by decide) ?_
              refine zr_iload_n 2 dX12_heavy_33 rfl ?_
              refine zr_iadd dX12_heavy_34 ?_
              replace hf := zb1_s hf
              obtain ⟨v13, h12, hf⟩ := hf
              refine zr_callV (ci := 12) [.int (19 + x2_1)] (cX12_of_ok h12) zvs_X12_of zl_918 zl_919 (fX12_of_ck h12) rfl rfl zl_917 rfl (Nat.le_of_ble_eq_true rfl) (Nat.le_of_ble_eq_true rfl) (Nat.le_of_ble_eq_true rfl) (Nat.le_of_ble_eq_true rfl) dX12_heavy_35 rfl ?_
              replace hf := zb1_s hf
              obtain ⟨s14, hg, hf⟩ := hf
              have hj15 : zz K cX12_heavy (5, RX12, some .int, 1, 0, 0, some (.int r), μ) 0 0 72 [(0, .ref x0), (1, .int x1), (2, .int x2_1), (4, .int x4_5)] [.int s14, .int x3_4] μ := by
                refine zr_iadd dX12_heavy_72 ?_
                refine zr_istore_n [(3, .int (x3_4 + s14)), (0, .ref x0), (1, .int x1), (2, .int x2_1), (4, .int x4_5)] dX12_heavy_73 (Nat.le_of_ble_eq_true rfl) rfl ?_
                refine zr_iinc (j := 4) (x4_5 + 1) [(4, .int (x4_5 + 1)), (3, .int (x3_4 + s14)), (0, .ref x0), (1, .int x1), (2, .int x2_1)] dX12_heavy_74 rfl rfl (Nat.le_of_ble_eq_true rfl) rfl ?_
                refine zr_goto 13 dX12_heavy_77 (by decide) ?_
                exact zr_lv [2, 3, 4, 1, 0] rfl (ih7 (x3_4 + s14) (x4_5 + 1) hf)
              clear hf
              have hf := hg
              clear hg
              refine zr_icmp_gt 67 dX12_heavy_38 (by decide) (fun hc => ?_) (fun hc => ?_)
              · rw [if_pos hc] at hf
                refine zr_iconst 1 dX12_heavy_67 (by decide) ?_
                refine zr_goto 72 dX12_heavy_68 (by decide) ?_
                cases hf
                exact zr_lv [0, 1, 2, 4] rfl hj15
              · rw [if_neg hc] at hf
                refine zr_aload_n 0 dX12_heavy_41 rfl ?_
                refine zr_bipush 19 dX12_heavy_42 (by decide) ?_
                refine zr_iload 4 dX12_heavy_44 rfl ?_
                refine zr_iadd dX12_heavy_46 ?_
                replace hf := zb1_s hf
                obtain ⟨v17, h16, hf⟩ := hf
                refine zr_callV (ci := 12) [.int (19 + x4_5)] (cX12_of_ok h16) zvs_X12_of zl_918 zl_919 (fX12_of_ck h16) rfl rfl zl_917 rfl (Nat.le_of_ble_eq_true rfl) (Nat.le_of_ble_eq_true rfl) (Nat.le_of_ble_eq_true rfl) (Nat.le_of_ble_eq_true rfl) dX12_heavy_47 rfl ?_
                refine zr_aload_n 0 dX12_heavy_50 rfl ?_
                refine zr_bipush 19 dX12_heavy_51 (by decide) ?_
                refine zr_iload_n 2 dX12_heavy_53 rfl ?_
                refine zr_iadd dX12_heavy_54 ?_
                replace hf := zb1_s hf
                obtain ⟨v19, h18, hf⟩ := hf
                refine zr_callV (ci := 12) [.int (19 + x2_1)] (cX12_of_ok h18) zvs_X12_of zl_918 zl_919 (fX12_of_ck h18) rfl rfl zl_917 rfl (Nat.le_of_ble_eq_true rfl) (Nat.le_of_ble_eq_true rfl) (Nat.le_of_ble_eq_true rfl) (Nat.le_of_ble_eq_true rfl) dX12_heavy_55 rfl ?_
                refine zr_icmp_ne 71 dX12_heavy_58 (by decide) (fun hc => ?_) (fun hc => ?_)
                · rw [if_neg hc] at hf
                  refine zr_iconst 0 dX12_heavy_71 (by decide) ?_
                  cases hf
                  exact zr_lv [0, 1, 2, 4] rfl hj15
                · rw [if_pos hc] at hf
                  refine zr_iload 4 dX12_heavy_61 rfl ?_
                  refine zr_iload_n 2 dX12_heavy_63 rfl ?_
                  refine zr_icmp_ge 71 dX12_heavy_64 (by decide) (fun hc => ?_) (fun hc => ?_)
                  · rw [if_pos hc] at hf
                    refine zr_iconst 0 dX12_heavy_71 (by decide) ?_
                    cases hf
                    exact zr_lv [0, 1, 2, 4] rfl hj15
                  · rw [if_neg hc] at hf
                    refine zr_iconst 1 dX12_heavy_67 (by decide) ?_
                    refine zr_goto 72 dX12_heavy_68 (by decide) ?_
                    cases hf
                    exact zr_lv [0, 1, 2, 4] rfl hj15
        exact zr_lv [2, 3, 4, 1, 0] rfl (hL20 _ 0 0 hf)
  exact zr_lv [1, 2, 0] rfl (hL23 _ 0 hf)
