theorem zl_1126 : Cond.fieldLink RX12 466 "TwoEchoesModel" "spotted" "I" ∈ zt := zt_at 1389 (by decide +kernel)
theorem zl_1127 : Cond.code yX12_isSo cX12_isSo 8 (some .boolean) ∈ zt := zt_at 1916 (by decide +kernel)
theorem zvs_X12_isSo : zvS yX12_isSo cX12_isSo 8 (some .boolean) 3 := ⟨zl_1127, zl_782, ⟨by decide +kernel, by decide +kernel, by decide +kernel⟩, by decide⟩
theorem zl_1128 : Cond.methodLink RX12 469 yX12_isSo ∈ zt := zt_at 1913 (by decide +kernel)
theorem zl_1129 : Cond.instanceMethod yX12_isSo ∈ zt := zt_at 1915 (by decide +kernel)
theorem zl_1130 : Cond.selects RX12 yX12_isSo yX12_isSo ∈ zt := zt_at 114 (by decide +kernel)
theorem dX12_findSaid_0 : decode cX12_findSaid 0 = .ok (.iconst 0, 1) := by decide +kernel
theorem dX12_findSaid_1 : decode cX12_findSaid 1 = .ok (.istore_n 2, 1) := by decide +kernel
theorem dX12_findSaid_2 : decode cX12_findSaid 2 = .ok (.aload_n 0, 1) := by decide +kernel
theorem dX12_findSaid_3 : decode cX12_findSaid 3 = .ok (.iconst (-1), 1) := by decide +kernel
theorem dX12_findSaid_4 : decode cX12_findSaid 4 = .ok (.putfield 466, 3) := by decide +kernel
theorem dX12_findSaid_7 : decode cX12_findSaid 7 = .ok (.iconst 0, 1) := by decide +kernel
theorem dX12_findSaid_8 : decode cX12_findSaid 8 = .ok (.istore_n 3, 1) := by decide +kernel
theorem dX12_findSaid_9 : decode cX12_findSaid 9 = .ok (.iload_n 3, 1) := by decide +kernel
theorem dX12_findSaid_10 : decode cX12_findSaid 10 = .ok (.sipush 1000, 3) := by decide +kernel
theorem dX12_findSaid_13 : decode cX12_findSaid 13 = .ok (.aload_n 0, 1) := by decide +kernel
theorem dX12_findSaid_14 : decode cX12_findSaid 14 = .ok (.getfield 273, 3) := by decide +kernel
theorem dX12_findSaid_17 : decode cX12_findSaid 17 = .ok (.iconst 1, 1) := by decide +kernel
theorem dX12_findSaid_18 : decode cX12_findSaid 18 = .ok (.iadd, 1) := by decide +kernel
theorem dX12_findSaid_19 : decode cX12_findSaid 19 = .ok (.imul, 1) := by decide +kernel
theorem dX12_findSaid_20 : decode cX12_findSaid 20 = .ok (.if_icmp .ge 81, 3) := by decide +kernel
theorem dX12_findSaid_23 : decode cX12_findSaid 23 = .ok (.iload_n 3, 1) := by decide +kernel
theorem dX12_findSaid_24 : decode cX12_findSaid 24 = .ok (.bipush 10, 2) := by decide +kernel
theorem dX12_findSaid_26 : decode cX12_findSaid 26 = .ok (.irem, 1) := by decide +kernel
theorem dX12_findSaid_27 : decode cX12_findSaid 27 = .ok (.bipush 8, 2) := by decide +kernel
theorem dX12_findSaid_29 : decode cX12_findSaid 29 = .ok (.if_icmp .ge 66, 3) := by decide +kernel
theorem dX12_findSaid_32 : decode cX12_findSaid 32 = .ok (.aload_n 0, 1) := by decide +kernel
theorem dX12_findSaid_33 : decode cX12_findSaid 33 = .ok (.iload_n 3, 1) := by decide +kernel
theorem dX12_findSaid_34 : decode cX12_findSaid 34 = .ok (.sipush 1000, 3) := by decide +kernel
theorem dX12_findSaid_37 : decode cX12_findSaid 37 = .ok (.idiv, 1) := by decide +kernel
theorem dX12_findSaid_38 : decode cX12_findSaid 38 = .ok (.iload_n 3, 1) := by decide +kernel
theorem dX12_findSaid_39 : decode cX12_findSaid 39 = .ok (.bipush 10, 2) := by decide +kernel
theorem dX12_findSaid_41 : decode cX12_findSaid 41 = .ok (.idiv, 1) := by decide +kernel
theorem dX12_findSaid_42 : decode cX12_findSaid 42 = .ok (.bipush 100, 2) := by decide +kernel
theorem dX12_findSaid_44 : decode cX12_findSaid 44 = .ok (.irem, 1) := by decide +kernel
theorem dX12_findSaid_45 : decode cX12_findSaid 45 = .ok (.iload_n 3, 1) := by decide +kernel
theorem dX12_findSaid_46 : decode cX12_findSaid 46 = .ok (.bipush 10, 2) := by decide +kernel
theorem dX12_findSaid_48 : decode cX12_findSaid 48 = .ok (.irem, 1) := by decide +kernel
theorem dX12_findSaid_49 : decode cX12_findSaid 49 = .ok (.invokevirtual 469, 3) := by decide +kernel
theorem dX12_findSaid_52 : decode cX12_findSaid 52 = .ok (.ifCond .eq 43, 3) := by decide +kernel
theorem dX12_findSaid_55 : decode cX12_findSaid 55 = .ok (.iload_n 2, 1) := by decide +kernel
theorem dX12_findSaid_56 : decode cX12_findSaid 56 = .ok (.iload_n 1, 1) := by decide +kernel
theorem dX12_findSaid_57 : decode cX12_findSaid 57 = .ok (.if_icmp .ne 5, 3) := by decide +kernel
theorem dX12_findSaid_60 : decode cX12_findSaid 60 = .ok (.iload_n 3, 1) := by decide +kernel
theorem dX12_findSaid_61 : decode cX12_findSaid 61 = .ok (.ireturn, 1) := by decide +kernel
theorem dX12_findSaid_62 : decode cX12_findSaid 62 = .ok (.aload_n 0, 1) := by decide +kernel
theorem dX12_findSaid_63 : decode cX12_findSaid 63 = .ok (.iload_n 2, 1) := by decide +kernel
theorem dX12_findSaid_64 : decode cX12_findSaid 64 = .ok (.ifCond .eq 15, 3) := by decide +kernel
theorem dX12_findSaid_67 : decode cX12_findSaid 67 = .ok (.aload_n 0, 1) := by decide +kernel
theorem dX12_findSaid_68 : decode cX12_findSaid 68 = .ok (.getfield 466, 3) := by decide +kernel
theorem dX12_findSaid_71 : decode cX12_findSaid 71 = .ok (.iload_n 3, 1) := by decide +kernel
theorem dX12_findSaid_72 : decode cX12_findSaid 72 = .ok (.sipush 1000, 3) := by decide +kernel
theorem dX12_findSaid_75 : decode cX12_findSaid 75 = .ok (.idiv, 1) := by decide +kernel
theorem dX12_findSaid_76 : decode cX12_findSaid 76 = .ok (.if_icmp .ne 11, 3) := by decide +kernel
theorem dX12_findSaid_79 : decode cX12_findSaid 79 = .ok (.iload_n 3, 1) := by decide +kernel
theorem dX12_findSaid_80 : decode cX12_findSaid 80 = .ok (.sipush 1000, 3) := by decide +kernel
theorem dX12_findSaid_83 : decode cX12_findSaid 83 = .ok (.idiv, 1) := by decide +kernel
theorem dX12_findSaid_84 : decode cX12_findSaid 84 = .ok (.goto 5, 3) := by decide +kernel
theorem dX12_findSaid_87 : decode cX12_findSaid 87 = .ok (.bipush (-2), 2) := by decide +kernel
theorem dX12_findSaid_89 : decode cX12_findSaid 89 = .ok (.putfield 466, 3) := by decide +kernel
theorem dX12_findSaid_92 : decode cX12_findSaid 92 = .ok (.iinc 2 1, 3) := by decide +kernel
theorem dX12_findSaid_95 : decode cX12_findSaid 95 = .ok (.iinc 3 1, 3) := by decide +kernel
theorem dX12_findSaid_98 : decode cX12_findSaid 98 = .ok (.goto (-89), 3) := by decide +kernel
theorem dX12_findSaid_101 : decode cX12_findSaid 101 = .ok (.iload_n 1, 1) := by decide +kernel
theorem dX12_findSaid_102 : decode cX12_findSaid 102 = .ok (.iconst (-1), 1) := by decide +kernel
theorem dX12_findSaid_103 : decode cX12_findSaid 103 = .ok (.if_icmp .ne 7, 3) := by decide +kernel
theorem dX12_findSaid_106 : decode cX12_findSaid 106 = .ok (.iload_n 2, 1) := by decide +kernel
theorem dX12_findSaid_107 : decode cX12_findSaid 107 = .ok (.goto 4, 3) := by decide +kernel
theorem dX12_findSaid_110 : decode cX12_findSaid 110 = .ok (.iconst (-1), 1) := by decide +kernel
theorem dX12_findSaid_111 : decode cX12_findSaid 111 = .ok (.ireturn, 1) := by decide +kernel
def fX12_findSaid_b79 (x3_4 : Int32) : Option (Int32) :=
  some (x3_4 / 1000)
def fX12_findSaid_l9 (x0 : Nat) (x1 : Int32) (F6 : Int32 → Int32 → zM → Option (Int32 × zM)) (x2_3 : Int32) (x3_4 : Int32) (m5 : zM) : Option (Int32 × zM) :=
  zb1 (zm_gI m5 12 x0 24) fun v8 =>
  if (1000 * (v8 + 1)) ≤ x3_4 then (
  zb1 (if x1 = (-1) then (
  some x2_3)
  else (
  some (-1))) fun s10 =>
  some (s10, m5))
  else (
  if 8 ≤ (x3_4 - x3_4 / 10 * 10) then (
  F6 x2_3 (x3_4 + 1) m5)
  else (
  zb1 (fX12_isSo m5 x0 (x3_4 / 1000) ((x3_4 / 10) - (x3_4 / 10) / 100 * 100) (x3_4 - x3_4 / 10 * 10)) fun v13 =>
  if v13 = 0 then (
  F6 x2_3 (x3_4 + 1) m5)
  else (
  if x2_3 = x1 then (
  some (x3_4, m5))
  else (
  zb1 (if x2_3 = 0 then (
  fX12_findSaid_b79 x3_4)
  else (
  zb1 (zm_gI m5 12 x0 48) fun v19 =>
  if v19 = (x3_4 / 1000) then (
  fX12_findSaid_b79 x3_4)
  else (
  some (-2)))) fun s14 =>
  zb1 (zm_p m5 12 x0 48 (.int s14)) fun m17 =>
  F6 (x2_3 + 1) (x3_4 + 1) m17))))
def fX12_findSaid (μ : zM) (x0 : Nat) (x1 : Int32) : Option (Int32 × zM) := zgd (zm_ck μ 12 x0) <|
  zb1 (zm_p μ 12 x0 48 (.int (-1))) fun m1 =>
  zf3 (fX12_findSaid_l9 x0 x1) zfu 0 0 m1
theorem fX12_findSaid_ck {μ : zM} {x0 : Nat} {x1 : Int32} {z : Int32 × zM} (h : fX12_findSaid μ x0 x1 = some z) : zm_ck μ 12 x0 = true := (zgd_s h).1
set_option maxHeartbeats 4000000 in
set_option maxRecDepth 100000 in
theorem cX12_findSaid_ok {μ : zM} {x0 : Nat} {x1 : Int32} {r : Int32} {mo : zM} (hf : fX12_findSaid μ x0 x1 = some (r, mo)) : zC yX12_findSaid cX12_findSaid 4 (some .int) 5 0 0 [.ref x0, .int x1] μ (some (.int r)) mo := by
  replace hf := (zgd_s hf).2
  refine zC.of (by decide) (Nat.le_of_ble_eq_true rfl) (fun K hin => ?_)
  clear hin
  show zz K cX12_findSaid (4, RX12, some .int, 5, 0, 0, some (.int r), mo) 0 0 0 [(0, .ref x0), (1, .int x1)] [] μ
  refine zr_iconst 0 dX12_findSaid_0 (by decide) ?_
  refine zr_istore_n [(2, .int 0), (0, .ref x0), (1, .int x1)] dX12_findSaid_1 (Nat.le_of_ble_eq_true rfl) rfl ?_
  refine zr_aload_n 1 dX12_findSaid_2 rfl ?_
  refine zr_iconst (-1) dX12_findSaid_3 (by decide) ?_
  replace hf := zb1_s hf
  obtain ⟨m1, h2, hf⟩ := hf
  refine zr_put h2 zk12 (by decide) zl_1126 rfl rfl rfl dX12_findSaid_4 ?_
  refine zr_iconst 0 dX12_findSaid_7 (by decide) ?_
  refine zr_istore_n [(3, .int 0), (2, .int 0), (0, .ref x0), (1, .int x1)] dX12_findSaid_8 (Nat.le_of_ble_eq_true rfl) rfl ?_
  have hL21 : ∀ (n : Nat) (x2_3 : Int32) (x3_4 : Int32) (m5 : zM), zf3 (fX12_findSaid_l9 x0 x1) n x2_3 x3_4 m5 = some (r, mo) → zz K cX12_findSaid (4, RX12, some .int, 5, 0, 0, some (.int r), mo) 0 0 9 [(0, .ref x0), (1, .int x1), (2, .int x2_3), (3, .int x3_4)] [] m5 := by
    intro n
    induction n with
    | zero => intro x2_3 x3_4 m5 hf; cases hf
    | succ n ih7 =>
      intro x2_3 x3_4 m5 hf
      replace hf := zf3_s hf
      generalize zf3 (fX12_findSaid_l9 x0 x1) n = F6 at hf ih7
      unfold fX12_findSaid_l9 at hf
      refine zr_iload_n 3 dX12_findSaid_9 rfl ?_
      refine zr_sipush 1000 dX12_findSaid_10 (by decide) ?_
      refine zr_aload_n 0 dX12_findSaid_13 rfl ?_
      replace hf := zb1_s hf
      obtain ⟨v8, h9, hf⟩ := hf
      refine zr_get (zm_gI_g h9) zk12 (by decide) zl_920 dX12_findSaid_14 ?_
      refine zr_iconst 1 dX12_findSaid_17 (by decide) ?_
      refine zr_iadd dX12_findSaid_18 ?_
      refine zr_imul dX12_findSaid_19 ?_
      refine zr_icmp_ge 101 dX12_findSaid_20 (by decide) (fun hc => ?_) (fun hc => ?_)
      · rw [if_pos hc] at hf
        refine zr_iload_n 1 dX12_findSaid_101 rfl ?_
        refine zr_iconst (-1) dX12_findSaid_102 (by decide) ?_
        replace hf := zb1_s hf
        obtain ⟨s10, hg, hf⟩ := hf
        have hj11 : zz K cX12_findSaid (4, RX12, some .int, 5, 0, 0, some (.int r), mo) 0 0 111 [] [.int s10] m5 := by
          cases hf
          exact zr_iret dX12_findSaid_111
        clear hf
        have hf := hg
        clear hg
        refine zr_icmp_ne 110 dX12_findSaid_103 (by decide) (fun hc => ?_) (fun hc => ?_)
        · rw [if_neg hc] at hf
          refine zr_iconst (-1) dX12_findSaid_110 (by decide) ?_
          cases hf
          exact zr_lv [] rfl hj11
        · rw [if_pos hc] at hf
          refine zr_iload_n 2 dX12_findSaid_106 rfl ?_
          refine zr_goto 111 dX12_findSaid_107 (by decide) ?_
          cases hf
          exact zr_lv [] rfl hj11
      · rw [if_neg hc] at hf
        refine zr_iload_n 3 dX12_findSaid_23 rfl ?_
        refine zr_bipush 10 dX12_findSaid_24 (by decide) ?_
        refine zr_irem dX12_findSaid_26 (by decide) ?_
        refine zr_bipush 8 dX12_findSaid_27 (by decide) ?_
        refine zr_icmp_ge 95 dX12_findSaid_29 (by decide) (fun hc => ?_) (fun hc => ?_)
        · rw [if_pos hc] at hf
          refine zr_iinc (j := 3) (x3_4 + 1) [(3, .int (x3_4 + 1)), (0, .ref x0), (1, .int x1), (2, .int x2_3)] dX12_findSaid_95 rfl rfl (Nat.le_of_ble_eq_true rfl) rfl ?_
          refine zr_goto 9 dX12_findSaid_98 (by decide) ?_
          exact zr_lv [1, 2, 3, 0] rfl (ih7 x2_3 (x3_4 + 1) m5 hf)
        · rw [if_neg hc] at hf
          refine zr_aload_n 0 dX12_findSaid_32 rfl ?_
          refine zr_iload_n 3 dX12_findSaid_33 rfl ?_
          refine zr_sipush 1000 dX12_findSaid_34 (by decide) ?_
          refine zr_idiv dX12_findSaid_37 (by decide) ?_
          refine zr_iload_n 3 dX12_findSaid_38 rfl ?_
          refine zr_bipush 10 dX12_findSaid_39 (by decide) ?_
          refine zr_idiv dX12_findSaid_41 (by decide) ?_
          refine zr_bipush 100 dX12_findSaid_42 (by decide) ?_
          refine zr_irem dX12_findSaid_44 (by decide) ?_
          refine zr_iload_n 3 dX12_findSaid_45 rfl ?_
          refine zr_bipush 10 dX12_findSaid_46 (by decide) ?_
          refine zr_irem dX12_findSaid_48 (by decide) ?_
          replace hf := zb1_s hf
          obtain ⟨v13, h12, hf⟩ := hf
          refine zr_callV (ci := 12) [.int (x3_4 / 1000), .int ((x3_4 / 10) - (x3_4 / 10) / 100 * 100), .int (x3_4 - x3_4 / 10 * 10)] (cX12_isSo_ok h12) zvs_X12_isSo zl_1129 zl_1130 (fX12_isSo_ck h12) rfl rfl zl_1128 rfl (Nat.le_of_ble_eq_true rfl) (Nat.le_of_ble_eq_true rfl) (Nat.le_of_ble_eq_true rfl) (Nat.le_of_ble_eq_true rfl) dX12_findSaid_49 rfl ?_
          refine zr_if_eq 95 dX12_findSaid_52 (by decide) (fun hc => ?_) (fun hc => ?_)
          · rw [if_pos hc] at hf
            refine zr_iinc (j := 3) (x3_4 + 1) [(3, .int (x3_4 + 1)), (0, .ref x0), (1, .int x1), (2, .int x2_3)] dX12_findSaid_95 rfl rfl (Nat.le_of_ble_eq_true rfl) rfl ?_
            refine zr_goto 9 dX12_findSaid_98 (by decide) ?_
            exact zr_lv [1, 2, 3, 0] rfl (ih7 x2_3 (x3_4 + 1) m5 hf)
          · rw [if_neg hc] at hf
            refine zr_iload_n 2 dX12_findSaid_55 rfl ?_
            refine zr_iload_n 1 dX12_findSaid_56 rfl ?_
            refine zr_icmp_ne 62 dX12_findSaid_57 (by decide) (fun hc => ?_) (fun hc => ?_)
            · rw [if_neg hc] at hf
              refine zr_aload_n 0 dX12_findSaid_62 rfl ?_
              refine zr_iload_n 2 dX12_findSaid_63 rfl ?_
              replace hf := zb1_s hf
              obtain ⟨s14, hg, hf⟩ := hf
              have hj15 : zz K cX12_findSaid (4, RX12, some .int, 5, 0, 0, some (.int r), mo) 0 0 89 [(0, .ref x0), (1, .int x1), (2, .int x2_3), (3, .int x3_4)] [.int s14, .ref x0] m5 := by
                replace hf := zb1_s hf
                obtain ⟨m17, h18, hf⟩ := hf
                refine zr_put h18 zk12 (by decide) zl_1126 rfl rfl rfl dX12_findSaid_89 ?_
                refine zr_iinc (j := 2) (x2_3 + 1) [(2, .int (x2_3 + 1)), (0, .ref x0), (1, .int x1), (3, .int x3_4)] dX12_findSaid_92 rfl rfl (Nat.le_of_ble_eq_true rfl) rfl ?_
                refine zr_iinc (j := 3) (x3_4 + 1) [(3, .int (x3_4 + 1)), (2, .int (x2_3 + 1)), (0, .ref x0), (1, .int x1)] dX12_findSaid_95 rfl rfl (Nat.le_of_ble_eq_true rfl) rfl ?_
                refine zr_goto 9 dX12_findSaid_98 (by decide) ?_
                exact zr_lv [2, 3, 1, 0] rfl (ih7 (x2_3 + 1) (x3_4 + 1) m17 hf)
              clear hf
              have hf := hg
              clear hg
              have hb16 : ∀ (_ : Unit), fX12_findSaid_b79 x3_4 = some s14 → zz K cX12_findSaid (4, RX12, some .int, 5, 0, 0, some (.int r), mo) 0 0 79 [(0, .ref x0), (1, .int x1), (2, .int x2_3), (3, .int x3_4)] [.ref x0] m5 := by
                intro _ hf
                unfold fX12_findSaid_b79 at hf
                refine zr_iload_n 3 dX12_findSaid_79 rfl ?_
                refine zr_sipush 1000 dX12_findSaid_80 (by decide) ?_
                refine zr_idiv dX12_findSaid_83 (by decide) ?_
                refine zr_goto 89 dX12_findSaid_84 (by decide) ?_
                cases hf
                exact zr_lv [0, 1, 2, 3] rfl hj15
              refine zr_if_eq 79 dX12_findSaid_64 (by decide) (fun hc => ?_) (fun hc => ?_)
              · rw [if_pos hc] at hf
                exact zr_lv [0, 1, 2, 3] rfl (hb16 () hf)
              · rw [if_neg hc] at hf
                refine zr_aload_n 0 dX12_findSaid_67 rfl ?_
                replace hf := zb1_s hf
                obtain ⟨v19, h20, hf⟩ := hf
                refine zr_get (zm_gI_g h20) zk12 (by decide) zl_1126 dX12_findSaid_68 ?_
                refine zr_iload_n 3 dX12_findSaid_71 rfl ?_
                refine zr_sipush 1000 dX12_findSaid_72 (by decide) ?_
                refine zr_idiv dX12_findSaid_75 (by decide) ?_
                refine zr_icmp_ne 87 dX12_findSaid_76 (by decide) (fun hc => ?_) (fun hc => ?_)
                · rw [if_neg hc] at hf
                  refine zr_bipush (-2) dX12_findSaid_87 (by decide) ?_
                  cases hf
                  exact zr_lv [0, 1, 2, 3] rfl hj15
                · rw [if_pos hc] at hf
                  exact zr_lv [0, 1, 2, 3] rfl (hb16 () hf)
            · rw [if_pos hc] at hf
              refine zr_iload_n 3 dX12_findSaid_60 rfl ?_
              cases hf
              exact zr_iret dX12_findSaid_61
  exact zr_lv [2, 3, 1, 0] rfl (hL21 _ 0 0 m1 hf)
theorem zl_1131 : Cond.code yX12_laySight cX12_laySight 4 (some .boolean) ∈ zt := zt_at 1908 (by decide +kernel)
theorem zvs_X12_laySight : zvS yX12_laySight cX12_laySight 4 (some .boolean) 2 := ⟨zl_1131, zl_782, ⟨by decide +kernel, by decide +kernel, by decide +kernel⟩, by decide⟩
theorem zl_1132 : Cond.methodLink RX12 472 yX12_laySight ∈ zt := zt_at 1905 (by decide +kernel)
theorem zl_1133 : Cond.instanceMethod yX12_laySight ∈ zt := zt_at 1907 (by decide +kernel)
theorem zl_1134 : Cond.selects RX12 yX12_laySight yX12_laySight ∈ zt := zt_at 112 (by decide +kernel)
theorem zl_1135 : Cond.code yX12_findSaid cX12_findSaid 4 (some .int) ∈ zt := zt_at 1912 (by decide +kernel)
theorem zvs_X12_findSaid : zvS yX12_findSaid cX12_findSaid 4 (some .int) 1 := ⟨zl_1135, zl_782, ⟨by decide +kernel, by decide +kernel, by decide +kernel⟩, by decide⟩
theorem zl_1136 : Cond.methodLink RX12 475 yX12_findSaid ∈ zt := zt_at 1909 (by decide +kernel)
theorem zl_1137 : Cond.instanceMethod yX12_findSaid ∈ zt := zt_at 1911 (by decide +kernel)
theorem zl_1138 : Cond.selects RX12 yX12_findSaid yX12_findSaid ∈ zt := zt_at 113 (by decide +kernel)
theorem dX12_said_0 : decode cX12_said 0 = .ok (.aload_n 0, 1) := by decide +kernel
theorem dX12_said_1 : decode cX12_said 1 = .ok (.iconst 0, 1) := by decide +kernel
theorem dX12_said_2 : decode cX12_said 2 = .ok (.putfield 93, 3) := by decide +kernel
theorem dX12_said_5 : decode cX12_said 5 = .ok (.aload_n 0, 1) := by decide +kernel
theorem dX12_said_6 : decode cX12_said 6 = .ok (.iload_n 1, 1) := by decide +kernel
theorem dX12_said_7 : decode cX12_said 7 = .ok (.iload_n 2, 1) := by decide +kernel
theorem dX12_said_8 : decode cX12_said 8 = .ok (.invokevirtual 472, 3) := by decide +kernel
theorem dX12_said_11 : decode cX12_said 11 = .ok (.ifCond .eq 11, 3) := by decide +kernel
theorem dX12_said_14 : decode cX12_said 14 = .ok (.aload_n 0, 1) := by decide +kernel
theorem dX12_said_15 : decode cX12_said 15 = .ok (.iload_n 3, 1) := by decide +kernel
theorem dX12_said_16 : decode cX12_said 16 = .ok (.invokevirtual 475, 3) := by decide +kernel
theorem dX12_said_19 : decode cX12_said 19 = .ok (.goto 4, 3) := by decide +kernel
theorem dX12_said_22 : decode cX12_said 22 = .ok (.iconst (-1), 1) := by decide +kernel
theorem dX12_said_23 : decode cX12_said 23 = .ok (.ireturn, 1) := by decide +kernel
def fX12_said (μ : zM) (x0 : Nat) (x1 : Int32) (x2 : Int32) (x3 : Int32) : Option (Int32 × zM) := zgd (zm_ck μ 12 x0) <|
  zb1 (zm_p μ 12 x0 0 (.int 0)) fun m1 =>
  zb2 (fX12_laySight m1 x0 x1 x2) fun v5 m4 =>
  zb2 (if v5 = 0 then (
  some ((-1), m4))
  else (
  zb2 (fX12_findSaid m4 x0 x3) fun v11 m10 =>
  some (v11, m10))) fun s6 m7 =>
  some (s6, m7)
theorem fX12_said_ck {μ : zM} {x0 : Nat} {x1 : Int32} {x2 : Int32} {x3 : Int32} {z : Int32 × zM} (h : fX12_said μ x0 x1 x2 x3 = some z) : zm_ck μ 12 x0 = true := (zgd_s h).1
set_option maxHeartbeats 4000000 in
set_option maxRecDepth 100000 in
theorem cX12_said_ok {μ : zM} {x0 : Nat} {x1 : Int32} {x2 : Int32} {x3 : Int32} {r : Int32} {mo : zM} (hf : fX12_said μ x0 x1 x2 x3 = some (r, mo)) : zC yX12_said cX12_said 4 (some .int) 6 0 0 [.ref x0, .int x1, .int x2, .int x3] μ (some (.int r)) mo := by
  replace hf := (zgd_s hf).2
  refine zC.of (by decide) (Nat.le_of_ble_eq_true rfl) (fun K hin => ?_)
  clear hin
  show zz K cX12_said (4, RX12, some .int, 6, 0, 0, some (.int r), mo) 0 0 0 [(0, .ref x0), (1, .int x1), (2, .int x2), (3, .int x3)] [] μ
  refine zr_aload_n 0 dX12_said_0 rfl ?_
  refine zr_iconst 0 dX12_said_1 (by decide) ?_
  replace hf := zb1_s hf
  obtain ⟨m1, h2, hf⟩ := hf
  refine zr_put h2 zk12 (by decide) zl_788 rfl rfl rfl dX12_said_2 ?_
  refine zr_aload_n 0 dX12_said_5 rfl ?_
  refine zr_iload_n 1 dX12_said_6 rfl ?_
  refine zr_iload_n 2 dX12_said_7 rfl ?_
  replace hf := zb2_s hf
  obtain ⟨v5, m4, h3, hf⟩ := hf
  refine zr_callV (ci := 12) [.int x1, .int x2] (cX12_laySight_ok h3) zvs_X12_laySight zl_1133 zl_1134 (fX12_laySight_ck h3) rfl rfl zl_1132 rfl (Nat.le_of_ble_eq_true rfl) (Nat.le_of_ble_eq_true rfl) (Nat.le_of_ble_eq_true rfl) (Nat.le_of_ble_eq_true rfl) dX12_said_8 rfl ?_
  replace hf := zb2_s hf
  obtain ⟨s6, m7, hg, hf⟩ := hf
  have hj8 : zz K cX12_said (4, RX12, some .int, 6, 0, 0, some (.int r), mo) 0 0 23 [] [.int s6] m7 := by
    cases hf
    exact zr_iret dX12_said_23
  clear hf
  have hf := hg
  clear hg
  refine zr_if_eq 22 dX12_said_11 (by decide) (fun hc => ?_) (fun hc => ?_)
  · rw [if_pos hc] at hf
    refine zr_iconst (-1) dX12_said_22 (by decide) ?_
    cases hf
    exact zr_lv [] rfl hj8
  · rw [if_neg hc] at hf
    refine zr_aload_n 0 dX12_said_14 rfl ?_
    refine zr_iload_n 3 dX12_said_15 rfl ?_
    replace hf := zb2_s hf
    obtain ⟨v11, m10, h9, hf⟩ := hf
    refine zr_callV (ci := 12) [.int x3] (cX12_findSaid_ok h9) zvs_X12_findSaid zl_1137 zl_1138 (fX12_findSaid_ck h9) rfl rfl zl_1136 rfl (Nat.le_of_ble_eq_true rfl) (Nat.le_of_ble_eq_true rfl) (Nat.le_of_ble_eq_true rfl) (Nat.le_of_ble_eq_true rfl) dX12_said_16 rfl ?_
    refine zr_goto 23 dX12_said_19 (by decide) ?_
    cases hf
    exact zr_lv [] rfl hj8
theorem dX12_listens_0 : decode cX12_listens 0 = .ok (.iconst 0, 1) := by decide +kernel
theorem dX12_listens_1 : decode cX12_listens 1 = .ok (.istore 4, 2) := by decide +kernel
theorem dX12_listens_3 : decode cX12_listens 3 = .ok (.iload 4, 2) := by decide +kernel
theorem dX12_listens_5 : decode cX12_listens 5 = .ok (.aload_n 0, 1) := by decide +kernel
theorem dX12_listens_6 : decode cX12_listens 6 = .ok (.getfield 273, 3) := by decide +kernel
theorem dX12_listens_9 : decode cX12_listens 9 = .ok (.if_icmp .gt 196, 3) := by decide +kernel
theorem dX12_listens_12 : decode cX12_listens 12 = .ok (.aload_n 0, 1) := by decide +kernel
theorem dX12_listens_13 : decode cX12_listens 13 = .ok (.iload_n 1, 1) := by decide +kernel
theorem dX12_listens_14 : decode cX12_listens 14 = .ok (.iload_n 3, 1) := by decide +kernel
theorem dX12_listens_15 : decode cX12_listens 15 = .ok (.iconst 2, 1) := by decide +kernel
theorem dX12_listens_16 : decode cX12_listens 16 = .ok (.iload_n 2, 1) := by decide +kernel
theorem dX12_listens_17 : decode cX12_listens 17 = .ok (.iload 4, 2) := by decide +kernel
theorem dX12_listens_19 : decode cX12_listens 19 = .ok (.iconst 0, 1) := by decide +kernel
theorem dX12_listens_20 : decode cX12_listens 20 = .ok (.invokevirtual 310, 3) := by decide +kernel
theorem dX12_listens_23 : decode cX12_listens 23 = .ok (.istore 5, 2) := by decide +kernel
theorem dX12_listens_25 : decode cX12_listens 25 = .ok (.aload_n 0, 1) := by decide +kernel
theorem dX12_listens_26 : decode cX12_listens 26 = .ok (.iload_n 1, 1) := by decide +kernel
theorem dX12_listens_27 : decode cX12_listens 27 = .ok (.iload_n 3, 1) := by decide +kernel
theorem dX12_listens_28 : decode cX12_listens 28 = .ok (.iconst 2, 1) := by decide +kernel
theorem dX12_listens_29 : decode cX12_listens 29 = .ok (.iload_n 2, 1) := by decide +kernel
theorem dX12_listens_30 : decode cX12_listens 30 = .ok (.iload 4, 2) := by decide +kernel
theorem dX12_listens_32 : decode cX12_listens 32 = .ok (.iconst 1, 1) := by decide +kernel
theorem dX12_listens_33 : decode cX12_listens 33 = .ok (.invokevirtual 310, 3) := by decide +kernel
theorem dX12_listens_36 : decode cX12_listens 36 = .ok (.istore 6, 2) := by decide +kernel
theorem dX12_listens_38 : decode cX12_listens 38 = .ok (.aload_n 0, 1) := by decide +kernel
theorem dX12_listens_39 : decode cX12_listens 39 = .ok (.iload_n 1, 1) := by decide +kernel
theorem dX12_listens_40 : decode cX12_listens 40 = .ok (.iload_n 3, 1) := by decide +kernel
theorem dX12_listens_41 : decode cX12_listens 41 = .ok (.iconst 2, 1) := by decide +kernel
theorem dX12_listens_42 : decode cX12_listens 42 = .ok (.iload_n 2, 1) := by decide +kernel
theorem dX12_listens_43 : decode cX12_listens 43 = .ok (.iload 4, 2) := by decide +kernel
theorem dX12_listens_45 : decode cX12_listens 45 = .ok (.iconst 2, 1) := by decide +kernel
theorem dX12_listens_46 : decode cX12_listens 46 = .ok (.invokevirtual 310, 3) := by decide +kernel
theorem dX12_listens_49 : decode cX12_listens 49 = .ok (.istore 7, 2) := by decide +kernel
theorem dX12_listens_51 : decode cX12_listens 51 = .ok (.aload_n 0, 1) := by decide +kernel
theorem dX12_listens_52 : decode cX12_listens 52 = .ok (.getfield 77, 3) := by decide +kernel
theorem dX12_listens_55 : decode cX12_listens 55 = .ok (.bipush 100, 2) := by decide +kernel
theorem dX12_listens_57 : decode cX12_listens 57 = .ok (.iload 4, 2) := by decide +kernel
theorem dX12_listens_59 : decode cX12_listens 59 = .ok (.imul, 1) := by decide +kernel
theorem dX12_listens_60 : decode cX12_listens 60 = .ok (.iload 5, 2) := by decide +kernel
theorem dX12_listens_62 : decode cX12_listens 62 = .ok (.bipush 99, 2) := by decide +kernel
theorem dX12_listens_64 : decode cX12_listens 64 = .ok (.invokestatic 404, 3) := by decide +kernel
theorem dX12_listens_67 : decode cX12_listens 67 = .ok (.iadd, 1) := by decide +kernel
theorem dX12_listens_68 : decode cX12_listens 68 = .ok (.dup2, 1) := by decide +kernel
theorem dX12_listens_69 : decode cX12_listens 69 = .ok (.iaload, 1) := by decide +kernel
theorem dX12_listens_70 : decode cX12_listens 70 = .ok (.iload 5, 2) := by decide +kernel
theorem dX12_listens_72 : decode cX12_listens 72 = .ok (.bipush 99, 2) := by decide +kernel
theorem dX12_listens_74 : decode cX12_listens 74 = .ok (.if_icmp .gt 7, 3) := by decide +kernel
theorem dX12_listens_77 : decode cX12_listens 77 = .ok (.iconst 1, 1) := by decide +kernel
theorem dX12_listens_78 : decode cX12_listens 78 = .ok (.goto 4, 3) := by decide +kernel
theorem dX12_listens_81 : decode cX12_listens 81 = .ok (.iconst 0, 1) := by decide +kernel
theorem dX12_listens_82 : decode cX12_listens 82 = .ok (.iadd, 1) := by decide +kernel
theorem dX12_listens_83 : decode cX12_listens 83 = .ok (.iastore, 1) := by decide +kernel
theorem dX12_listens_84 : decode cX12_listens 84 = .ok (.aload_n 0, 1) := by decide +kernel
theorem dX12_listens_85 : decode cX12_listens 85 = .ok (.getfield 77, 3) := by decide +kernel
theorem dX12_listens_88 : decode cX12_listens 88 = .ok (.bipush 100, 2) := by decide +kernel
theorem dX12_listens_90 : decode cX12_listens 90 = .ok (.iload 4, 2) := by decide +kernel
theorem dX12_listens_92 : decode cX12_listens 92 = .ok (.imul, 1) := by decide +kernel
theorem dX12_listens_93 : decode cX12_listens 93 = .ok (.iload 6, 2) := by decide +kernel
theorem dX12_listens_95 : decode cX12_listens 95 = .ok (.iconst 0, 1) := by decide +kernel
theorem dX12_listens_96 : decode cX12_listens 96 = .ok (.bipush 99, 2) := by decide +kernel
theorem dX12_listens_98 : decode cX12_listens 98 = .ok (.invokestatic 101, 3) := by decide +kernel
theorem dX12_listens_101 : decode cX12_listens 101 = .ok (.ifCond .eq 8, 3) := by decide +kernel
theorem dX12_listens_104 : decode cX12_listens 104 = .ok (.iload 6, 2) := by decide +kernel
theorem dX12_listens_106 : decode cX12_listens 106 = .ok (.goto 4, 3) := by decide +kernel
theorem dX12_listens_109 : decode cX12_listens 109 = .ok (.iconst 0, 1) := by decide +kernel
theorem dX12_listens_110 : decode cX12_listens 110 = .ok (.iadd, 1) := by decide +kernel
theorem dX12_listens_111 : decode cX12_listens 111 = .ok (.dup2, 1) := by decide +kernel
theorem dX12_listens_112 : decode cX12_listens 112 = .ok (.iaload, 1) := by decide +kernel
theorem dX12_listens_113 : decode cX12_listens 113 = .ok (.iload 6, 2) := by decide +kernel
theorem dX12_listens_115 : decode cX12_listens 115 = .ok (.iconst 0, 1) := by decide +kernel
theorem dX12_listens_116 : decode cX12_listens 116 = .ok (.bipush 99, 2) := by decide +kernel
theorem dX12_listens_118 : decode cX12_listens 118 = .ok (.invokestatic 101, 3) := by decide +kernel
theorem dX12_listens_121 : decode cX12_listens 121 = .ok (.ifCond .eq 14, 3) := by decide +kernel
theorem dX12_listens_124 : decode cX12_listens 124 = .ok (.iload 6, 2) := by decide +kernel
theorem dX12_listens_126 : decode cX12_listens 126 = .ok (.iload 5, 2) := by decide +kernel
theorem dX12_listens_128 : decode cX12_listens 128 = .ok (.if_icmp .eq 7, 3) := by decide +kernel
theorem dX12_listens_131 : decode cX12_listens 131 = .ok (.iconst 1, 1) := by decide +kernel
theorem dX12_listens_132 : decode cX12_listens 132 = .ok (.goto 4, 3) := by decide +kernel
theorem dX12_listens_135 : decode cX12_listens 135 = .ok (.iconst 0, 1) := by decide +kernel
theorem dX12_listens_136 : decode cX12_listens 136 = .ok (.iadd, 1) := by decide +kernel
theorem dX12_listens_137 : decode cX12_listens 137 = .ok (.iastore, 1) := by decide +kernel
theorem dX12_listens_138 : decode cX12_listens 138 = .ok (.aload_n 0, 1) := by decide +kernel
theorem dX12_listens_139 : decode cX12_listens 139 = .ok (.getfield 77, 3) := by decide +kernel
theorem dX12_listens_142 : decode cX12_listens 142 = .ok (.bipush 100, 2) := by decide +kernel
theorem dX12_listens_144 : decode cX12_listens 144 = .ok (.iload 4, 2) := by decide +kernel
theorem dX12_listens_146 : decode cX12_listens 146 = .ok (.imul, 1) := by decide +kernel
theorem dX12_listens_147 : decode cX12_listens 147 = .ok (.iload 7, 2) := by decide +kernel
theorem dX12_listens_149 : decode cX12_listens 149 = .ok (.iconst 0, 1) := by decide +kernel
theorem dX12_listens_150 : decode cX12_listens 150 = .ok (.bipush 99, 2) := by decide +kernel
theorem dX12_listens_152 : decode cX12_listens 152 = .ok (.invokestatic 101, 3) := by decide +kernel
theorem dX12_listens_155 : decode cX12_listens 155 = .ok (.ifCond .eq 8, 3) := by decide +kernel
theorem dX12_listens_158 : decode cX12_listens 158 = .ok (.iload 7, 2) := by decide +kernel
theorem dX12_listens_160 : decode cX12_listens 160 = .ok (.goto 4, 3) := by decide +kernel
theorem dX12_listens_163 : decode cX12_listens 163 = .ok (.iconst 0, 1) := by decide +kernel
theorem dX12_listens_164 : decode cX12_listens 164 = .ok (.iadd, 1) := by decide +kernel
theorem dX12_listens_165 : decode cX12_listens 165 = .ok (.dup2, 1) := by decide +kernel
theorem dX12_listens_166 : decode cX12_listens 166 = .ok (.iaload, 1) := by decide +kernel
theorem dX12_listens_167 : decode cX12_listens 167 = .ok (.iload 7, 2) := by decide +kernel
theorem dX12_listens_169 : decode cX12_listens 169 = .ok (.iconst 0, 1) := by decide +kernel
theorem dX12_listens_170 : decode cX12_listens 170 = .ok (.bipush 99, 2) := by decide +kernel
theorem dX12_listens_172 : decode cX12_listens 172 = .ok (.invokestatic 101, 3) := by decide +kernel
theorem dX12_listens_175 : decode cX12_listens 175 = .ok (.ifCond .eq 21, 3) := by decide +kernel
theorem dX12_listens_178 : decode cX12_listens 178 = .ok (.iload 7, 2) := by decide +kernel
theorem dX12_listens_180 : decode cX12_listens 180 = .ok (.iload 5, 2) := by decide +kernel
theorem dX12_listens_182 : decode cX12_listens 182 = .ok (.if_icmp .eq 14, 3) := by decide +kernel
theorem dX12_listens_185 : decode cX12_listens 185 = .ok (.iload 7, 2) := by decide +kernel
theorem dX12_listens_187 : decode cX12_listens 187 = .ok (.iload 6, 2) := by decide +kernel
theorem dX12_listens_189 : decode cX12_listens 189 = .ok (.if_icmp .eq 7, 3) := by decide +kernel
theorem dX12_listens_192 : decode cX12_listens 192 = .ok (.iconst 1, 1) := by decide +kernel
theorem dX12_listens_193 : decode cX12_listens 193 = .ok (.goto 4, 3) := by decide +kernel
theorem dX12_listens_196 : decode cX12_listens 196 = .ok (.iconst 0, 1) := by decide +kernel
theorem dX12_listens_197 : decode cX12_listens 197 = .ok (.iadd, 1) := by decide +kernel
theorem dX12_listens_198 : decode cX12_listens 198 = .ok (.iastore, 1) := by decide +kernel
theorem dX12_listens_199 : decode cX12_listens 199 = .ok (.iinc 4 1, 3) := by decide +kernel
theorem dX12_listens_202 : decode cX12_listens 202 = .ok (.goto (-199), 3) := by decide +kernel
theorem dX12_listens_205 : decode cX12_listens 205 = .ok (.return_, 1) := by decide +kernel
def fX12_listens_b135x  : Option (Int32) :=
  some 0
def fX12_listens_l3 (x0 : Nat) (x1 : Int32) (x3 : Int32) (x2 : Int32) (F3 : Int32 → zM → Option (zM)) (x4_1 : Int32) (m2 : zM) : Option (zM) :=
  zb1 (zm_gI m2 12 x0 24) fun v7 =>
  if v7 < x4_1 then (
  some m2)
  else (
  zb1 (fX12_comes m2 x0 x1 x3 2 x2 x4_1 0) fun v10 =>
  zb1 (fX12_comes m2 x0 x1 x3 2 x2 x4_1 1) fun v12 =>
  zb1 (fX12_comes m2 x0 x1 x3 2 x2 x4_1 2) fun v14 =>
  zb1 (zm_gR m2 12 x0 47) fun v15 =>
  zb1 (fX12_lesser m2 v10 99) fun v18 =>
  zb1 (zm_aI m2 0 v15 ((100 * x4_1) + v18)) fun v19 =>
  zb1 (if 99 < v10 then (
  some 0)
  else (
  some 1)) fun s21 =>
  zb1 (zm_sI m2 0 v15 ((100 * x4_1) + v18) (v19 + s21)) fun m23 =>
  zb1 (zm_gR m23 12 x0 47) fun v25 =>
  zb1 (fX12_in m23 v12 0 99) fun v28 =>
  zb1 (if v28 = 0 then (
  some 0)
  else (
  some v12)) fun s29 =>
  zb1 (zm_aI m23 0 v25 ((100 * x4_1) + s29)) fun v31 =>
  zb1 (fX12_in m23 v12 0 99) fun v34 =>
  zb1 (if v34 = 0 then (
  fX12_listens_b135x)
  else (
  if v12 = v10 then (
  fX12_listens_b135x)
  else (
  some 1))) fun s35 =>
  zb1 (zm_sI m23 0 v25 ((100 * x4_1) + s29) (v31 + s35)) fun m38 =>
  zb1 (zm_gR m38 12 x0 47) fun v40 =>
  zb1 (fX12_in m38 v14 0 99) fun v43 =>
  zb1 (if v43 = 0 then (
  some 0)
  else (
  some v14)) fun s44 =>
  zb1 (zm_aI m38 0 v40 ((100 * x4_1) + s44)) fun v46 =>
  zb1 (fX12_in m38 v14 0 99) fun v49 =>
  zb1 (if v49 = 0 then (
  some 0)
  else (
  if v14 = v10 then (
  some 0)
  else (
  if v14 = v12 then (
  some 0)
  else (
  some 1)))) fun s50 =>
  zb1 (zm_sI m38 0 v40 ((100 * x4_1) + s44) (v46 + s50)) fun m52 =>
  F3 (x4_1 + 1) m52)
def fX12_listens (μ : zM) (x0 : Nat) (x1 : Int32) (x2 : Int32) (x3 : Int32) : Option (zM) := zgd (zm_ck μ 12 x0) <|
  zb1 (zf2 (fX12_listens_l3 x0 x1 x3 x2) zfu 0 μ) fun m5 =>
  some m5
theorem fX12_listens_ck {μ : zM} {x0 : Nat} {x1 : Int32} {x2 : Int32} {x3 : Int32} {z : zM} (h : fX12_listens μ x0 x1 x2 x3 = some z) : zm_ck μ 12 x0 = true := (zgd_s h).1
set_option maxHeartbeats 4000000 in
set_option maxRecDepth 100000 in
theorem cX12_listens_ok {μ : zM} {x0 : Nat} {x1 : Int32} {x2 : Int32} {x3 : Int32} {mo : zM} (hf : fX12_listens μ x0 x1 x2 x3 = some mo) : zC yX12_listens cX12_listens 8 (none) 4 0 0 [.ref x0, .int x1, .int x2, .int x3] μ (none) mo := by
  replace hf := (zgd_s hf).2
  refine zC.of (by decide) (Nat.le_of_ble_eq_true rfl) (fun K hin => ?_)
  clear hin
  show zz K cX12_listens (8, RX12, none, 4, 0, 0, none, mo) 0 0 0 [(0, .ref x0), (1, .int x1), (2, .int x2), (3, .int x3)] [] μ
  refine zr_iconst 0 dX12_listens_0 (by decide) ?_
  refine zr_istore [(4, .int 0), (0, .ref x0), (1, .int x1), (2, .int x2), (3, .int x3)] dX12_listens_1 (Nat.le_of_ble_eq_true rfl) rfl ?_
  replace hf := zb1_s hf
  obtain ⟨m5, hg, hf⟩ := hf
  have hj6 : zz K cX12_listens (8, RX12, none, 4, 0, 0, none, mo) 0 0 205 [] [] m5 := by
    cases hf
    exact zr_vret dX12_listens_205
  clear hf
  have hf := hg
  clear hg
  have hL54 : ∀ (n : Nat) (x4_1 : Int32) (m2 : zM), zf2 (fX12_listens_l3 x0 x1 x3 x2) n x4_1 m2 = some m5 → zz K cX12_listens (8, RX12, none, 4, 0, 0, none, mo) 0 0 3 [(0, .ref x0), (1, .int x1), (2, .int x2), (3, .int x3), (4, .int x4_1)] [] m2 := by
    intro n
    induction n with
    | zero => intro x4_1 m2 hf; cases hf
    | succ n ih4 =>
      intro x4_1 m2 hf
      replace hf := zf2_s hf
      generalize zf2 (fX12_listens_l3 x0 x1 x3 x2) n = F3 at hf ih4
      unfold fX12_listens_l3 at hf
      refine zr_iload 4 dX12_listens_3 rfl ?_
      refine zr_aload_n 0 dX12_listens_5 rfl ?_
      replace hf := zb1_s hf
      obtain ⟨v7, h8, hf⟩ := hf
      refine zr_get (zm_gI_g h8) zk12 (by decide) zl_920 dX12_listens_6 ?_
      refine zr_icmp_gt 205 dX12_listens_9 (by decide) (fun hc => ?_) (fun hc => ?_)
      · rw [if_pos hc] at hf
        cases hf
        exact zr_lv [] rfl hj6
      · rw [if_neg hc] at hf
        refine zr_aload_n 0 dX12_listens_12 rfl ?_
        refine zr_iload_n 1 dX12_listens_13 rfl ?_
        refine zr_iload_n 3 dX12_listens_14 rfl ?_
        refine zr_iconst 2 dX12_listens_15 (by decide) ?_
        refine zr_iload_n 2 dX12_listens_16 rfl ?_
        refine zr_iload 4 dX12_listens_17 rfl ?_
        refine zr_iconst 0 dX12_listens_19 (by decide) ?_
        replace hf := zb1_s hf
        obtain ⟨v10, h9, hf⟩ := hf
        refine zr_callV (ci := 12) [.int x1, .int x3, .int 2, .int x2, .int x4_1, .int 0] (cX12_comes_ok h9) zvs_X12_comes zl_961 zl_962 (fX12_comes_ck h9) rfl rfl zl_960 rfl (Nat.le_of_ble_eq_true rfl) (Nat.le_of_ble_eq_true rfl) (Nat.le_of_ble_eq_true rfl) (Nat.le_of_ble_eq_true rfl) dX12_listens_20 rfl ?_
        refine zr_istore [(5, .int v10), (0, .ref x0), (1, .int x1), (2, .int x2), (3, .int x3), (4, .int x4_1)] dX12_listens_23 (Nat.le_of_ble_eq_true rfl) rfl ?_
        refine zr_aload_n 1 dX12_listens_25 rfl ?_
        refine zr_iload_n 2 dX12_listens_26 rfl ?_
        refine zr_iload_n 4 dX12_listens_27 rfl ?_
        refine zr_iconst 2 dX12_listens_28 (by decide) ?_
        refine zr_iload_n 3 dX12_listens_29 rfl ?_
        refine zr_iload 5 dX12_listens_30 rfl ?_
        refine zr_iconst 1 dX12_listens_32 (by decide) ?_
        replace hf := zb1_s hf
        obtain ⟨v12, h11, hf⟩ := hf
        refine zr_callV (ci := 12) [.int x1, .int x3, .int 2, .int x2, .int x4_1, .int 1] (cX12_comes_ok h11) zvs_X12_comes zl_961 zl_962 (fX12_comes_ck h11) rfl rfl zl_960 rfl (Nat.le_of_ble_eq_true rfl) (Nat.le_of_ble_eq_true rfl) (Nat.le_of_ble_eq_true rfl) (Nat.le_of_ble_eq_true rfl) dX12_listens_33 rfl ?_
        refine zr_istore [(6, .int v12), (5, .int v10), (0, .ref x0), (1, .int x1), (2, .int x2), (3, .int x3), (4, .int x4_1)] dX12_listens_36 (Nat.le_of_ble_eq_true rfl) rfl ?_
        refine zr_aload_n 2 dX12_listens_38 rfl ?_
        refine zr_iload_n 3 dX12_listens_39 rfl ?_
        refine zr_iload_n 5 dX12_listens_40 rfl ?_
        refine zr_iconst 2 dX12_listens_41 (by decide) ?_
        refine zr_iload_n 4 dX12_listens_42 rfl ?_
        refine zr_iload 6 dX12_listens_43 rfl ?_
        refine zr_iconst 2 dX12_listens_45 (by decide) ?_
        replace hf := zb1_s hf
        obtain ⟨v14, h13, hf⟩ := hf
        refine zr_callV (ci := 12) [.int x1, .int x3, .int 2, .int x2, .int x4_1, .int 2] (cX12_comes_ok h13) zvs_X12_comes zl_961 zl_962 (fX12_comes_ck h13) rfl rfl zl_960 rfl (Nat.le_of_ble_eq_true rfl) (Nat.le_of_ble_eq_true rfl) (Nat.le_of_ble_eq_true rfl) (Nat.le_of_ble_eq_true rfl) dX12_listens_46 rfl ?_
        refine zr_istore [(7, .int v14), (6, .int v12), (5, .int v10), (0, .ref x0), (1, .int x1), (2, .int x2), (3, .int x3), (4, .int x4_1)] dX12_listens_49 (Nat.le_of_ble_eq_true rfl) rfl ?_
        refine zr_aload_n 3 dX12_listens_51 rfl ?_
        replace hf := zb1_s hf
        obtain ⟨v15, h16, hf⟩ := hf
        refine zr_get (zm_gR_g h16) zk12 (by decide) zl_775 dX12_listens_52 ?_
        refine zr_bipush 100 dX12_listens_55 (by decide) ?_
        refine zr_iload 7 dX12_listens_57 rfl ?_
        refine zr_imul dX12_listens_59 ?_
        refine zr_iload 2 dX12_listens_60 rfl ?_
        refine zr_bipush 99 dX12_listens_62 (by decide) ?_
        replace hf := zb1_s hf
        obtain ⟨v18, h17, hf⟩ := hf
        refine zr_callS [.int v10, .int 99] (cX12_lesser_ok h17) zvs_X12_lesser zl_1056 zl_1055 rfl (Nat.le_of_ble_eq_true rfl) (Nat.le_of_ble_eq_true rfl) (Nat.le_of_ble_eq_true rfl) (Nat.le_of_ble_eq_true rfl) dX12_listens_64 rfl ?_
        refine zr_iadd dX12_listens_67 ?_
        refine zr_dup2 dX12_listens_68 rfl rfl ?_
        replace hf := zb1_s hf
        obtain ⟨v19, h20, hf⟩ := hf
        refine zr_iald h20 dX12_listens_69 ?_
        refine zr_iload 2 dX12_listens_70 rfl ?_
        refine zr_bipush 99 dX12_listens_72 (by decide) ?_
        replace hf := zb1_s hf
        obtain ⟨s21, hg, hf⟩ := hf
        have hj22 : zz K cX12_listens (8, RX12, none, 4, 0, 0, none, mo) 0 0 82 [(0, .ref x0), (1, .int x1), (2, .int x2), (3, .int x3), (4, .int x4_1), (5, .int v10), (6, .int v12), (7, .int v14)] [.int s21, .int v19, .int ((100 * x4_1) + v18), .ref v15] m2 := by
          refine zr_iadd dX12_listens_82 ?_
          replace hf := zb1_s hf
          obtain ⟨m23, h24, hf⟩ := hf
          refine zr_iast h24 dX12_listens_83 ?_
          refine zr_aload_n 0 dX12_listens_84 rfl ?_
          replace hf := zb1_s hf
          obtain ⟨v25, h26, hf⟩ := hf
          refine zr_get (zm_gR_g h26) zk12 (by decide) zl_775 dX12_listens_85 ?_
          refine zr_bipush 100 dX12_listens_88 (by decide) ?_
          refine zr_iload 4 dX12_listens_90 rfl ?_
          refine zr_imul dX12_listens_92 ?_
          refine zr_iload 6 dX12_listens_93 rfl ?_
          refine zr_iconst 0 dX12_listens_95 (by decide) ?_
          refine zr_bipush 99 dX12_listens_96 (by decide) ?_
          replace hf := zb1_s hf
          obtain ⟨v28, h27, hf⟩ := hf
          refine zr_callS [.int v12, .int 0, .int 99] (cX12_in_ok h27) zvs_X12_in zl_787 zl_786 rfl (Nat.le_of_ble_eq_true rfl) (Nat.le_of_ble_eq_true rfl) (Nat.le_of_ble_eq_true rfl) (Nat.le_of_ble_eq_true rfl) dX12_listens_98 rfl ?_
          replace hf := zb1_s hf
          obtain ⟨s29, hg, hf⟩ := hf
          have hj30 : zz K cX12_listens (8, RX12, none, 4, 0, 0, none, mo) 0 0 110 [(0, .ref x0), (1, .int x1), (2, .int x2), (3, .int x3), (4, .int x4_1), (5, .int v10), (6, .int v12), (7, .int v14)] [.int s29, .int (100 * x4_1), .ref v25] m23 := by
            refine zr_iadd dX12_listens_110 ?_
            refine zr_dup2 dX12_listens_111 rfl rfl ?_
            replace hf := zb1_s hf
            obtain ⟨v31, h32, hf⟩ := hf
            refine zr_iald h32 dX12_listens_112 ?_
            refine zr_iload 6 dX12_listens_113 rfl ?_
            refine zr_iconst 0 dX12_listens_115 (by decide) ?_
            refine zr_bipush 99 dX12_listens_116 (by decide) ?_
            replace hf := zb1_s hf
            obtain ⟨v34, h33, hf⟩ := hf
            refine zr_callS [.int v12, .int 0, .int 99] (cX12_in_ok h33) zvs_X12_in zl_787 zl_786 rfl (Nat.le_of_ble_eq_true rfl) (Nat.le_of_ble_eq_true rfl) (Nat.le_of_ble_eq_true rfl) (Nat.le_of_ble_eq_true rfl) dX12_listens_118 rfl ?_
            replace hf := zb1_s hf
            obtain ⟨s35, hg, hf⟩ := hf
            have hj36 : zz K cX12_listens (8, RX12, none, 4, 0, 0, none, mo) 0 0 136 [(0, .ref x0), (1, .int x1), (2, .int x2), (3, .int x3), (4, .int x4_1), (5, .int v10), (6, .int v12), (7, .int v14)] [.int s35, .int v31, .int ((100 * x4_1) + s29), .ref v25] m23 := by
              refine zr_iadd dX12_listens_136 ?_
              replace hf := zb1_s hf
              obtain ⟨m38, h39, hf⟩ := hf
              refine zr_iast h39 dX12_listens_137 ?_
              refine zr_aload_n 0 dX12_listens_138 rfl ?_
              replace hf := zb1_s hf
              obtain ⟨v40, h41, hf⟩ := hf
              refine zr_get (zm_gR_g h41) zk12 (by decide) zl_775 dX12_listens_139 ?_
              refine zr_bipush 100 dX12_listens_142 (by decide) ?_
              refine zr_iload 4 dX12_listens_144 rfl ?_
              refine zr_imul dX12_listens_146 ?_
              refine zr_iload 7 dX12_listens_147 rfl ?_
              refine zr_iconst 0 dX12_listens_149 (by decide) ?_
              refine zr_bipush 99 dX12_listens_150 (by decide) ?_
              replace hf := zb1_s hf
              obtain ⟨v43, h42, hf⟩ := hf
              refine zr_callS [.int v14, .int 0, .int 99] (cX12_in_ok h42) zvs_X12_in zl_787 zl_786 rfl (Nat.le_of_ble_eq_true rfl) (Nat.le_of_ble_eq_true rfl) (Nat.le_of_ble_eq_true rfl) (Nat.le_of_ble_eq_true rfl) dX12_listens_152 rfl ?_
              replace hf := zb1_s hf
              obtain ⟨s44, hg, hf⟩ := hf
              have hj45 : zz K cX12_listens (8, RX12, none, 4, 0, 0, none, mo) 0 0 164 [(0, .ref x0), (1, .int x1), (2, .int x2), (3, .int x3), (4, .int x4_1), (5, .int v10), (6, .int v12), (7, .int v14)] [.int s44, .int (100 * x4_1), .ref v40] m38 := by
                refine zr_iadd dX12_listens_164 ?_
                refine zr_dup2 dX12_listens_165 rfl rfl ?_
                replace hf := zb1_s hf
                obtain ⟨v46, h47, hf⟩ := hf
                refine zr_iald h47 dX12_listens_166 ?_
                refine zr_iload 7 dX12_listens_167 rfl ?_
                refine zr_iconst 0 dX12_listens_169 (by decide) ?_
                refine zr_bipush 99 dX12_listens_170 (by decide) ?_
                replace hf := zb1_s hf
                obtain ⟨v49, h48, hf⟩ := hf
                refine zr_callS [.int v14, .int 0, .int 99] (cX12_in_ok h48) zvs_X12_in zl_787 zl_786 rfl (Nat.le_of_ble_eq_true rfl) (Nat.le_of_ble_eq_true rfl) (Nat.le_of_ble_eq_true rfl) (Nat.le_of_ble_eq_true rfl) dX12_listens_172 rfl ?_
                replace hf := zb1_s hf
                obtain ⟨s50, hg, hf⟩ := hf
                have hj51 : zz K cX12_listens (8, RX12, none, 4, 0, 0, none, mo) 0 0 197 [(0, .ref x0), (1, .int x1), (2, .int x2), (3, .int x3), (4, .int x4_1)] [.int s50, .int v46, .int ((100 * x4_1) + s44), .ref v40] m38 := by
                  refine zr_iadd dX12_listens_197 ?_
                  replace hf := zb1_s hf
                  obtain ⟨m52, h53, hf⟩ := hf
                  refine zr_iast h53 dX12_listens_198 ?_
                  refine zr_iinc (j := 4) (x4_1 + 1) [(4, .int (x4_1 + 1)), (0, .ref x0), (1, .int x1), (2, .int x2), (3, .int x3)] dX12_listens_199 rfl rfl (Nat.le_of_ble_eq_true rfl) rfl ?_
                  refine zr_goto 3 dX12_listens_202 (by decide) ?_
                  exact zr_lv [1, 2, 3, 4, 0] rfl (ih4 (x4_1 + 1) m52 hf)
                clear hf
                have hf := hg
                clear hg
                refine zr_if_eq 196 dX12_listens_175 (by decide) (fun hc => ?_) (fun hc => ?_)
                · rw [if_pos hc] at hf
                  refine zr_iconst 0 dX12_listens_196 (by decide) ?_
                  cases hf
                  exact zr_lv [0, 1, 2, 3, 4] rfl hj51
                · rw [if_neg hc] at hf
                  refine zr_iload 7 dX12_listens_178 rfl ?_
                  refine zr_iload 5 dX12_listens_180 rfl ?_
                  refine zr_icmp_eq 196 dX12_listens_182 (by decide) (fun hc => ?_) (fun hc => ?_)
                  · rw [if_pos hc] at hf
                    refine zr_iconst 0 dX12_listens_196 (by decide) ?_
                    cases hf
                    exact zr_lv [0, 1, 2, 3, 4] rfl hj51
                  · rw [if_neg hc] at hf
                    refine zr_iload 7 dX12_listens_185 rfl ?_
                    refine zr_iload 6 dX12_listens_187 rfl ?_
                    refine zr_icmp_eq 196 dX12_listens_189 (by decide) (fun hc => ?_) (fun hc => ?_)
                    · rw [if_pos hc] at hf
                      refine zr_iconst 0 dX12_listens_196 (by decide) ?_
                      cases hf
                      exact zr_lv [0, 1, 2, 3, 4] rfl hj51
                    · rw [if_neg hc] at hf
                      refine zr_iconst 1 dX12_listens_192 (by decide) ?_
                      refine zr_goto 197 dX12_listens_193 (by decide) ?_
                      cases hf
                      exact zr_lv [0, 1, 2, 3, 4] rfl hj51
              clear hf
              have hf := hg
              clear hg
              refine zr_if_eq 163 dX12_listens_155 (by decide) (fun hc => ?_) (fun hc => ?_)
              · rw [if_pos hc] at hf
                refine zr_iconst 0 dX12_listens_163 (by decide) ?_
                cases hf
                exact zr_lv [0, 1, 2, 3, 4, 5, 6, 7] rfl hj45
              · rw [if_neg hc] at hf
                refine zr_iload 7 dX12_listens_158 rfl ?_
                refine zr_goto 164 dX12_listens_160 (by decide) ?_
                cases hf
                exact zr_lv [0, 1, 2, 3, 4, 5, 6, 7] rfl hj45
            clear hf
            have hf := hg
            clear hg
            have hb37 : ∀ (_ : Unit), fX12_listens_b135x = some s35 → zz K cX12_listens (8, RX12, none, 4, 0, 0, none, mo) 0 0 135 [(0, .ref x0), (1, .int x1), (2, .int x2), (3, .int x3), (4, .int x4_1), (5, .int v10), (6, .int v12), (7, .int v14)] [.int v31, .int ((100 * x4_1) + s29), .ref v25] m23 := by
              intro _ hf
              unfold fX12_listens_b135x at hf
              refine zr_iconst 0 dX12_listens_135 (by decide) ?_
              cases hf
              exact zr_lv [0, 1, 2, 3, 4, 5, 6, 7] rfl hj36
            refine zr_if_eq 135 dX12_listens_121 (by decide) (fun hc => ?_) (fun hc => ?_)
            · rw [if_pos hc] at hf
              exact zr_lv [0, 1, 2, 3, 4, 5, 6, 7] rfl (hb37 () hf)
            · rw [if_neg hc] at hf
              refine zr_iload 6 dX12_listens_124 rfl ?_
              refine zr_iload 5 dX12_listens_126 rfl ?_
              refine zr_icmp_eq 135 dX12_listens_128 (by decide) (fun hc => ?_) (fun hc => ?_)
              · rw [if_pos hc] at hf
                exact zr_lv [0, 1, 2, 3, 4, 5, 6, 7] rfl (hb37 () hf)
              · rw [if_neg hc] at hf
                refine zr_iconst 1 dX12_listens_131 (by decide) ?_
                refine zr_goto 136 dX12_listens_132 (by decide) ?_
                cases hf
                exact zr_lv [0, 1, 2, 3, 4, 5, 6, 7] rfl hj36
          clear hf
          have hf := hg
          clear hg
          refine zr_if_eq 109 dX12_listens_101 (by decide) (fun hc => ?_) (fun hc => ?_)
          · rw [if_pos hc] at hf
            refine zr_iconst 0 dX12_listens_109 (by decide) ?_
            cases hf
            exact zr_lv [0, 1, 2, 3, 4, 5, 6, 7] rfl hj30
          · rw [if_neg hc] at hf
            refine zr_iload 6 dX12_listens_104 rfl ?_
            refine zr_goto 110 dX12_listens_106 (by decide) ?_
            cases hf
            exact zr_lv [0, 1, 2, 3, 4, 5, 6, 7] rfl hj30
        clear hf
        have hf := hg
        clear hg
        refine zr_icmp_gt 81 dX12_listens_74 (by decide) (fun hc => ?_) (fun hc => ?_)
        · rw [if_pos hc] at hf
          refine zr_iconst 0 dX12_listens_81 (by decide) ?_
          cases hf
          exact zr_lv [3, 4, 5, 6, 7, 2, 1, 0] rfl hj22
        · rw [if_neg hc] at hf
          refine zr_iconst 1 dX12_listens_77 (by decide) ?_
          refine zr_goto 82 dX12_listens_78 (by decide) ?_
          cases hf
          exact zr_lv [3, 4, 5, 6, 7, 2, 1, 0] rfl hj22
  exact zr_lv [1, 2, 3, 4, 0] rfl (hL54 _ 0 μ hf)
theorem zl_1139 : Cond.code yX12_listens cX12_listens 8 (none) ∈ zt := zt_at 1924 (by decide +kernel)
theorem zvs_X12_listens : zvS yX12_listens cX12_listens 8 (none) 3 := ⟨zl_1139, zl_782, ⟨by decide +kernel, by decide +kernel, by decide +kernel⟩, by decide⟩
theorem zl_1140 : Cond.methodLink RX12 478 yX12_listens ∈ zt := zt_at 1921 (by decide +kernel)
theorem zl_1141 : Cond.instanceMethod yX12_listens ∈ zt := zt_at 1923 (by decide +kernel)
theorem zl_1142 : Cond.selects RX12 yX12_listens yX12_listens ∈ zt := zt_at 115 (by decide +kernel)
theorem dX12_spot_0 : decode cX12_spot 0 = .ok (.aload_n 0, 1) := by decide +kernel
theorem dX12_spot_1 : decode cX12_spot 1 = .ok (.iconst 0, 1) := by decide +kernel
theorem dX12_spot_2 : decode cX12_spot 2 = .ok (.putfield 93, 3) := by decide +kernel
theorem dX12_spot_5 : decode cX12_spot 5 = .ok (.aload_n 0, 1) := by decide +kernel
theorem dX12_spot_6 : decode cX12_spot 6 = .ok (.iload_n 1, 1) := by decide +kernel
theorem dX12_spot_7 : decode cX12_spot 7 = .ok (.iload_n 2, 1) := by decide +kernel
theorem dX12_spot_8 : decode cX12_spot 8 = .ok (.invokevirtual 472, 3) := by decide +kernel
theorem dX12_spot_11 : decode cX12_spot 11 = .ok (.ifCond .ne 5, 3) := by decide +kernel
theorem dX12_spot_14 : decode cX12_spot 14 = .ok (.iconst (-1), 1) := by decide +kernel
theorem dX12_spot_15 : decode cX12_spot 15 = .ok (.ireturn, 1) := by decide +kernel
theorem dX12_spot_16 : decode cX12_spot 16 = .ok (.aload_n 0, 1) := by decide +kernel
theorem dX12_spot_17 : decode cX12_spot 17 = .ok (.iconst (-1), 1) := by decide +kernel
theorem dX12_spot_18 : decode cX12_spot 18 = .ok (.invokevirtual 475, 3) := by decide +kernel
theorem dX12_spot_21 : decode cX12_spot 21 = .ok (.istore 4, 2) := by decide +kernel
theorem dX12_spot_23 : decode cX12_spot 23 = .ok (.iload 4, 2) := by decide +kernel
theorem dX12_spot_25 : decode cX12_spot 25 = .ok (.ifCond .ne 5, 3) := by decide +kernel
theorem dX12_spot_28 : decode cX12_spot 28 = .ok (.iconst (-1), 1) := by decide +kernel
theorem dX12_spot_29 : decode cX12_spot 29 = .ok (.ireturn, 1) := by decide +kernel
theorem dX12_spot_30 : decode cX12_spot 30 = .ok (.iload_n 3, 1) := by decide +kernel
theorem dX12_spot_31 : decode cX12_spot 31 = .ok (.ifCond .ne 21, 3) := by decide +kernel
theorem dX12_spot_34 : decode cX12_spot 34 = .ok (.aload_n 0, 1) := by decide +kernel
theorem dX12_spot_35 : decode cX12_spot 35 = .ok (.getfield 466, 3) := by decide +kernel
theorem dX12_spot_38 : decode cX12_spot 38 = .ok (.bipush (-2), 2) := by decide +kernel
theorem dX12_spot_40 : decode cX12_spot 40 = .ok (.if_icmp .ne 7, 3) := by decide +kernel
theorem dX12_spot_43 : decode cX12_spot 43 = .ok (.iconst (-1), 1) := by decide +kernel
theorem dX12_spot_44 : decode cX12_spot 44 = .ok (.goto 7, 3) := by decide +kernel
theorem dX12_spot_47 : decode cX12_spot 47 = .ok (.aload_n 0, 1) := by decide +kernel
theorem dX12_spot_48 : decode cX12_spot 48 = .ok (.getfield 466, 3) := by decide +kernel
theorem dX12_spot_51 : decode cX12_spot 51 = .ok (.ireturn, 1) := by decide +kernel
theorem dX12_spot_52 : decode cX12_spot 52 = .ok (.iconst 0, 1) := by decide +kernel
theorem dX12_spot_53 : decode cX12_spot 53 = .ok (.istore 5, 2) := by decide +kernel
theorem dX12_spot_55 : decode cX12_spot 55 = .ok (.iload 5, 2) := by decide +kernel
theorem dX12_spot_57 : decode cX12_spot 57 = .ok (.sipush 3100, 3) := by decide +kernel
theorem dX12_spot_60 : decode cX12_spot 60 = .ok (.if_icmp .ge 17, 3) := by decide +kernel
theorem dX12_spot_63 : decode cX12_spot 63 = .ok (.aload_n 0, 1) := by decide +kernel
theorem dX12_spot_64 : decode cX12_spot 64 = .ok (.getfield 77, 3) := by decide +kernel
theorem dX12_spot_67 : decode cX12_spot 67 = .ok (.iload 5, 2) := by decide +kernel
theorem dX12_spot_69 : decode cX12_spot 69 = .ok (.iconst 0, 1) := by decide +kernel
theorem dX12_spot_70 : decode cX12_spot 70 = .ok (.iastore, 1) := by decide +kernel
theorem dX12_spot_71 : decode cX12_spot 71 = .ok (.iinc 5 1, 3) := by decide +kernel
theorem dX12_spot_74 : decode cX12_spot 74 = .ok (.goto (-19), 3) := by decide +kernel
theorem dX12_spot_77 : decode cX12_spot 77 = .ok (.iconst 0, 1) := by decide +kernel
theorem dX12_spot_78 : decode cX12_spot 78 = .ok (.istore 5, 2) := by decide +kernel
theorem dX12_spot_80 : decode cX12_spot 80 = .ok (.iload 5, 2) := by decide +kernel
theorem dX12_spot_82 : decode cX12_spot 82 = .ok (.sipush 1000, 3) := by decide +kernel
theorem dX12_spot_85 : decode cX12_spot 85 = .ok (.aload_n 0, 1) := by decide +kernel
theorem dX12_spot_86 : decode cX12_spot 86 = .ok (.getfield 273, 3) := by decide +kernel
theorem dX12_spot_89 : decode cX12_spot 89 = .ok (.iconst 1, 1) := by decide +kernel
theorem dX12_spot_90 : decode cX12_spot 90 = .ok (.iadd, 1) := by decide +kernel
theorem dX12_spot_91 : decode cX12_spot 91 = .ok (.imul, 1) := by decide +kernel
theorem dX12_spot_92 : decode cX12_spot 92 = .ok (.if_icmp .ge 68, 3) := by decide +kernel
theorem dX12_spot_95 : decode cX12_spot 95 = .ok (.iload 5, 2) := by decide +kernel
theorem dX12_spot_97 : decode cX12_spot 97 = .ok (.bipush 10, 2) := by decide +kernel
theorem dX12_spot_99 : decode cX12_spot 99 = .ok (.irem, 1) := by decide +kernel
theorem dX12_spot_100 : decode cX12_spot 100 = .ok (.bipush 8, 2) := by decide +kernel
theorem dX12_spot_102 : decode cX12_spot 102 = .ok (.if_icmp .ge 52, 3) := by decide +kernel
theorem dX12_spot_105 : decode cX12_spot 105 = .ok (.aload_n 0, 1) := by decide +kernel
theorem dX12_spot_106 : decode cX12_spot 106 = .ok (.iload 5, 2) := by decide +kernel
theorem dX12_spot_108 : decode cX12_spot 108 = .ok (.sipush 1000, 3) := by decide +kernel
theorem dX12_spot_111 : decode cX12_spot 111 = .ok (.idiv, 1) := by decide +kernel
theorem dX12_spot_112 : decode cX12_spot 112 = .ok (.iload 5, 2) := by decide +kernel
theorem dX12_spot_114 : decode cX12_spot 114 = .ok (.bipush 10, 2) := by decide +kernel
theorem dX12_spot_116 : decode cX12_spot 116 = .ok (.idiv, 1) := by decide +kernel
theorem dX12_spot_117 : decode cX12_spot 117 = .ok (.bipush 100, 2) := by decide +kernel
theorem dX12_spot_119 : decode cX12_spot 119 = .ok (.irem, 1) := by decide +kernel
theorem dX12_spot_120 : decode cX12_spot 120 = .ok (.iload 5, 2) := by decide +kernel
theorem dX12_spot_122 : decode cX12_spot 122 = .ok (.bipush 10, 2) := by decide +kernel
theorem dX12_spot_124 : decode cX12_spot 124 = .ok (.irem, 1) := by decide +kernel
theorem dX12_spot_125 : decode cX12_spot 125 = .ok (.invokevirtual 469, 3) := by decide +kernel
theorem dX12_spot_128 : decode cX12_spot 128 = .ok (.ifCond .eq 26, 3) := by decide +kernel
theorem dX12_spot_131 : decode cX12_spot 131 = .ok (.aload_n 0, 1) := by decide +kernel
theorem dX12_spot_132 : decode cX12_spot 132 = .ok (.iload 5, 2) := by decide +kernel
theorem dX12_spot_134 : decode cX12_spot 134 = .ok (.sipush 1000, 3) := by decide +kernel
theorem dX12_spot_137 : decode cX12_spot 137 = .ok (.idiv, 1) := by decide +kernel
theorem dX12_spot_138 : decode cX12_spot 138 = .ok (.iload 5, 2) := by decide +kernel
theorem dX12_spot_140 : decode cX12_spot 140 = .ok (.bipush 10, 2) := by decide +kernel
theorem dX12_spot_142 : decode cX12_spot 142 = .ok (.idiv, 1) := by decide +kernel
theorem dX12_spot_143 : decode cX12_spot 143 = .ok (.bipush 100, 2) := by decide +kernel
theorem dX12_spot_145 : decode cX12_spot 145 = .ok (.irem, 1) := by decide +kernel
theorem dX12_spot_146 : decode cX12_spot 146 = .ok (.iload 5, 2) := by decide +kernel
theorem dX12_spot_148 : decode cX12_spot 148 = .ok (.bipush 10, 2) := by decide +kernel
theorem dX12_spot_150 : decode cX12_spot 150 = .ok (.irem, 1) := by decide +kernel
theorem dX12_spot_151 : decode cX12_spot 151 = .ok (.invokevirtual 478, 3) := by decide +kernel
theorem dX12_spot_154 : decode cX12_spot 154 = .ok (.iinc 5 1, 3) := by decide +kernel
theorem dX12_spot_157 : decode cX12_spot 157 = .ok (.goto (-77), 3) := by decide +kernel
theorem dX12_spot_160 : decode cX12_spot 160 = .ok (.iconst 0, 1) := by decide +kernel
theorem dX12_spot_161 : decode cX12_spot 161 = .ok (.istore 5, 2) := by decide +kernel
theorem dX12_spot_163 : decode cX12_spot 163 = .ok (.iconst 1, 1) := by decide +kernel
theorem dX12_spot_164 : decode cX12_spot 164 = .ok (.istore 6, 2) := by decide +kernel
theorem dX12_spot_166 : decode cX12_spot 166 = .ok (.iload 6, 2) := by decide +kernel
theorem dX12_spot_168 : decode cX12_spot 168 = .ok (.bipush 100, 2) := by decide +kernel
theorem dX12_spot_170 : decode cX12_spot 170 = .ok (.aload_n 0, 1) := by decide +kernel
theorem dX12_spot_171 : decode cX12_spot 171 = .ok (.getfield 273, 3) := by decide +kernel
theorem dX12_spot_174 : decode cX12_spot 174 = .ok (.iconst 1, 1) := by decide +kernel
theorem dX12_spot_175 : decode cX12_spot 175 = .ok (.iadd, 1) := by decide +kernel
theorem dX12_spot_176 : decode cX12_spot 176 = .ok (.imul, 1) := by decide +kernel
theorem dX12_spot_177 : decode cX12_spot 177 = .ok (.if_icmp .ge 61, 3) := by decide +kernel
theorem dX12_spot_180 : decode cX12_spot 180 = .ok (.aload_n 0, 1) := by decide +kernel
theorem dX12_spot_181 : decode cX12_spot 181 = .ok (.getfield 77, 3) := by decide +kernel
theorem dX12_spot_184 : decode cX12_spot 184 = .ok (.iload 6, 2) := by decide +kernel
theorem dX12_spot_186 : decode cX12_spot 186 = .ok (.iaload, 1) := by decide +kernel
theorem dX12_spot_187 : decode cX12_spot 187 = .ok (.iload 4, 2) := by decide +kernel
theorem dX12_spot_189 : decode cX12_spot 189 = .ok (.aload_n 0, 1) := by decide +kernel
theorem dX12_spot_190 : decode cX12_spot 190 = .ok (.getfield 77, 3) := by decide +kernel
theorem dX12_spot_193 : decode cX12_spot 193 = .ok (.iload 6, 2) := by decide +kernel
theorem dX12_spot_195 : decode cX12_spot 195 = .ok (.iaload, 1) := by decide +kernel
theorem dX12_spot_196 : decode cX12_spot 196 = .ok (.isub, 1) := by decide +kernel
theorem dX12_spot_197 : decode cX12_spot 197 = .ok (.invokestatic 168, 3) := by decide +kernel
theorem dX12_spot_200 : decode cX12_spot 200 = .ok (.aload_n 0, 1) := by decide +kernel
theorem dX12_spot_201 : decode cX12_spot 201 = .ok (.getfield 77, 3) := by decide +kernel
theorem dX12_spot_204 : decode cX12_spot 204 = .ok (.iload 5, 2) := by decide +kernel
theorem dX12_spot_206 : decode cX12_spot 206 = .ok (.iaload, 1) := by decide +kernel
theorem dX12_spot_207 : decode cX12_spot 207 = .ok (.iload 4, 2) := by decide +kernel
theorem dX12_spot_209 : decode cX12_spot 209 = .ok (.aload_n 0, 1) := by decide +kernel
theorem dX12_spot_210 : decode cX12_spot 210 = .ok (.getfield 77, 3) := by decide +kernel
theorem dX12_spot_213 : decode cX12_spot 213 = .ok (.iload 5, 2) := by decide +kernel
theorem dX12_spot_215 : decode cX12_spot 215 = .ok (.iaload, 1) := by decide +kernel
theorem dX12_spot_216 : decode cX12_spot 216 = .ok (.isub, 1) := by decide +kernel
theorem dX12_spot_217 : decode cX12_spot 217 = .ok (.invokestatic 168, 3) := by decide +kernel
theorem dX12_spot_220 : decode cX12_spot 220 = .ok (.if_icmp .ge 8, 3) := by decide +kernel
theorem dX12_spot_223 : decode cX12_spot 223 = .ok (.iload 6, 2) := by decide +kernel
theorem dX12_spot_225 : decode cX12_spot 225 = .ok (.goto 5, 3) := by decide +kernel
theorem dX12_spot_228 : decode cX12_spot 228 = .ok (.iload 5, 2) := by decide +kernel
theorem dX12_spot_230 : decode cX12_spot 230 = .ok (.istore 5, 2) := by decide +kernel
theorem dX12_spot_232 : decode cX12_spot 232 = .ok (.iinc 6 1, 3) := by decide +kernel
theorem dX12_spot_235 : decode cX12_spot 235 = .ok (.goto (-69), 3) := by decide +kernel
theorem dX12_spot_238 : decode cX12_spot 238 = .ok (.iload 5, 2) := by decide +kernel
theorem dX12_spot_240 : decode cX12_spot 240 = .ok (.ireturn, 1) := by decide +kernel
def fX12_spot_l55 (x0 : Nat) (F11 : Int32 → zM → Option (zM)) (x5_9 : Int32) (m10 : zM) : Option (zM) :=
  if 3100 ≤ x5_9 then (
  some m10)
  else (
  zb1 (zm_gR m10 12 x0 47) fun v15 =>
  zb1 (zm_sI m10 0 v15 x5_9 0) fun m17 =>
  F11 (x5_9 + 1) m17)
def fX12_spot_l80 (x0 : Nat) (F22 : Int32 → zM → Option (zM)) (x5_20 : Int32) (m21 : zM) : Option (zM) :=
  zb1 (zm_gI m21 12 x0 24) fun v26 =>
  if (1000 * (v26 + 1)) ≤ x5_20 then (
  some m21)
  else (
  zb1 (if 8 ≤ (x5_20 - x5_20 / 10 * 10) then (
  some m21)
  else (
  zb1 (fX12_isSo m21 x0 (x5_20 / 1000) ((x5_20 / 10) - (x5_20 / 10) / 100 * 100) (x5_20 - x5_20 / 10 * 10)) fun v31 =>
  if v31 = 0 then (
  some m21)
  else (
  zb1 (fX12_listens m21 x0 (x5_20 / 1000) ((x5_20 / 10) - (x5_20 / 10) / 100 * 100) (x5_20 - x5_20 / 10 * 10)) fun m33 =>
  some m33))) fun m28 =>
  F22 (x5_20 + 1) m28)
def fX12_spot_l166 (m24 : zM) (x0 : Nat) (v8 : Int32) (F37 : Int32 → Int32 → Option (Int32)) (x5_35 : Int32) (x6_36 : Int32) : Option (Int32) :=
  zb1 (zm_gI m24 12 x0 24) fun v41 =>
  if (100 * (v41 + 1)) ≤ x6_36 then (
  some x5_35)
  else (
  zb1 (zm_gR m24 12 x0 47) fun v43 =>
  zb1 (zm_aI m24 0 v43 x6_36) fun v45 =>
  zb1 (zm_gR m24 12 x0 47) fun v47 =>
  zb1 (zm_aI m24 0 v47 x6_36) fun v49 =>
  zb1 (fX12_greater m24 v45 (v8 - v49)) fun v52 =>
  zb1 (zm_gR m24 12 x0 47) fun v53 =>
  zb1 (zm_aI m24 0 v53 x5_35) fun v55 =>
  zb1 (zm_gR m24 12 x0 47) fun v57 =>
  zb1 (zm_aI m24 0 v57 x5_35) fun v59 =>
  zb1 (fX12_greater m24 v55 (v8 - v59)) fun v62 =>
  zb1 (if v62 ≤ v52 then (
  some x5_35)
  else (
  some x6_36)) fun s63 =>
  F37 s63 (x6_36 + 1))
def fX12_spot (μ : zM) (x0 : Nat) (x1 : Int32) (x2 : Int32) (x3 : Int32) : Option (Int32 × zM) := zgd (zm_ck μ 12 x0) <|
  zb1 (zm_p μ 12 x0 0 (.int 0)) fun m1 =>
  zb2 (fX12_laySight m1 x0 x1 x2) fun v5 m4 =>
  if v5 = 0 then (
  some ((-1), m4))
  else (
  zb2 (fX12_findSaid m4 x0 (-1)) fun v8 m7 =>
  if v8 = 0 then (
  some ((-1), m7))
  else (
  if x3 = 0 then (
  zb1 (zm_gI m7 12 x0 48) fun v66 =>
  zb1 (if v66 = (-2) then (
  some (-1))
  else (
  zb1 (zm_gI m7 12 x0 48) fun v70 =>
  some v70)) fun s68 =>
  some (s68, m7))
  else (
  zb1 (zf2 (fX12_spot_l55 x0) zfu 0 m7) fun m13 =>
  zb1 (zf2 (fX12_spot_l80 x0) zfu 0 m13) fun m24 =>
  zb1 (zf2 (fX12_spot_l166 m24 x0 v8) zfu 0 1) fun x5_39 =>
  some (x5_39, m24))))
theorem fX12_spot_ck {μ : zM} {x0 : Nat} {x1 : Int32} {x2 : Int32} {x3 : Int32} {z : Int32 × zM} (h : fX12_spot μ x0 x1 x2 x3 = some z) : zm_ck μ 12 x0 = true := (zgd_s h).1
set_option maxHeartbeats 4000000 in
set_option maxRecDepth 100000 in
theorem cX12_spot_ok {μ : zM} {x0 : Nat} {x1 : Int32} {x2 : Int32} {x3 : Int32} {r : Int32} {mo : zM} (hf : fX12_spot μ x0 x1 x2 x3 = some (r, mo)) : zC yX12_spot cX12_spot 7 (some .int) 6 0 0 [.ref x0, .int x1, .int x2, .int x3] μ (some (.int r)) mo := by
  replace hf := (zgd_s hf).2
  refine zC.of (by decide) (Nat.le_of_ble_eq_true rfl) (fun K hin => ?_)
  clear hin
  show zz K cX12_spot (7, RX12, some .int, 6, 0, 0, some (.int r), mo) 0 0 0 [(0, .ref x0), (1, .int x1), (2, .int x2), (3, .int x3)] [] μ
  refine zr_aload_n 0 dX12_spot_0 rfl ?_
  refine zr_iconst 0 dX12_spot_1 (by decide) ?_
  replace hf := zb1_s hf
  obtain ⟨m1, h2, hf⟩ := hf
  refine zr_put h2 zk12 (by decide) zl_788 rfl rfl rfl dX12_spot_2 ?_
  refine zr_aload_n 0 dX12_spot_5 rfl ?_
  refine zr_iload_n 1 dX12_spot_6 rfl ?_
  refine zr_iload_n 2 dX12_spot_7 rfl ?_
  replace hf := zb2_s hf
  obtain ⟨v5, m4, h3, hf⟩ := hf
  refine zr_callV (ci := 12) [.int x1, .int x2] (cX12_laySight_ok h3) zvs_X12_laySight zl_1133 zl_1134 (fX12_laySight_ck h3) rfl rfl zl_1132 rfl (Nat.le_of_ble_eq_true rfl) (Nat.le_of_ble_eq_true rfl) (Nat.le_of_ble_eq_true rfl) (Nat.le_of_ble_eq_true rfl) dX12_spot_8 rfl ?_
  refine zr_if_ne 16 dX12_spot_11 (by decide) (fun hc => ?_) (fun hc => ?_)
  · rw [if_neg hc] at hf
    refine zr_aload_n 0 dX12_spot_16 rfl ?_
    refine zr_iconst (-1) dX12_spot_17 (by decide) ?_
    replace hf := zb2_s hf
    obtain ⟨v8, m7, h6, hf⟩ := hf
    refine zr_callV (ci := 12) [.int (-1)] (cX12_findSaid_ok h6) zvs_X12_findSaid zl_1137 zl_1138 (fX12_findSaid_ck h6) rfl rfl zl_1136 rfl (Nat.le_of_ble_eq_true rfl) (Nat.le_of_ble_eq_true rfl) (Nat.le_of_ble_eq_true rfl) (Nat.le_of_ble_eq_true rfl) dX12_spot_18 rfl ?_
    refine zr_istore [(4, .int v8), (0, .ref x0), (1, .int x1), (2, .int x2), (3, .int x3)] dX12_spot_21 (Nat.le_of_ble_eq_true rfl) rfl ?_
    refine zr_iload 0 dX12_spot_23 rfl ?_
    refine zr_if_ne 30 dX12_spot_25 (by decide) (fun hc => ?_) (fun hc => ?_)
    · rw [if_neg hc] at hf
      refine zr_iload_n 4 dX12_spot_30 rfl ?_
      refine zr_if_ne 52 dX12_spot_31 (by decide) (fun hc => ?_) (fun hc => ?_)
      · rw [if_neg hc] at hf
        refine zr_iconst 0 dX12_spot_52 (by decide) ?_
        refine zr_istore [(5, .int 0), (4, .int v8), (0, .ref x0), (1, .int x1), (2, .int x2), (3, .int x3)] dX12_spot_53 (Nat.le_of_ble_eq_true rfl) rfl ?_
        replace hf := zb1_s hf
        obtain ⟨m13, hg, hf⟩ := hf
        have hj14 : zz K cX12_spot (7, RX12, some .int, 6, 0, 0, some (.int r), mo) 0 0 77 [(0, .ref x0), (4, .int v8)] [] m13 := by
          refine zr_iconst 0 dX12_spot_77 (by decide) ?_
          refine zr_istore [(5, .int 0), (0, .ref x0), (4, .int v8)] dX12_spot_78 (Nat.le_of_ble_eq_true rfl) rfl ?_
          replace hf := zb1_s hf
          obtain ⟨m24, hg, hf⟩ := hf
          have hj25 : zz K cX12_spot (7, RX12, some .int, 6, 0, 0, some (.int r), mo) 0 0 160 [(0, .ref x0), (4, .int v8)] [] m24 := by
            refine zr_iconst 0 dX12_spot_160 (by decide) ?_
            refine zr_istore [(5, .int 0), (0, .ref x0), (4, .int v8)] dX12_spot_161 (Nat.le_of_ble_eq_true rfl) rfl ?_
            refine zr_iconst 1 dX12_spot_163 (by decide) ?_
            refine zr_istore [(6, .int 1), (5, .int 0), (0, .ref x0), (4, .int v8)] dX12_spot_164 (Nat.le_of_ble_eq_true rfl) rfl ?_
            replace hf := zb1_s hf
            obtain ⟨x5_39, hg, hf⟩ := hf
            have hj40 : zz K cX12_spot (7, RX12, some .int, 6, 0, 0, some (.int r), mo) 0 0 238 [(5, .int x5_39)] [] m24 := by
              refine zr_iload 0 dX12_spot_238 rfl ?_
              cases hf
              exact zr_iret dX12_spot_240
            clear hf
            have hf := hg
            clear hg
            have hL65 : ∀ (n : Nat) (x5_35 : Int32) (x6_36 : Int32), zf2 (fX12_spot_l166 m24 x0 v8) n x5_35 x6_36 = some x5_39 → zz K cX12_spot (7, RX12, some .int, 6, 0, 0, some (.int r), mo) 0 0 166 [(0, .ref x0), (4, .int v8), (5, .int x5_35), (6, .int x6_36)] [] m24 := by
              intro n
              induction n with
              | zero => intro x5_35 x6_36 hf; cases hf
              | succ n ih38 =>
                intro x5_35 x6_36 hf
                replace hf := zf2_s hf
                generalize zf2 (fX12_spot_l166 m24 x0 v8) n = F37 at hf ih38
                unfold fX12_spot_l166 at hf
                refine zr_iload 3 dX12_spot_166 rfl ?_
                refine zr_bipush 100 dX12_spot_168 (by decide) ?_
                refine zr_aload_n 0 dX12_spot_170 rfl ?_
                replace hf := zb1_s hf
                obtain ⟨v41, h42, hf⟩ := hf
                refine zr_get (zm_gI_g h42) zk12 (by decide) zl_920 dX12_spot_171 ?_
                refine zr_iconst 1 dX12_spot_174 (by decide) ?_
                refine zr_iadd dX12_spot_175 ?_
                refine zr_imul dX12_spot_176 ?_
                refine zr_icmp_ge 238 dX12_spot_177 (by decide) (fun hc => ?_) (fun hc => ?_)
                · rw [if_pos hc] at hf
                  cases hf
                  exact zr_lv [2] rfl hj40
                · rw [if_neg hc] at hf
                  refine zr_aload_n 0 dX12_spot_180 rfl ?_
                  replace hf := zb1_s hf
                  obtain ⟨v43, h44, hf⟩ := hf
                  refine zr_get (zm_gR_g h44) zk12 (by decide) zl_775 dX12_spot_181 ?_
                  refine zr_iload 3 dX12_spot_184 rfl ?_
                  replace hf := zb1_s hf
                  obtain ⟨v45, h46, hf⟩ := hf
                  refine zr_iald h46 dX12_spot_186 ?_
                  refine zr_iload 1 dX12_spot_187 rfl ?_
                  refine zr_aload_n 0 dX12_spot_189 rfl ?_
                  replace hf := zb1_s hf
                  obtain ⟨v47, h48, hf⟩ := hf
                  refine zr_get (zm_gR_g h48) zk12 (by decide) zl_775 dX12_spot_190 ?_
                  refine zr_iload 3 dX12_spot_193 rfl ?_
                  replace hf := zb1_s hf
                  obtain ⟨v49, h50, hf⟩ := hf
                  refine zr_iald h50 dX12_spot_195 ?_
                  refine zr_isub dX12_spot_196 ?_
                  replace hf := zb1_s hf
                  obtain ⟨v52, h51, hf⟩ := hf
                  refine zr_callS [.int v45, .int (v8 - v49)] (cX12_greater_ok h51) zvs_X12_greater zl_829 zl_828 rfl (Nat.le_of_ble_eq_true rfl) (Nat.le_of_ble_eq_true rfl) (Nat.le_of_ble_eq_true rfl) (Nat.le_of_ble_eq_true rfl) dX12_spot_197 rfl ?_
                  refine zr_aload_n 0 dX12_spot_200 rfl ?_
                  replace hf := zb1_s hf
                  obtain ⟨v53, h54, hf⟩ := hf
                  refine zr_get (zm_gR_g h54) zk12 (by decide) zl_775 dX12_spot_201 ?_
                  refine zr_iload 2 dX12_spot_204 rfl ?_
                  replace hf := zb1_s hf
                  obtain ⟨v55, h56, hf⟩ := hf
                  refine zr_iald h56 dX12_spot_206 ?_
                  refine zr_iload 1 dX12_spot_207 rfl ?_
                  refine zr_aload_n 0 dX12_spot_209 rfl ?_
                  replace hf := zb1_s hf
                  obtain ⟨v57, h58, hf⟩ := hf
                  refine zr_get (zm_gR_g h58) zk12 (by decide) zl_775 dX12_spot_210 ?_
                  refine zr_iload 2 dX12_spot_213 rfl ?_
                  replace hf := zb1_s hf
                  obtain ⟨v59, h60, hf⟩ := hf
                  refine zr_iald h60 dX12_spot_215 ?_
                  refine zr_isub dX12_spot_216 ?_
                  replace hf := zb1_s hf
                  obtain ⟨v62, h61, hf⟩ := hf
                  refine zr_callS [.int v55, .int (v8 - v59)] (cX12_greater_ok h61) zvs_X12_greater zl_829 zl_828 rfl (Nat.le_of_ble_eq_true rfl) (Nat.le_of_ble_eq_true rfl) (Nat.le_of_ble_eq_true rfl) (Nat.le_of_ble_eq_true rfl) dX12_spot_217 rfl ?_
                  replace hf := zb1_s hf
                  obtain ⟨s63, hg, hf⟩ := hf
                  have hj64 : zz K cX12_spot (7, RX12, some .int, 6, 0, 0, some (.int r), mo) 0 0 230 [(0, .ref x0), (4, .int v8), (6, .int x6_36)] [.int s63] m24 := by
                    refine zr_istore [(5, .int s63), (0, .ref x0), (4, .int v8), (6, .int x6_36)] dX12_spot_230 (Nat.le_of_ble_eq_true rfl) rfl ?_
                    refine zr_iinc (j := 3) (x6_36 + 1) [(6, .int (x6_36 + 1)), (5, .int s63), (0, .ref x0), (4, .int v8)] dX12_spot_232 rfl rfl (Nat.le_of_ble_eq_true rfl) rfl ?_
                    refine zr_goto 166 dX12_spot_235 (by decide) ?_
                    exact zr_lv [2, 3, 1, 0] rfl (ih38 s63 (x6_36 + 1) hf)
                  clear hf
                  have hf := hg
                  clear hg
                  refine zr_icmp_ge 228 dX12_spot_220 (by decide) (fun hc => ?_) (fun hc => ?_)
                  · rw [if_pos hc] at hf
                    refine zr_iload 2 dX12_spot_228 rfl ?_
                    cases hf
                    exact zr_lv [0, 1, 3] rfl hj64
                  · rw [if_neg hc] at hf
                    refine zr_iload 3 dX12_spot_223 rfl ?_
                    refine zr_goto 230 dX12_spot_225 (by decide) ?_
                    cases hf
                    exact zr_lv [0, 1, 3] rfl hj64
            exact zr_lv [2, 3, 1, 0] rfl (hL65 _ 0 1 hf)
          clear hf
          have hf := hg
          clear hg
          have hL34 : ∀ (n : Nat) (x5_20 : Int32) (m21 : zM), zf2 (fX12_spot_l80 x0) n x5_20 m21 = some m24 → zz K cX12_spot (7, RX12, some .int, 6, 0, 0, some (.int r), mo) 0 0 80 [(0, .ref x0), (4, .int v8), (5, .int x5_20)] [] m21 := by
            intro n
            induction n with
            | zero => intro x5_20 m21 hf; cases hf
            | succ n ih23 =>
              intro x5_20 m21 hf
              replace hf := zf2_s hf
              generalize zf2 (fX12_spot_l80 x0) n = F22 at hf ih23
              unfold fX12_spot_l80 at hf
              refine zr_iload 2 dX12_spot_80 rfl ?_
              refine zr_sipush 1000 dX12_spot_82 (by decide) ?_
              refine zr_aload_n 0 dX12_spot_85 rfl ?_
              replace hf := zb1_s hf
              obtain ⟨v26, h27, hf⟩ := hf
              refine zr_get (zm_gI_g h27) zk12 (by decide) zl_920 dX12_spot_86 ?_
              refine zr_iconst 1 dX12_spot_89 (by decide) ?_
              refine zr_iadd dX12_spot_90 ?_
              refine zr_imul dX12_spot_91 ?_
              refine zr_icmp_ge 160 dX12_spot_92 (by decide) (fun hc => ?_) (fun hc => ?_)
              · rw [if_pos hc] at hf
                cases hf
                exact zr_lv [0, 1] rfl hj25
              · rw [if_neg hc] at hf
                refine zr_iload 2 dX12_spot_95 rfl ?_
                refine zr_bipush 10 dX12_spot_97 (by decide) ?_
                refine zr_irem dX12_spot_99 (by decide) ?_
                refine zr_bipush 8 dX12_spot_100 (by decide) ?_
                replace hf := zb1_s hf
                obtain ⟨m28, hg, hf⟩ := hf
                have hj29 : zz K cX12_spot (7, RX12, some .int, 6, 0, 0, some (.int r), mo) 0 0 154 [(0, .ref x0), (4, .int v8), (5, .int x5_20)] [] m28 := by
                  refine zr_iinc (j := 2) (x5_20 + 1) [(5, .int (x5_20 + 1)), (0, .ref x0), (4, .int v8)] dX12_spot_154 rfl rfl (Nat.le_of_ble_eq_true rfl) rfl ?_
                  refine zr_goto 80 dX12_spot_157 (by decide) ?_
                  exact zr_lv [1, 2, 0] rfl (ih23 (x5_20 + 1) m28 hf)
                clear hf
                have hf := hg
                clear hg
                refine zr_icmp_ge 154 dX12_spot_102 (by decide) (fun hc => ?_) (fun hc => ?_)
                · rw [if_pos hc] at hf
                  cases hf
                  exact zr_lv [0, 1, 2] rfl hj29
                · rw [if_neg hc] at hf
                  refine zr_aload_n 0 dX12_spot_105 rfl ?_
                  refine zr_iload 2 dX12_spot_106 rfl ?_
                  refine zr_sipush 1000 dX12_spot_108 (by decide) ?_
                  refine zr_idiv dX12_spot_111 (by decide) ?_
                  refine zr_iload 2 dX12_spot_112 rfl ?_
                  refine zr_bipush 10 dX12_spot_114 (by decide) ?_
                  refine zr_idiv dX12_spot_116 (by decide) ?_
                  refine zr_bipush 100 dX12_spot_117 (by decide) ?_
                  refine zr_irem dX12_spot_119 (by decide) ?_
                  refine zr_iload 2 dX12_spot_120 rfl ?_
                  refine zr_bipush 10 dX12_spot_122 (by decide) ?_
                  refine zr_irem dX12_spot_124 (by decide) ?_
                  replace hf := zb1_s hf
                  obtain ⟨v31, h30, hf⟩ := hf
                  refine zr_callV (ci := 12) [.int (x5_20 / 1000), .int ((x5_20 / 10) - (x5_20 / 10) / 100 * 100), .int (x5_20 - x5_20 / 10 * 10)] (cX12_isSo_ok h30) zvs_X12_isSo zl_1129 zl_1130 (fX12_isSo_ck h30) rfl rfl zl_1128 rfl (Nat.le_of_ble_eq_true rfl) (Nat.le_of_ble_eq_true rfl) (Nat.le_of_ble_eq_true rfl) (Nat.le_of_ble_eq_true rfl) dX12_spot_125 rfl ?_
                  refine zr_if_eq 154 dX12_spot_128 (by decide) (fun hc => ?_) (fun hc => ?_)
                  · rw [if_pos hc] at hf
                    cases hf
                    exact zr_lv [0, 1, 2] rfl hj29
                  · rw [if_neg hc] at hf
                    refine zr_aload_n 0 dX12_spot_131 rfl ?_
                    refine zr_iload 2 dX12_spot_132 rfl ?_
                    refine zr_sipush 1000 dX12_spot_134 (by decide) ?_
                    refine zr_idiv dX12_spot_137 (by decide) ?_
                    refine zr_iload 2 dX12_spot_138 rfl ?_
                    refine zr_bipush 10 dX12_spot_140 (by decide) ?_
                    refine zr_idiv dX12_spot_142 (by decide) ?_
                    refine zr_bipush 100 dX12_spot_143 (by decide) ?_
                    refine zr_irem dX12_spot_145 (by decide) ?_
                    refine zr_iload 2 dX12_spot_146 rfl ?_
                    refine zr_bipush 10 dX12_spot_148 (by decide) ?_
                    refine zr_irem dX12_spot_150 (by decide) ?_
                    replace hf := zb1_s hf
                    obtain ⟨m33, h32, hf⟩ := hf
                    refine zr_callV (ci := 12) [.int (x5_20 / 1000), .int ((x5_20 / 10) - (x5_20 / 10) / 100 * 100), .int (x5_20 - x5_20 / 10 * 10)] (cX12_listens_ok h32) zvs_X12_listens zl_1141 zl_1142 (fX12_listens_ck h32) rfl rfl zl_1140 rfl (Nat.le_of_ble_eq_true rfl) (Nat.le_of_ble_eq_true rfl) (Nat.le_of_ble_eq_true rfl) (Nat.le_of_ble_eq_true rfl) dX12_spot_151 rfl ?_
                    cases hf
                    exact zr_lv [0, 1, 2] rfl hj29
          exact zr_lv [1, 2, 0] rfl (hL34 _ 0 m13 hf)
        clear hf
        have hf := hg
        clear hg
        have hL19 : ∀ (n : Nat) (x5_9 : Int32) (m10 : zM), zf2 (fX12_spot_l55 x0) n x5_9 m10 = some m13 → zz K cX12_spot (7, RX12, some .int, 6, 0, 0, some (.int r), mo) 0 0 55 [(0, .ref x0), (4, .int v8), (5, .int x5_9)] [] m10 := by
          intro n
          induction n with
          | zero => intro x5_9 m10 hf; cases hf
          | succ n ih12 =>
            intro x5_9 m10 hf
            replace hf := zf2_s hf
            generalize zf2 (fX12_spot_l55 x0) n = F11 at hf ih12
            unfold fX12_spot_l55 at hf
            refine zr_iload 2 dX12_spot_55 rfl ?_
            refine zr_sipush 3100 dX12_spot_57 (by decide) ?_
            refine zr_icmp_ge 77 dX12_spot_60 (by decide) (fun hc => ?_) (fun hc => ?_)
            · rw [if_pos hc] at hf
              cases hf
              exact zr_lv [0, 1] rfl hj14
            · rw [if_neg hc] at hf
              refine zr_aload_n 0 dX12_spot_63 rfl ?_
              replace hf := zb1_s hf
              obtain ⟨v15, h16, hf⟩ := hf
              refine zr_get (zm_gR_g h16) zk12 (by decide) zl_775 dX12_spot_64 ?_
              refine zr_iload 2 dX12_spot_67 rfl ?_
              refine zr_iconst 0 dX12_spot_69 (by decide) ?_
              replace hf := zb1_s hf
              obtain ⟨m17, h18, hf⟩ := hf
              refine zr_iast h18 dX12_spot_70 ?_
              refine zr_iinc (j := 2) (x5_9 + 1) [(5, .int (x5_9 + 1)), (0, .ref x0), (4, .int v8)] dX12_spot_71 rfl rfl (Nat.le_of_ble_eq_true rfl) rfl ?_
              refine zr_goto 55 dX12_spot_74 (by decide) ?_
              exact zr_lv [1, 2, 0] rfl (ih12 (x5_9 + 1) m17 hf)
        exact zr_lv [2, 1, 0] rfl (hL19 _ 0 m7 hf)
      · rw [if_pos hc] at hf
        refine zr_aload_n 1 dX12_spot_34 rfl ?_
        replace hf := zb1_s hf
        obtain ⟨v66, h67, hf⟩ := hf
        refine zr_get (zm_gI_g h67) zk12 (by decide) zl_1126 dX12_spot_35 ?_
        refine zr_bipush (-2) dX12_spot_38 (by decide) ?_
        replace hf := zb1_s hf
        obtain ⟨s68, hg, hf⟩ := hf
        have hj69 : zz K cX12_spot (7, RX12, some .int, 6, 0, 0, some (.int r), mo) 0 0 51 [] [.int s68] m7 := by
          cases hf
          exact zr_iret dX12_spot_51
        clear hf
        have hf := hg
        clear hg
        refine zr_icmp_ne 47 dX12_spot_40 (by decide) (fun hc => ?_) (fun hc => ?_)
        · rw [if_neg hc] at hf
          refine zr_aload_n 1 dX12_spot_47 rfl ?_
          replace hf := zb1_s hf
          obtain ⟨v70, h71, hf⟩ := hf
          refine zr_get (zm_gI_g h71) zk12 (by decide) zl_1126 dX12_spot_48 ?_
          cases hf
          exact zr_lv [] rfl hj69
        · rw [if_pos hc] at hf
          refine zr_iconst (-1) dX12_spot_43 (by decide) ?_
          refine zr_goto 51 dX12_spot_44 (by decide) ?_
          cases hf
          exact zr_lv [] rfl hj69
    · rw [if_pos hc] at hf
      refine zr_iconst (-1) dX12_spot_28 (by decide) ?_
      cases hf
      exact zr_iret dX12_spot_29
  · rw [if_pos hc] at hf
    refine zr_iconst (-1) dX12_spot_14 (by decide) ?_
    cases hf
    exact zr_iret dX12_spot_15
theorem zl_1143 : Cond.fieldLink RX12 480 "TwoEchoesModel" "seed" "I" ∈ zt := zt_at 1390 (by decide +kernel)
theorem zl_1144 : Cond.constant RX12 483 1103515245 ∈ zt := zt_at 1937 (by decide +kernel)
theorem dX12_draw_0 : decode cX12_draw 0 = .ok (.aload_n 0, 1) := by decide +kernel
theorem dX12_draw_1 : decode cX12_draw 1 = .ok (.aload_n 0, 1) := by decide +kernel
theorem dX12_draw_2 : decode cX12_draw 2 = .ok (.getfield 480, 3) := by decide +kernel
theorem dX12_draw_5 : decode cX12_draw 5 = .ok (.ldc_w 483, 3) := by decide +kernel
theorem dX12_draw_8 : decode cX12_draw 8 = .ok (.imul, 1) := by decide +kernel
theorem dX12_draw_9 : decode cX12_draw 9 = .ok (.sipush 12345, 3) := by decide +kernel
theorem dX12_draw_12 : decode cX12_draw 12 = .ok (.iadd, 1) := by decide +kernel
theorem dX12_draw_13 : decode cX12_draw 13 = .ok (.putfield 480, 3) := by decide +kernel
theorem dX12_draw_16 : decode cX12_draw 16 = .ok (.aload_n 0, 1) := by decide +kernel
theorem dX12_draw_17 : decode cX12_draw 17 = .ok (.getfield 480, 3) := by decide +kernel
theorem dX12_draw_20 : decode cX12_draw 20 = .ok (.bipush 16, 2) := by decide +kernel
theorem dX12_draw_22 : decode cX12_draw 22 = .ok (.iushr, 1) := by decide +kernel
theorem dX12_draw_23 : decode cX12_draw 23 = .ok (.iload_n 1, 1) := by decide +kernel
theorem dX12_draw_24 : decode cX12_draw 24 = .ok (.irem, 1) := by decide +kernel
theorem dX12_draw_25 : decode cX12_draw 25 = .ok (.ireturn, 1) := by decide +kernel
def fX12_draw (μ : zM) (x0 : Nat) (x1 : Int32) : Option (Int32 × zM) := zgd (zm_ck μ 12 x0) <|
  zb1 (zm_gI μ 12 x0 49) fun v1 =>
  zb1 (zm_p μ 12 x0 49 (.int ((v1 * 1103515245) + 12345))) fun m3 =>
  zb1 (zm_gI m3 12 x0 49) fun v5 =>
  zni (x1 = 0) <|
  some ((((v5 : Int32).toUInt32 >>> ((16 : Int32).toUInt32 &&& Int32.toUInt32 31)).toInt32) - (((v5 : Int32).toUInt32 >>> ((16 : Int32).toUInt32 &&& Int32.toUInt32 31)).toInt32) / x1 * x1, m3)
theorem fX12_draw_ck {μ : zM} {x0 : Nat} {x1 : Int32} {z : Int32 × zM} (h : fX12_draw μ x0 x1 = some z) : zm_ck μ 12 x0 = true := (zgd_s h).1
set_option maxHeartbeats 4000000 in
set_option maxRecDepth 100000 in
theorem cX12_draw_ok {μ : zM} {x0 : Nat} {x1 : Int32} {r : Int32} {mo : zM} (hf : fX12_draw μ x0 x1 = some (r, mo)) : zC yX12_draw cX12_draw 2 (some .int) 0 0 0 [.ref x0, .int x1] μ (some (.int r)) mo := by
  replace hf := (zgd_s hf).2
  refine zC.of (by decide) (Nat.le_of_ble_eq_true rfl) (fun K hin => ?_)
  clear hin
  show zz K cX12_draw (2, RX12, some .int, 0, 0, 0, some (.int r), mo) 0 0 0 [(0, .ref x0), (1, .int x1)] [] μ
  refine zr_aload_n 0 dX12_draw_0 rfl ?_
  refine zr_aload_n 0 dX12_draw_1 rfl ?_
  replace hf := zb1_s hf
  obtain ⟨v1, h2, hf⟩ := hf
  refine zr_get (zm_gI_g h2) zk12 (by decide) zl_1143 dX12_draw_2 ?_
  refine zr_ldcw zl_1144 dX12_draw_5 ?_
  refine zr_imul dX12_draw_8 ?_
  refine zr_sipush 12345 dX12_draw_9 (by decide) ?_
  refine zr_iadd dX12_draw_12 ?_
  replace hf := zb1_s hf
  obtain ⟨m3, h4, hf⟩ := hf
  refine zr_put h4 zk12 (by decide) zl_1143 rfl rfl rfl dX12_draw_13 ?_
  refine zr_aload_n 0 dX12_draw_16 rfl ?_
  replace hf := zb1_s hf
  obtain ⟨v5, h6, hf⟩ := hf
  refine zr_get (zm_gI_g h6) zk12 (by decide) zl_1143 dX12_draw_17 ?_
  refine zr_bipush 16 dX12_draw_20 (by decide) ?_
  refine zr_iushr dX12_draw_22 ?_
  refine zr_iload_n 1 dX12_draw_23 rfl ?_
  replace hf := zni_s hf
  obtain ⟨hn7, hf⟩ := hf
  refine zr_irem dX12_draw_24 hn7 ?_
  cases hf
  exact zr_iret dX12_draw_25
theorem zl_1145 : Cond.code yX12_draw cX12_draw 2 (some .int) ∈ zt := zt_at 1936 (by decide +kernel)
theorem zvs_X12_draw : zvS yX12_draw cX12_draw 2 (some .int) 1 := ⟨zl_1145, zl_782, ⟨by decide +kernel, by decide +kernel, by decide +kernel⟩, by decide⟩
theorem zl_1146 : Cond.methodLink RX12 484 yX12_draw ∈ zt := zt_at 1933 (by decide +kernel)
theorem zl_1147 : Cond.instanceMethod yX12_draw ∈ zt := zt_at 1935 (by decide +kernel)
theorem zl_1148 : Cond.selects RX12 yX12_draw yX12_draw ∈ zt := zt_at 117 (by decide +kernel)
theorem dX12_drawDeed_0 : decode cX12_drawDeed 0 = .ok (.aload_n 0, 1) := by decide +kernel
theorem dX12_drawDeed_1 : decode cX12_drawDeed 1 = .ok (.aload_n 0, 1) := by decide +kernel
theorem dX12_drawDeed_2 : decode cX12_drawDeed 2 = .ok (.getfield 276, 3) := by decide +kernel
theorem dX12_drawDeed_5 : decode cX12_drawDeed 5 = .ok (.invokevirtual 484, 3) := by decide +kernel
theorem dX12_drawDeed_8 : decode cX12_drawDeed 8 = .ok (.istore_n 1, 1) := by decide +kernel
theorem dX12_drawDeed_9 : decode cX12_drawDeed 9 = .ok (.aload_n 0, 1) := by decide +kernel
theorem dX12_drawDeed_10 : decode cX12_drawDeed 10 = .ok (.bipush 6, 2) := by decide +kernel
theorem dX12_drawDeed_12 : decode cX12_drawDeed 12 = .ok (.invokevirtual 484, 3) := by decide +kernel
theorem dX12_drawDeed_15 : decode cX12_drawDeed 15 = .ok (.istore_n 2, 1) := by decide +kernel
theorem dX12_drawDeed_16 : decode cX12_drawDeed 16 = .ok (.iload_n 2, 1) := by decide +kernel
theorem dX12_drawDeed_17 : decode cX12_drawDeed 17 = .ok (.iconst 2, 1) := by decide +kernel
theorem dX12_drawDeed_18 : decode cX12_drawDeed 18 = .ok (.if_icmp .gt 18, 3) := by decide +kernel
theorem dX12_drawDeed_21 : decode cX12_drawDeed 21 = .ok (.aload_n 0, 1) := by decide +kernel
theorem dX12_drawDeed_22 : decode cX12_drawDeed 22 = .ok (.iload_n 1, 1) := by decide +kernel
theorem dX12_drawDeed_23 : decode cX12_drawDeed 23 = .ok (.aload_n 0, 1) := by decide +kernel
theorem dX12_drawDeed_24 : decode cX12_drawDeed 24 = .ok (.bipush 8, 2) := by decide +kernel
theorem dX12_drawDeed_26 : decode cX12_drawDeed 26 = .ok (.invokevirtual 484, 3) := by decide +kernel
theorem dX12_drawDeed_29 : decode cX12_drawDeed 29 = .ok (.iload_n 2, 1) := by decide +kernel
theorem dX12_drawDeed_30 : decode cX12_drawDeed 30 = .ok (.invokevirtual 344, 3) := by decide +kernel
theorem dX12_drawDeed_33 : decode cX12_drawDeed 33 = .ok (.goto 40, 3) := by decide +kernel
theorem dX12_drawDeed_36 : decode cX12_drawDeed 36 = .ok (.iload_n 2, 1) := by decide +kernel
theorem dX12_drawDeed_37 : decode cX12_drawDeed 37 = .ok (.iconst 5, 1) := by decide +kernel
theorem dX12_drawDeed_38 : decode cX12_drawDeed 38 = .ok (.if_icmp .ge 22, 3) := by decide +kernel
theorem dX12_drawDeed_41 : decode cX12_drawDeed 41 = .ok (.aload_n 0, 1) := by decide +kernel
theorem dX12_drawDeed_42 : decode cX12_drawDeed 42 = .ok (.iload_n 1, 1) := by decide +kernel
theorem dX12_drawDeed_43 : decode cX12_drawDeed 43 = .ok (.aload_n 0, 1) := by decide +kernel
theorem dX12_drawDeed_44 : decode cX12_drawDeed 44 = .ok (.aload_n 0, 1) := by decide +kernel
theorem dX12_drawDeed_45 : decode cX12_drawDeed 45 = .ok (.getfield 273, 3) := by decide +kernel
theorem dX12_drawDeed_48 : decode cX12_drawDeed 48 = .ok (.iconst 1, 1) := by decide +kernel
theorem dX12_drawDeed_49 : decode cX12_drawDeed 49 = .ok (.iadd, 1) := by decide +kernel
theorem dX12_drawDeed_50 : decode cX12_drawDeed 50 = .ok (.invokevirtual 484, 3) := by decide +kernel
theorem dX12_drawDeed_53 : decode cX12_drawDeed 53 = .ok (.invokevirtual 341, 3) := by decide +kernel
theorem dX12_drawDeed_56 : decode cX12_drawDeed 56 = .ok (.pop, 1) := by decide +kernel
theorem dX12_drawDeed_57 : decode cX12_drawDeed 57 = .ok (.goto 16, 3) := by decide +kernel
theorem dX12_drawDeed_60 : decode cX12_drawDeed 60 = .ok (.aload_n 0, 1) := by decide +kernel
theorem dX12_drawDeed_61 : decode cX12_drawDeed 61 = .ok (.iconst 1, 1) := by decide +kernel
theorem dX12_drawDeed_62 : decode cX12_drawDeed 62 = .ok (.aload_n 0, 1) := by decide +kernel
theorem dX12_drawDeed_63 : decode cX12_drawDeed 63 = .ok (.bipush 9, 2) := by decide +kernel
theorem dX12_drawDeed_65 : decode cX12_drawDeed 65 = .ok (.invokevirtual 484, 3) := by decide +kernel
theorem dX12_drawDeed_68 : decode cX12_drawDeed 68 = .ok (.iadd, 1) := by decide +kernel
theorem dX12_drawDeed_69 : decode cX12_drawDeed 69 = .ok (.invokevirtual 338, 3) := by decide +kernel
theorem dX12_drawDeed_72 : decode cX12_drawDeed 72 = .ok (.pop, 1) := by decide +kernel
theorem dX12_drawDeed_73 : decode cX12_drawDeed 73 = .ok (.return_, 1) := by decide +kernel
def fX12_drawDeed (μ : zM) (x0 : Nat) : Option (zM) := zgd (zm_ck μ 12 x0) <|
  zb1 (zm_gI μ 12 x0 25) fun v1 =>
  zb2 (fX12_draw μ x0 v1) fun v5 m4 =>
  zb2 (fX12_draw m4 x0 6) fun v8 m7 =>
  zb1 (if 2 < v8 then (
  if 5 ≤ v8 then (
  zb2 (fX12_draw m7 x0 9) fun v13 m12 =>
  zb2 (fX12_waits m12 x0 (1 + v13)) fun v16 m15 =>
  some m15)
  else (
  zb1 (zm_gI m7 12 x0 24) fun v17 =>
  zb2 (fX12_draw m7 x0 (v17 + 1)) fun v21 m20 =>
  zb2 (fX12_walks m20 x0 v5 v21) fun v24 m23 =>
  some m23))
  else (
  zb2 (fX12_draw m7 x0 8) fun v27 m26 =>
  zb1 (fX12_says m26 x0 v5 v27 v8) fun m29 =>
  some m29)) fun m9 =>
  some m9
theorem fX12_drawDeed_ck {μ : zM} {x0 : Nat} {z : zM} (h : fX12_drawDeed μ x0 = some z) : zm_ck μ 12 x0 = true := (zgd_s h).1
set_option maxHeartbeats 4000000 in
set_option maxRecDepth 100000 in
theorem cX12_drawDeed_ok {μ : zM} {x0 : Nat} {mo : zM} (hf : fX12_drawDeed μ x0 = some mo) : zC yX12_drawDeed cX12_drawDeed 3 (none) 3 0 0 [.ref x0] μ (none) mo := by
  replace hf := (zgd_s hf).2
  refine zC.of (by decide) (Nat.le_of_ble_eq_true rfl) (fun K hin => ?_)
  clear hin
  show zz K cX12_drawDeed (3, RX12, none, 3, 0, 0, none, mo) 0 0 0 [(0, .ref x0)] [] μ
  refine zr_aload_n 0 dX12_drawDeed_0 rfl ?_
  refine zr_aload_n 0 dX12_drawDeed_1 rfl ?_
  replace hf := zb1_s hf
  obtain ⟨v1, h2, hf⟩ := hf
  refine zr_get (zm_gI_g h2) zk12 (by decide) zl_921 dX12_drawDeed_2 ?_
  replace hf := zb2_s hf
  obtain ⟨v5, m4, h3, hf⟩ := hf
  refine zr_callV (ci := 12) [.int v1] (cX12_draw_ok h3) zvs_X12_draw zl_1147 zl_1148 (fX12_draw_ck h3) rfl rfl zl_1146 rfl (Nat.le_of_ble_eq_true rfl) (Nat.le_of_ble_eq_true rfl) (Nat.le_of_ble_eq_true rfl) (Nat.le_of_ble_eq_true rfl) dX12_drawDeed_5 rfl ?_
  refine zr_istore_n [(1, .int v5), (0, .ref x0)] dX12_drawDeed_8 (Nat.le_of_ble_eq_true rfl) rfl ?_
  refine zr_aload_n 1 dX12_drawDeed_9 rfl ?_
  refine zr_bipush 6 dX12_drawDeed_10 (by decide) ?_
  replace hf := zb2_s hf
  obtain ⟨v8, m7, h6, hf⟩ := hf
  refine zr_callV (ci := 12) [.int 6] (cX12_draw_ok h6) zvs_X12_draw zl_1147 zl_1148 (fX12_draw_ck h6) rfl rfl zl_1146 rfl (Nat.le_of_ble_eq_true rfl) (Nat.le_of_ble_eq_true rfl) (Nat.le_of_ble_eq_true rfl) (Nat.le_of_ble_eq_true rfl) dX12_drawDeed_12 rfl ?_
  refine zr_istore_n [(2, .int v8), (1, .int v5), (0, .ref x0)] dX12_drawDeed_15 (Nat.le_of_ble_eq_true rfl) rfl ?_
  refine zr_iload_n 0 dX12_drawDeed_16 rfl ?_
  refine zr_iconst 2 dX12_drawDeed_17 (by decide) ?_
  replace hf := zb1_s hf
  obtain ⟨m9, hg, hf⟩ := hf
  have hj10 : zz K cX12_drawDeed (3, RX12, none, 3, 0, 0, none, mo) 0 0 73 [] [] m9 := by
    cases hf
    exact zr_vret dX12_drawDeed_73
  clear hf
  have hf := hg
  clear hg
  refine zr_icmp_gt 36 dX12_drawDeed_18 (by decide) (fun hc => ?_) (fun hc => ?_)
  · rw [if_pos hc] at hf
    refine zr_iload_n 0 dX12_drawDeed_36 rfl ?_
    refine zr_iconst 5 dX12_drawDeed_37 (by decide) ?_
    refine zr_icmp_ge 60 dX12_drawDeed_38 (by decide) (fun hc => ?_) (fun hc => ?_)
    · rw [if_pos hc] at hf
      refine zr_aload_n 2 dX12_drawDeed_60 rfl ?_
      refine zr_iconst 1 dX12_drawDeed_61 (by decide) ?_
      refine zr_aload_n 2 dX12_drawDeed_62 rfl ?_
      refine zr_bipush 9 dX12_drawDeed_63 (by decide) ?_
      replace hf := zb2_s hf
      obtain ⟨v13, m12, h11, hf⟩ := hf
      refine zr_callV (ci := 12) [.int 9] (cX12_draw_ok h11) zvs_X12_draw zl_1147 zl_1148 (fX12_draw_ck h11) rfl rfl zl_1146 rfl (Nat.le_of_ble_eq_true rfl) (Nat.le_of_ble_eq_true rfl) (Nat.le_of_ble_eq_true rfl) (Nat.le_of_ble_eq_true rfl) dX12_drawDeed_65 rfl ?_
      refine zr_iadd dX12_drawDeed_68 ?_
      replace hf := zb2_s hf
      obtain ⟨v16, m15, h14, hf⟩ := hf
      refine zr_callV (ci := 12) [.int (1 + v13)] (cX12_waits_ok h14) zvs_X12_waits zl_996 zl_997 (fX12_waits_ck h14) rfl rfl zl_995 rfl (Nat.le_of_ble_eq_true rfl) (Nat.le_of_ble_eq_true rfl) (Nat.le_of_ble_eq_true rfl) (Nat.le_of_ble_eq_true rfl) dX12_drawDeed_69 rfl ?_
      refine zr_pop dX12_drawDeed_72 rfl ?_
      cases hf
      exact zr_lv [] rfl hj10
    · rw [if_neg hc] at hf
      refine zr_aload_n 2 dX12_drawDeed_41 rfl ?_
      refine zr_iload_n 1 dX12_drawDeed_42 rfl ?_
      refine zr_aload_n 2 dX12_drawDeed_43 rfl ?_
      refine zr_aload_n 2 dX12_drawDeed_44 rfl ?_
      replace hf := zb1_s hf
      obtain ⟨v17, h18, hf⟩ := hf
      refine zr_get (zm_gI_g h18) zk12 (by decide) zl_920 dX12_drawDeed_45 ?_
      refine zr_iconst 1 dX12_drawDeed_48 (by decide) ?_
      refine zr_iadd dX12_drawDeed_49 ?_
      replace hf := zb2_s hf
      obtain ⟨v21, m20, h19, hf⟩ := hf
      refine zr_callV (ci := 12) [.int (v17 + 1)] (cX12_draw_ok h19) zvs_X12_draw zl_1147 zl_1148 (fX12_draw_ck h19) rfl rfl zl_1146 rfl (Nat.le_of_ble_eq_true rfl) (Nat.le_of_ble_eq_true rfl) (Nat.le_of_ble_eq_true rfl) (Nat.le_of_ble_eq_true rfl) dX12_drawDeed_50 rfl ?_
      replace hf := zb2_s hf
      obtain ⟨v24, m23, h22, hf⟩ := hf
      refine zr_callV (ci := 12) [.int v5, .int v21] (cX12_walks_ok h22) zvs_X12_walks zl_992 zl_993 (fX12_walks_ck h22) rfl rfl zl_991 rfl (Nat.le_of_ble_eq_true rfl) (Nat.le_of_ble_eq_true rfl) (Nat.le_of_ble_eq_true rfl) (Nat.le_of_ble_eq_true rfl) dX12_drawDeed_53 rfl ?_
      refine zr_pop dX12_drawDeed_56 rfl ?_
      refine zr_goto 73 dX12_drawDeed_57 (by decide) ?_
      cases hf
      exact zr_lv [] rfl hj10
  · rw [if_neg hc] at hf
    refine zr_aload_n 2 dX12_drawDeed_21 rfl ?_
    refine zr_iload_n 1 dX12_drawDeed_22 rfl ?_
    refine zr_aload_n 2 dX12_drawDeed_23 rfl ?_
    refine zr_bipush 8 dX12_drawDeed_24 (by decide) ?_
    replace hf := zb2_s hf
    obtain ⟨v27, m26, h25, hf⟩ := hf
    refine zr_callV (ci := 12) [.int 8] (cX12_draw_ok h25) zvs_X12_draw zl_1147 zl_1148 (fX12_draw_ck h25) rfl rfl zl_1146 rfl (Nat.le_of_ble_eq_true rfl) (Nat.le_of_ble_eq_true rfl) (Nat.le_of_ble_eq_true rfl) (Nat.le_of_ble_eq_true rfl) dX12_drawDeed_26 rfl ?_
    refine zr_iload_n 0 dX12_drawDeed_29 rfl ?_
    replace hf := zb1_s hf
    obtain ⟨m29, h28, hf⟩ := hf
    refine zr_callV (ci := 12) [.int v5, .int v27, .int v8] (cX12_says_ok h28) zvs_X12_says zl_988 zl_989 (fX12_says_ck h28) rfl rfl zl_987 rfl (Nat.le_of_ble_eq_true rfl) (Nat.le_of_ble_eq_true rfl) (Nat.le_of_ble_eq_true rfl) (Nat.le_of_ble_eq_true rfl) dX12_drawDeed_30 rfl ?_
    refine zr_goto 73 dX12_drawDeed_33 (by decide) ?_
    cases hf
    exact zr_lv [] rfl hj10
theorem zl_1149 : Cond.code yX12_drawDeed cX12_drawDeed 3 (none) ∈ zt := zt_at 1932 (by decide +kernel)
theorem zvs_X12_drawDeed : zvS yX12_drawDeed cX12_drawDeed 3 (none) 0 := ⟨zl_1149, zl_782, ⟨by decide +kernel, by decide +kernel, by decide +kernel⟩, by decide⟩
theorem zl_1150 : Cond.methodLink RX12 487 yX12_drawDeed ∈ zt := zt_at 1929 (by decide +kernel)
theorem zl_1151 : Cond.instanceMethod yX12_drawDeed ∈ zt := zt_at 1931 (by decide +kernel)
theorem zl_1152 : Cond.selects RX12 yX12_drawDeed yX12_drawDeed ∈ zt := zt_at 116 (by decide +kernel)
theorem dX12_drawn_0 : decode cX12_drawn 0 = .ok (.aload_n 0, 1) := by decide +kernel
theorem dX12_drawn_1 : decode cX12_drawn 1 = .ok (.iconst 0, 1) := by decide +kernel
theorem dX12_drawn_2 : decode cX12_drawn 2 = .ok (.putfield 93, 3) := by decide +kernel
theorem dX12_drawn_5 : decode cX12_drawn 5 = .ok (.iload_n 3, 1) := by decide +kernel
theorem dX12_drawn_6 : decode cX12_drawn 6 = .ok (.iconst 0, 1) := by decide +kernel
theorem dX12_drawn_7 : decode cX12_drawn 7 = .ok (.bipush 60, 2) := by decide +kernel
theorem dX12_drawn_9 : decode cX12_drawn 9 = .ok (.invokestatic 101, 3) := by decide +kernel
theorem dX12_drawn_12 : decode cX12_drawn 12 = .ok (.ifCond .eq 18, 3) := by decide +kernel
theorem dX12_drawn_15 : decode cX12_drawn 15 = .ok (.aload_n 0, 1) := by decide +kernel
theorem dX12_drawn_16 : decode cX12_drawn 16 = .ok (.iload_n 1, 1) := by decide +kernel
theorem dX12_drawn_17 : decode cX12_drawn 17 = .ok (.invokevirtual 298, 3) := by decide +kernel
theorem dX12_drawn_20 : decode cX12_drawn 20 = .ok (.ifCond .eq 10, 3) := by decide +kernel
theorem dX12_drawn_23 : decode cX12_drawn 23 = .ok (.aload_n 0, 1) := by decide +kernel
theorem dX12_drawn_24 : decode cX12_drawn 24 = .ok (.getfield 276, 3) := by decide +kernel
theorem dX12_drawn_27 : decode cX12_drawn 27 = .ok (.ifCond .ne 6, 3) := by decide +kernel
theorem dX12_drawn_30 : decode cX12_drawn 30 = .ok (.bipush (-2), 2) := by decide +kernel
theorem dX12_drawn_32 : decode cX12_drawn 32 = .ok (.ireturn, 1) := by decide +kernel
theorem dX12_drawn_33 : decode cX12_drawn 33 = .ok (.aload_n 0, 1) := by decide +kernel
theorem dX12_drawn_34 : decode cX12_drawn 34 = .ok (.iload_n 2, 1) := by decide +kernel
theorem dX12_drawn_35 : decode cX12_drawn 35 = .ok (.putfield 480, 3) := by decide +kernel
theorem dX12_drawn_38 : decode cX12_drawn 38 = .ok (.aload_n 0, 1) := by decide +kernel
theorem dX12_drawn_39 : decode cX12_drawn 39 = .ok (.invokevirtual 347, 3) := by decide +kernel
theorem dX12_drawn_42 : decode cX12_drawn 42 = .ok (.iconst 0, 1) := by decide +kernel
theorem dX12_drawn_43 : decode cX12_drawn 43 = .ok (.istore 5, 2) := by decide +kernel
theorem dX12_drawn_45 : decode cX12_drawn 45 = .ok (.iload 5, 2) := by decide +kernel
theorem dX12_drawn_47 : decode cX12_drawn 47 = .ok (.iload_n 3, 1) := by decide +kernel
theorem dX12_drawn_48 : decode cX12_drawn 48 = .ok (.if_icmp .ge 13, 3) := by decide +kernel
theorem dX12_drawn_51 : decode cX12_drawn 51 = .ok (.aload_n 0, 1) := by decide +kernel
theorem dX12_drawn_52 : decode cX12_drawn 52 = .ok (.invokevirtual 487, 3) := by decide +kernel
theorem dX12_drawn_55 : decode cX12_drawn 55 = .ok (.iinc 5 1, 3) := by decide +kernel
theorem dX12_drawn_58 : decode cX12_drawn 58 = .ok (.goto (-13), 3) := by decide +kernel
theorem dX12_drawn_61 : decode cX12_drawn 61 = .ok (.aload_n 0, 1) := by decide +kernel
theorem dX12_drawn_62 : decode cX12_drawn 62 = .ok (.iload 4, 2) := by decide +kernel
theorem dX12_drawn_64 : decode cX12_drawn 64 = .ok (.invokevirtual 377, 3) := by decide +kernel
theorem dX12_drawn_67 : decode cX12_drawn 67 = .ok (.ireturn, 1) := by decide +kernel
def fX12_drawn_l45 (x3 : Int32) (x0 : Nat) (F16 : Int32 → zM → Option (zM)) (x5_14 : Int32) (m15 : zM) : Option (zM) :=
  if x3 ≤ x5_14 then (
  some m15)
  else (
  zb1 (fX12_drawDeed m15 x0) fun m21 =>
  F16 (x5_14 + 1) m21)
def fX12_drawn (μ : zM) (x0 : Nat) (x1 : Int32) (x2 : Int32) (x3 : Int32) (x4 : Int32) : Option (Int32 × zM) := zgd (zm_ck μ 12 x0) <|
  zb1 (zm_p μ 12 x0 0 (.int 0)) fun m1 =>
  zb1 (fX12_in m1 x3 0 60) fun v4 =>
  if v4 = 0 then (
  some ((-2), m1))
  else (
  zb2 (fX12_hand m1 x0 x1) fun v7 m6 =>
  if v7 = 0 then (
  some ((-2), m6))
  else (
  zb1 (zm_gI m6 12 x0 25) fun v8 =>
  if v8 = 0 then (
  some ((-2), m6))
  else (
  zb1 (zm_p m6 12 x0 49 (.int x2)) fun m10 =>
  zb1 (fX12_begin m10 x0) fun m13 =>
  zb1 (zf2 (fX12_drawn_l45 x3 x0) zfu 0 m13) fun m18 =>
  zb2 (fX12_ofState m18 x0 x4) fun v25 m24 =>
  some (v25, m24))))
theorem fX12_drawn_ck {μ : zM} {x0 : Nat} {x1 : Int32} {x2 : Int32} {x3 : Int32} {x4 : Int32} {z : Int32 × zM} (h : fX12_drawn μ x0 x1 x2 x3 x4 = some z) : zm_ck μ 12 x0 = true := (zgd_s h).1
set_option maxHeartbeats 4000000 in
set_option maxRecDepth 100000 in
theorem cX12_drawn_ok {μ : zM} {x0 : Nat} {x1 : Int32} {x2 : Int32} {x3 : Int32} {x4 : Int32} {r : Int32} {mo : zM} (hf : fX12_drawn μ x0 x1 x2 x3 x4 = some (r, mo)) : zC yX12_drawn cX12_drawn 6 (some .int) 7 0 0 [.ref x0, .int x1, .int x2, .int x3, .int x4] μ (some (.int r)) mo := by
  replace hf := (zgd_s hf).2
  refine zC.of (by decide) (Nat.le_of_ble_eq_true rfl) (fun K hin => ?_)
  clear hin
  show zz K cX12_drawn (6, RX12, some .int, 7, 0, 0, some (.int r), mo) 0 0 0 [(0, .ref x0), (1, .int x1), (2, .int x2), (3, .int x3), (4, .int x4)] [] μ
  refine zr_aload_n 0 dX12_drawn_0 rfl ?_
  refine zr_iconst 0 dX12_drawn_1 (by decide) ?_
  replace hf := zb1_s hf
  obtain ⟨m1, h2, hf⟩ := hf
  refine zr_put h2 zk12 (by decide) zl_788 rfl rfl rfl dX12_drawn_2 ?_
  refine zr_iload_n 3 dX12_drawn_5 rfl ?_
  refine zr_iconst 0 dX12_drawn_6 (by decide) ?_
  refine zr_bipush 60 dX12_drawn_7 (by decide) ?_
  replace hf := zb1_s hf
  obtain ⟨v4, h3, hf⟩ := hf
  refine zr_callS [.int x3, .int 0, .int 60] (cX12_in_ok h3) zvs_X12_in zl_787 zl_786 rfl (Nat.le_of_ble_eq_true rfl) (Nat.le_of_ble_eq_true rfl) (Nat.le_of_ble_eq_true rfl) (Nat.le_of_ble_eq_true rfl) dX12_drawn_9 rfl ?_
  refine zr_if_eq 30 dX12_drawn_12 (by decide) (fun hc => ?_) (fun hc => ?_)
  · rw [if_pos hc] at hf
    refine zr_bipush (-2) dX12_drawn_30 (by decide) ?_
    cases hf
    exact zr_iret dX12_drawn_32
  · rw [if_neg hc] at hf
    refine zr_aload_n 0 dX12_drawn_15 rfl ?_
    refine zr_iload_n 1 dX12_drawn_16 rfl ?_
    replace hf := zb2_s hf
    obtain ⟨v7, m6, h5, hf⟩ := hf
    refine zr_callV (ci := 12) [.int x1] (cX12_hand_ok h5) zvs_X12_hand zl_946 zl_947 (fX12_hand_ck h5) rfl rfl zl_945 rfl (Nat.le_of_ble_eq_true rfl) (Nat.le_of_ble_eq_true rfl) (Nat.le_of_ble_eq_true rfl) (Nat.le_of_ble_eq_true rfl) dX12_drawn_17 rfl ?_
    refine zr_if_eq 30 dX12_drawn_20 (by decide) (fun hc => ?_) (fun hc => ?_)
    · rw [if_pos hc] at hf
      refine zr_bipush (-2) dX12_drawn_30 (by decide) ?_
      cases hf
      exact zr_iret dX12_drawn_32
    · rw [if_neg hc] at hf
      refine zr_aload_n 0 dX12_drawn_23 rfl ?_
      replace hf := zb1_s hf
      obtain ⟨v8, h9, hf⟩ := hf
      refine zr_get (zm_gI_g h9) zk12 (by decide) zl_921 dX12_drawn_24 ?_
      refine zr_if_ne 33 dX12_drawn_27 (by decide) (fun hc => ?_) (fun hc => ?_)
      · rw [if_neg hc] at hf
        refine zr_aload_n 0 dX12_drawn_33 rfl ?_
        refine zr_iload_n 2 dX12_drawn_34 rfl ?_
        replace hf := zb1_s hf
        obtain ⟨m10, h11, hf⟩ := hf
        refine zr_put h11 zk12 (by decide) zl_1143 rfl rfl rfl dX12_drawn_35 ?_
        refine zr_aload_n 0 dX12_drawn_38 rfl ?_
        replace hf := zb1_s hf
        obtain ⟨m13, h12, hf⟩ := hf
        refine zr_callV (ci := 12) [] (cX12_begin_ok h12) zvs_X12_begin zl_1000 zl_1001 (fX12_begin_ck h12) rfl rfl zl_999 rfl (Nat.le_of_ble_eq_true rfl) (Nat.le_of_ble_eq_true rfl) (Nat.le_of_ble_eq_true rfl) (Nat.le_of_ble_eq_true rfl) dX12_drawn_39 rfl ?_
        refine zr_iconst 0 dX12_drawn_42 (by decide) ?_
        refine zr_istore [(5, .int 0), (0, .ref x0), (1, .int x1), (2, .int x2), (3, .int x3), (4, .int x4)] dX12_drawn_43 (Nat.le_of_ble_eq_true rfl) rfl ?_
        replace hf := zb1_s hf
        obtain ⟨m18, hg, hf⟩ := hf
        have hj19 : zz K cX12_drawn (6, RX12, some .int, 7, 0, 0, some (.int r), mo) 0 0 61 [(0, .ref x0), (4, .int x4)] [] m18 := by
          refine zr_aload_n 0 dX12_drawn_61 rfl ?_
          refine zr_iload 1 dX12_drawn_62 rfl ?_
          replace hf := zb2_s hf
          obtain ⟨v25, m24, h23, hf⟩ := hf
          refine zr_callV (ci := 12) [.int x4] (cX12_ofState_ok h23) zvs_X12_ofState zl_1031 zl_1032 (fX12_ofState_ck h23) rfl rfl zl_1030 rfl (Nat.le_of_ble_eq_true rfl) (Nat.le_of_ble_eq_true rfl) (Nat.le_of_ble_eq_true rfl) (Nat.le_of_ble_eq_true rfl) dX12_drawn_64 rfl ?_
          cases hf
          exact zr_iret dX12_drawn_67
        clear hf
        have hf := hg
        clear hg
        have hL22 : ∀ (n : Nat) (x5_14 : Int32) (m15 : zM), zf2 (fX12_drawn_l45 x3 x0) n x5_14 m15 = some m18 → zz K cX12_drawn (6, RX12, some .int, 7, 0, 0, some (.int r), mo) 0 0 45 [(0, .ref x0), (3, .int x3), (4, .int x4), (5, .int x5_14)] [] m15 := by
          intro n
          induction n with
          | zero => intro x5_14 m15 hf; cases hf
          | succ n ih17 =>
            intro x5_14 m15 hf
            replace hf := zf2_s hf
            generalize zf2 (fX12_drawn_l45 x3 x0) n = F16 at hf ih17
            unfold fX12_drawn_l45 at hf
            refine zr_iload 3 dX12_drawn_45 rfl ?_
            refine zr_iload_n 1 dX12_drawn_47 rfl ?_
            refine zr_icmp_ge 61 dX12_drawn_48 (by decide) (fun hc => ?_) (fun hc => ?_)
            · rw [if_pos hc] at hf
              cases hf
              exact zr_lv [0, 2] rfl hj19
            · rw [if_neg hc] at hf
              refine zr_aload_n 0 dX12_drawn_51 rfl ?_
              replace hf := zb1_s hf
              obtain ⟨m21, h20, hf⟩ := hf
              refine zr_callV (ci := 12) [] (cX12_drawDeed_ok h20) zvs_X12_drawDeed zl_1151 zl_1152 (fX12_drawDeed_ck h20) rfl rfl zl_1150 rfl (Nat.le_of_ble_eq_true rfl) (Nat.le_of_ble_eq_true rfl) (Nat.le_of_ble_eq_true rfl) (Nat.le_of_ble_eq_true rfl) dX12_drawn_52 rfl ?_
              refine zr_iinc (j := 3) (x5_14 + 1) [(5, .int (x5_14 + 1)), (0, .ref x0), (3, .int x3), (4, .int x4)] dX12_drawn_55 rfl rfl (Nat.le_of_ble_eq_true rfl) rfl ?_
              refine zr_goto 45 dX12_drawn_58 (by decide) ?_
              exact zr_lv [1, 2, 3, 0] rfl (ih17 (x5_14 + 1) m21 hf)
        exact zr_lv [1, 4, 5, 0] rfl (hL22 _ 0 m13 hf)
      · rw [if_pos hc] at hf
        refine zr_bipush (-2) dX12_drawn_30 (by decide) ?_
        cases hf
        exact zr_iret dX12_drawn_32
theorem dX12_ringOf_0 : decode cX12_ringOf 0 = .ok (.aload_n 0, 1) := by decide +kernel
theorem dX12_ringOf_1 : decode cX12_ringOf 1 = .ok (.iconst 3, 1) := by decide +kernel
theorem dX12_ringOf_2 : decode cX12_ringOf 2 = .ok (.iload_n 1, 1) := by decide +kernel
theorem dX12_ringOf_3 : decode cX12_ringOf 3 = .ok (.iadd, 1) := by decide +kernel
theorem dX12_ringOf_4 : decode cX12_ringOf 4 = .ok (.invokevirtual 269, 3) := by decide +kernel
theorem dX12_ringOf_7 : decode cX12_ringOf 7 = .ok (.istore_n 2, 1) := by decide +kernel
theorem dX12_ringOf_8 : decode cX12_ringOf 8 = .ok (.iconst 1, 1) := by decide +kernel
theorem dX12_ringOf_9 : decode cX12_ringOf 9 = .ok (.istore_n 3, 1) := by decide +kernel
theorem dX12_ringOf_10 : decode cX12_ringOf 10 = .ok (.iload_n 2, 1) := by decide +kernel
theorem dX12_ringOf_11 : decode cX12_ringOf 11 = .ok (.iload_n 1, 1) := by decide +kernel
theorem dX12_ringOf_12 : decode cX12_ringOf 12 = .ok (.if_icmp .eq 23, 3) := by decide +kernel
theorem dX12_ringOf_15 : decode cX12_ringOf 15 = .ok (.iload_n 3, 1) := by decide +kernel
theorem dX12_ringOf_16 : decode cX12_ringOf 16 = .ok (.bipush 8, 2) := by decide +kernel
theorem dX12_ringOf_18 : decode cX12_ringOf 18 = .ok (.if_icmp .ge 17, 3) := by decide +kernel
theorem dX12_ringOf_21 : decode cX12_ringOf 21 = .ok (.aload_n 0, 1) := by decide +kernel
theorem dX12_ringOf_22 : decode cX12_ringOf 22 = .ok (.iconst 3, 1) := by decide +kernel
theorem dX12_ringOf_23 : decode cX12_ringOf 23 = .ok (.iload_n 2, 1) := by decide +kernel
theorem dX12_ringOf_24 : decode cX12_ringOf 24 = .ok (.iadd, 1) := by decide +kernel
theorem dX12_ringOf_25 : decode cX12_ringOf 25 = .ok (.invokevirtual 269, 3) := by decide +kernel
theorem dX12_ringOf_28 : decode cX12_ringOf 28 = .ok (.istore_n 2, 1) := by decide +kernel
theorem dX12_ringOf_29 : decode cX12_ringOf 29 = .ok (.iinc 3 1, 3) := by decide +kernel
theorem dX12_ringOf_32 : decode cX12_ringOf 32 = .ok (.goto (-22), 3) := by decide +kernel
theorem dX12_ringOf_35 : decode cX12_ringOf 35 = .ok (.iload_n 2, 1) := by decide +kernel
theorem dX12_ringOf_36 : decode cX12_ringOf 36 = .ok (.iload_n 1, 1) := by decide +kernel
theorem dX12_ringOf_37 : decode cX12_ringOf 37 = .ok (.if_icmp .ne 7, 3) := by decide +kernel
theorem dX12_ringOf_40 : decode cX12_ringOf 40 = .ok (.iload_n 3, 1) := by decide +kernel
theorem dX12_ringOf_41 : decode cX12_ringOf 41 = .ok (.goto 4, 3) := by decide +kernel
theorem dX12_ringOf_44 : decode cX12_ringOf 44 = .ok (.iconst 0, 1) := by decide +kernel
theorem dX12_ringOf_45 : decode cX12_ringOf 45 = .ok (.ireturn, 1) := by decide +kernel
def fX12_ringOf_l10 (x1 : Int32) (μ : zM) (x0 : Nat) (F5 : Int32 → Int32 → Option (Int32 × Int32)) (x2_3 : Int32) (x3_4 : Int32) : Option (Int32 × Int32) :=
  if x2_3 = x1 then (
  some (x2_3, x3_4))
  else (
  if 8 ≤ x3_4 then (
  some (x2_3, x3_4))
  else (
  zb1 (fX12_of μ x0 (3 + x2_3)) fun v11 =>
  F5 v11 (x3_4 + 1)))
def fX12_ringOf (μ : zM) (x0 : Nat) (x1 : Int32) : Option (Int32) := zgd (zm_ck μ 12 x0) <|
  zb1 (fX12_of μ x0 (3 + x1)) fun v2 =>
  zb2 (zf2 (fX12_ringOf_l10 x1 μ x0) zfu v2 1) fun x2_7 x3_8 =>
  zb1 (if x2_7 = x1 then (
  some x3_8)
  else (
  some 0)) fun s13 =>
  some s13
theorem fX12_ringOf_ck {μ : zM} {x0 : Nat} {x1 : Int32} {z : Int32} (h : fX12_ringOf μ x0 x1 = some z) : zm_ck μ 12 x0 = true := (zgd_s h).1
set_option maxHeartbeats 4000000 in
set_option maxRecDepth 100000 in
theorem cX12_ringOf_ok {μ : zM} {x0 : Nat} {x1 : Int32} {r : Int32} (hf : fX12_ringOf μ x0 x1 = some r) : zC yX12_ringOf cX12_ringOf 4 (some .int) 1 0 0 [.ref x0, .int x1] μ (some (.int r)) μ := by
  replace hf := (zgd_s hf).2
  refine zC.of (by decide) (Nat.le_of_ble_eq_true rfl) (fun K hin => ?_)
  clear hin
  show zz K cX12_ringOf (4, RX12, some .int, 1, 0, 0, some (.int r), μ) 0 0 0 [(0, .ref x0), (1, .int x1)] [] μ
  refine zr_aload_n 0 dX12_ringOf_0 rfl ?_
  refine zr_iconst 3 dX12_ringOf_1 (by decide) ?_
  refine zr_iload_n 1 dX12_ringOf_2 rfl ?_
  refine zr_iadd dX12_ringOf_3 ?_
  replace hf := zb1_s hf
  obtain ⟨v2, h1, hf⟩ := hf
  refine zr_callV (ci := 12) [.int (3 + x1)] (cX12_of_ok h1) zvs_X12_of zl_918 zl_919 (fX12_of_ck h1) rfl rfl zl_917 rfl (Nat.le_of_ble_eq_true rfl) (Nat.le_of_ble_eq_true rfl) (Nat.le_of_ble_eq_true rfl) (Nat.le_of_ble_eq_true rfl) dX12_ringOf_4 rfl ?_
  refine zr_istore_n [(2, .int v2), (0, .ref x0), (1, .int x1)] dX12_ringOf_7 (Nat.le_of_ble_eq_true rfl) rfl ?_
  refine zr_iconst 1 dX12_ringOf_8 (by decide) ?_
  refine zr_istore_n [(3, .int 1), (2, .int v2), (0, .ref x0), (1, .int x1)] dX12_ringOf_9 (Nat.le_of_ble_eq_true rfl) rfl ?_
  replace hf := zb2_s hf
  obtain ⟨x2_7, x3_8, hg, hf⟩ := hf
  have hj9 : zz K cX12_ringOf (4, RX12, some .int, 1, 0, 0, some (.int r), μ) 0 0 35 [(1, .int x1), (2, .int x2_7), (3, .int x3_8)] [] μ := by
    refine zr_iload_n 1 dX12_ringOf_35 rfl ?_
    refine zr_iload_n 0 dX12_ringOf_36 rfl ?_
    replace hf := zb1_s hf
    obtain ⟨s13, hg, hf⟩ := hf
    have hj14 : zz K cX12_ringOf (4, RX12, some .int, 1, 0, 0, some (.int r), μ) 0 0 45 [] [.int s13] μ := by
      cases hf
      exact zr_iret dX12_ringOf_45
    clear hf
    have hf := hg
    clear hg
    refine zr_icmp_ne 44 dX12_ringOf_37 (by decide) (fun hc => ?_) (fun hc => ?_)
    · rw [if_neg hc] at hf
      refine zr_iconst 0 dX12_ringOf_44 (by decide) ?_
      cases hf
      exact zr_lv [] rfl hj14
    · rw [if_pos hc] at hf
      refine zr_iload_n 2 dX12_ringOf_40 rfl ?_
      refine zr_goto 45 dX12_ringOf_41 (by decide) ?_
      cases hf
      exact zr_lv [] rfl hj14
  clear hf
  have hf := hg
  clear hg
  have hL12 : ∀ (n : Nat) (x2_3 : Int32) (x3_4 : Int32), zf2 (fX12_ringOf_l10 x1 μ x0) n x2_3 x3_4 = some (x2_7, x3_8) → zz K cX12_ringOf (4, RX12, some .int, 1, 0, 0, some (.int r), μ) 0 0 10 [(0, .ref x0), (1, .int x1), (2, .int x2_3), (3, .int x3_4)] [] μ := by
    intro n
    induction n with
    | zero => intro x2_3 x3_4 hf; cases hf
    | succ n ih6 =>
      intro x2_3 x3_4 hf
      replace hf := zf2_s hf
      generalize zf2 (fX12_ringOf_l10 x1 μ x0) n = F5 at hf ih6
      unfold fX12_ringOf_l10 at hf
      refine zr_iload_n 2 dX12_ringOf_10 rfl ?_
      refine zr_iload_n 1 dX12_ringOf_11 rfl ?_
      refine zr_icmp_eq 35 dX12_ringOf_12 (by decide) (fun hc => ?_) (fun hc => ?_)
      · rw [if_pos hc] at hf
        cases hf
        exact zr_lv [1, 2, 3] rfl hj9
      · rw [if_neg hc] at hf
        refine zr_iload_n 3 dX12_ringOf_15 rfl ?_
        refine zr_bipush 8 dX12_ringOf_16 (by decide) ?_
        refine zr_icmp_ge 35 dX12_ringOf_18 (by decide) (fun hc => ?_) (fun hc => ?_)
        · rw [if_pos hc] at hf
          cases hf
          exact zr_lv [1, 2, 3] rfl hj9
        · rw [if_neg hc] at hf
          refine zr_aload_n 0 dX12_ringOf_21 rfl ?_
          refine zr_iconst 3 dX12_ringOf_22 (by decide) ?_
          refine zr_iload_n 2 dX12_ringOf_23 rfl ?_
          refine zr_iadd dX12_ringOf_24 ?_
          replace hf := zb1_s hf
          obtain ⟨v11, h10, hf⟩ := hf
          refine zr_callV (ci := 12) [.int (3 + x2_3)] (cX12_of_ok h10) zvs_X12_of zl_918 zl_919 (fX12_of_ck h10) rfl rfl zl_917 rfl (Nat.le_of_ble_eq_true rfl) (Nat.le_of_ble_eq_true rfl) (Nat.le_of_ble_eq_true rfl) (Nat.le_of_ble_eq_true rfl) dX12_ringOf_25 rfl ?_
          refine zr_istore_n [(2, .int v11), (0, .ref x0), (1, .int x1), (3, .int x3_4)] dX12_ringOf_28 (Nat.le_of_ble_eq_true rfl) rfl ?_
          refine zr_iinc (j := 3) (x3_4 + 1) [(3, .int (x3_4 + 1)), (2, .int v11), (0, .ref x0), (1, .int x1)] dX12_ringOf_29 rfl rfl (Nat.le_of_ble_eq_true rfl) rfl ?_
          refine zr_goto 10 dX12_ringOf_32 (by decide) ?_
          exact zr_lv [2, 3, 1, 0] rfl (ih6 v11 (x3_4 + 1) hf)
  exact zr_lv [2, 3, 1, 0] rfl (hL12 _ v2 1 hf)
theorem dX12_isFirst_0 : decode cX12_isFirst 0 = .ok (.aload_n 0, 1) := by decide +kernel
theorem dX12_isFirst_1 : decode cX12_isFirst 1 = .ok (.iconst 3, 1) := by decide +kernel
theorem dX12_isFirst_2 : decode cX12_isFirst 2 = .ok (.iload_n 1, 1) := by decide +kernel
theorem dX12_isFirst_3 : decode cX12_isFirst 3 = .ok (.iadd, 1) := by decide +kernel
theorem dX12_isFirst_4 : decode cX12_isFirst 4 = .ok (.invokevirtual 269, 3) := by decide +kernel
theorem dX12_isFirst_7 : decode cX12_isFirst 7 = .ok (.istore_n 2, 1) := by decide +kernel
theorem dX12_isFirst_8 : decode cX12_isFirst 8 = .ok (.iload_n 2, 1) := by decide +kernel
theorem dX12_isFirst_9 : decode cX12_isFirst 9 = .ok (.iload_n 1, 1) := by decide +kernel
theorem dX12_isFirst_10 : decode cX12_isFirst 10 = .ok (.if_icmp .eq 21, 3) := by decide +kernel
theorem dX12_isFirst_13 : decode cX12_isFirst 13 = .ok (.iload_n 2, 1) := by decide +kernel
theorem dX12_isFirst_14 : decode cX12_isFirst 14 = .ok (.iload_n 1, 1) := by decide +kernel
theorem dX12_isFirst_15 : decode cX12_isFirst 15 = .ok (.if_icmp .ge 5, 3) := by decide +kernel
theorem dX12_isFirst_18 : decode cX12_isFirst 18 = .ok (.iconst 0, 1) := by decide +kernel
theorem dX12_isFirst_19 : decode cX12_isFirst 19 = .ok (.ireturn, 1) := by decide +kernel
theorem dX12_isFirst_20 : decode cX12_isFirst 20 = .ok (.aload_n 0, 1) := by decide +kernel
theorem dX12_isFirst_21 : decode cX12_isFirst 21 = .ok (.iconst 3, 1) := by decide +kernel
theorem dX12_isFirst_22 : decode cX12_isFirst 22 = .ok (.iload_n 2, 1) := by decide +kernel
theorem dX12_isFirst_23 : decode cX12_isFirst 23 = .ok (.iadd, 1) := by decide +kernel
theorem dX12_isFirst_24 : decode cX12_isFirst 24 = .ok (.invokevirtual 269, 3) := by decide +kernel
theorem dX12_isFirst_27 : decode cX12_isFirst 27 = .ok (.istore_n 2, 1) := by decide +kernel
theorem dX12_isFirst_28 : decode cX12_isFirst 28 = .ok (.goto (-20), 3) := by decide +kernel
theorem dX12_isFirst_31 : decode cX12_isFirst 31 = .ok (.iconst 1, 1) := by decide +kernel
theorem dX12_isFirst_32 : decode cX12_isFirst 32 = .ok (.ireturn, 1) := by decide +kernel
def fX12_isFirst_l8 (x1 : Int32) (μ : zM) (x0 : Nat) (F4 : Int32 → Option (Int32)) (x2_3 : Int32) : Option (Int32) :=
  if x2_3 = x1 then (
  some 1)
  else (
  if x1 ≤ x2_3 then (
  zb1 (fX12_of μ x0 (3 + x2_3)) fun v7 =>
  F4 v7)
  else (
  some 0))
def fX12_isFirst (μ : zM) (x0 : Nat) (x1 : Int32) : Option (Int32) := zgd (zm_ck μ 12 x0) <|
  zb1 (fX12_of μ x0 (3 + x1)) fun v2 =>
  zf1 (fX12_isFirst_l8 x1 μ x0) zfu v2
theorem fX12_isFirst_ck {μ : zM} {x0 : Nat} {x1 : Int32} {z : Int32} (h : fX12_isFirst μ x0 x1 = some z) : zm_ck μ 12 x0 = true := (zgd_s h).1
set_option maxHeartbeats 4000000 in
set_option maxRecDepth 100000 in
theorem cX12_isFirst_ok {μ : zM} {x0 : Nat} {x1 : Int32} {r : Int32} (hf : fX12_isFirst μ x0 x1 = some r) : zC yX12_isFirst cX12_isFirst 3 (some .boolean) 1 0 0 [.ref x0, .int x1] μ (some (.int r)) μ := by
  replace hf := (zgd_s hf).2
  refine zC.of (by decide) (Nat.le_of_ble_eq_true rfl) (fun K hin => ?_)
  clear hin
  show zz K cX12_isFirst (3, RX12, some .boolean, 1, 0, 0, some (.int r), μ) 0 0 0 [(0, .ref x0), (1, .int x1)] [] μ
  refine zr_aload_n 0 dX12_isFirst_0 rfl ?_
  refine zr_iconst 3 dX12_isFirst_1 (by decide) ?_
  refine zr_iload_n 1 dX12_isFirst_2 rfl ?_
  refine zr_iadd dX12_isFirst_3 ?_
  replace hf := zb1_s hf
  obtain ⟨v2, h1, hf⟩ := hf
  refine zr_callV (ci := 12) [.int (3 + x1)] (cX12_of_ok h1) zvs_X12_of zl_918 zl_919 (fX12_of_ck h1) rfl rfl zl_917 rfl (Nat.le_of_ble_eq_true rfl) (Nat.le_of_ble_eq_true rfl) (Nat.le_of_ble_eq_true rfl) (Nat.le_of_ble_eq_true rfl) dX12_isFirst_4 rfl ?_
  refine zr_istore_n [(2, .int v2), (0, .ref x0), (1, .int x1)] dX12_isFirst_7 (Nat.le_of_ble_eq_true rfl) rfl ?_
  have hL8 : ∀ (n : Nat) (x2_3 : Int32), zf1 (fX12_isFirst_l8 x1 μ x0) n x2_3 = some r → zz K cX12_isFirst (3, RX12, some .boolean, 1, 0, 0, some (.int r), μ) 0 0 8 [(0, .ref x0), (1, .int x1), (2, .int x2_3)] [] μ := by
    intro n
    induction n with
    | zero => intro x2_3 hf; cases hf
    | succ n ih5 =>
      intro x2_3 hf
      replace hf := zf1_s hf
      generalize zf1 (fX12_isFirst_l8 x1 μ x0) n = F4 at hf ih5
      unfold fX12_isFirst_l8 at hf
      refine zr_iload_n 2 dX12_isFirst_8 rfl ?_
      refine zr_iload_n 1 dX12_isFirst_9 rfl ?_
      refine zr_icmp_eq 31 dX12_isFirst_10 (by decide) (fun hc => ?_) (fun hc => ?_)
      · rw [if_pos hc] at hf
        refine zr_iconst 1 dX12_isFirst_31 (by decide) ?_
        cases hf
        exact zr_zret rfl dX12_isFirst_32
      · rw [if_neg hc] at hf
        refine zr_iload_n 2 dX12_isFirst_13 rfl ?_
        refine zr_iload_n 1 dX12_isFirst_14 rfl ?_
        refine zr_icmp_ge 20 dX12_isFirst_15 (by decide) (fun hc => ?_) (fun hc => ?_)
        · rw [if_pos hc] at hf
          refine zr_aload_n 0 dX12_isFirst_20 rfl ?_
          refine zr_iconst 3 dX12_isFirst_21 (by decide) ?_
          refine zr_iload_n 2 dX12_isFirst_22 rfl ?_
          refine zr_iadd dX12_isFirst_23 ?_
          replace hf := zb1_s hf
          obtain ⟨v7, h6, hf⟩ := hf
          refine zr_callV (ci := 12) [.int (3 + x2_3)] (cX12_of_ok h6) zvs_X12_of zl_918 zl_919 (fX12_of_ck h6) rfl rfl zl_917 rfl (Nat.le_of_ble_eq_true rfl) (Nat.le_of_ble_eq_true rfl) (Nat.le_of_ble_eq_true rfl) (Nat.le_of_ble_eq_true rfl) dX12_isFirst_24 rfl ?_
          refine zr_istore_n [(2, .int v7), (0, .ref x0), (1, .int x1)] dX12_isFirst_27 (Nat.le_of_ble_eq_true rfl) rfl ?_
          refine zr_goto 8 dX12_isFirst_28 (by decide) ?_
          exact zr_lv [1, 2, 0] rfl (ih5 v7 hf)
        · rw [if_neg hc] at hf
          refine zr_iconst 0 dX12_isFirst_18 (by decide) ?_
          cases hf
          exact zr_zret rfl dX12_isFirst_19
  exact zr_lv [1, 2, 0] rfl (hL8 _ v2 hf)
theorem zl_1153 : Cond.code yX12_ringOf cX12_ringOf 4 (some .int) ∈ zt := zt_at 1945 (by decide +kernel)
theorem zvs_X12_ringOf : zvS yX12_ringOf cX12_ringOf 4 (some .int) 1 := ⟨zl_1153, zl_782, ⟨by decide +kernel, by decide +kernel, by decide +kernel⟩, by decide⟩
theorem zl_1154 : Cond.methodLink RX12 490 yX12_ringOf ∈ zt := zt_at 1942 (by decide +kernel)
theorem zl_1155 : Cond.instanceMethod yX12_ringOf ∈ zt := zt_at 1944 (by decide +kernel)
theorem zl_1156 : Cond.selects RX12 yX12_ringOf yX12_ringOf ∈ zt := zt_at 118 (by decide +kernel)
theorem zl_1157 : Cond.code yX12_isFirst cX12_isFirst 3 (some .boolean) ∈ zt := zt_at 1949 (by decide +kernel)
theorem zvs_X12_isFirst : zvS yX12_isFirst cX12_isFirst 3 (some .boolean) 1 := ⟨zl_1157, zl_782, ⟨by decide +kernel, by decide +kernel, by decide +kernel⟩, by decide⟩
theorem zl_1158 : Cond.methodLink RX12 493 yX12_isFirst ∈ zt := zt_at 1946 (by decide +kernel)
theorem zl_1159 : Cond.instanceMethod yX12_isFirst ∈ zt := zt_at 1948 (by decide +kernel)
theorem zl_1160 : Cond.selects RX12 yX12_isFirst yX12_isFirst ∈ zt := zt_at 119 (by decide +kernel)
theorem dX12_rings_0 : decode cX12_rings 0 = .ok (.aload_n 0, 1) := by decide +kernel
theorem dX12_rings_1 : decode cX12_rings 1 = .ok (.iconst 0, 1) := by decide +kernel
theorem dX12_rings_2 : decode cX12_rings 2 = .ok (.putfield 93, 3) := by decide +kernel
theorem dX12_rings_5 : decode cX12_rings 5 = .ok (.aload_n 0, 1) := by decide +kernel
theorem dX12_rings_6 : decode cX12_rings 6 = .ok (.iload_n 1, 1) := by decide +kernel
theorem dX12_rings_7 : decode cX12_rings 7 = .ok (.invokevirtual 298, 3) := by decide +kernel
theorem dX12_rings_10 : decode cX12_rings 10 = .ok (.ifCond .eq 12, 3) := by decide +kernel
theorem dX12_rings_13 : decode cX12_rings 13 = .ok (.iload_n 2, 1) := by decide +kernel
theorem dX12_rings_14 : decode cX12_rings 14 = .ok (.iconst 0, 1) := by decide +kernel
theorem dX12_rings_15 : decode cX12_rings 15 = .ok (.iconst 2, 1) := by decide +kernel
theorem dX12_rings_16 : decode cX12_rings 16 = .ok (.invokestatic 101, 3) := by decide +kernel
theorem dX12_rings_19 : decode cX12_rings 19 = .ok (.ifCond .ne 5, 3) := by decide +kernel
theorem dX12_rings_22 : decode cX12_rings 22 = .ok (.iconst (-1), 1) := by decide +kernel
theorem dX12_rings_23 : decode cX12_rings 23 = .ok (.ireturn, 1) := by decide +kernel
theorem dX12_rings_24 : decode cX12_rings 24 = .ok (.iconst 0, 1) := by decide +kernel
theorem dX12_rings_25 : decode cX12_rings 25 = .ok (.istore_n 3, 1) := by decide +kernel
theorem dX12_rings_26 : decode cX12_rings 26 = .ok (.iconst 0, 1) := by decide +kernel
theorem dX12_rings_27 : decode cX12_rings 27 = .ok (.istore 4, 2) := by decide +kernel
theorem dX12_rings_29 : decode cX12_rings 29 = .ok (.iconst 0, 1) := by decide +kernel
theorem dX12_rings_30 : decode cX12_rings 30 = .ok (.istore 5, 2) := by decide +kernel
theorem dX12_rings_32 : decode cX12_rings 32 = .ok (.iconst 0, 1) := by decide +kernel
theorem dX12_rings_33 : decode cX12_rings 33 = .ok (.istore 6, 2) := by decide +kernel
theorem dX12_rings_35 : decode cX12_rings 35 = .ok (.iload 6, 2) := by decide +kernel
theorem dX12_rings_37 : decode cX12_rings 37 = .ok (.bipush 8, 2) := by decide +kernel
theorem dX12_rings_39 : decode cX12_rings 39 = .ok (.if_icmp .ge 66, 3) := by decide +kernel
theorem dX12_rings_42 : decode cX12_rings 42 = .ok (.aload_n 0, 1) := by decide +kernel
theorem dX12_rings_43 : decode cX12_rings 43 = .ok (.iload 6, 2) := by decide +kernel
theorem dX12_rings_45 : decode cX12_rings 45 = .ok (.invokevirtual 490, 3) := by decide +kernel
theorem dX12_rings_48 : decode cX12_rings 48 = .ok (.istore 7, 2) := by decide +kernel
theorem dX12_rings_50 : decode cX12_rings 50 = .ok (.iload_n 3, 1) := by decide +kernel
theorem dX12_rings_51 : decode cX12_rings 51 = .ok (.iload 7, 2) := by decide +kernel
theorem dX12_rings_53 : decode cX12_rings 53 = .ok (.ifCond .le 16, 3) := by decide +kernel
theorem dX12_rings_56 : decode cX12_rings 56 = .ok (.aload_n 0, 1) := by decide +kernel
theorem dX12_rings_57 : decode cX12_rings 57 = .ok (.iload 6, 2) := by decide +kernel
theorem dX12_rings_59 : decode cX12_rings 59 = .ok (.invokevirtual 493, 3) := by decide +kernel
theorem dX12_rings_62 : decode cX12_rings 62 = .ok (.ifCond .eq 7, 3) := by decide +kernel
theorem dX12_rings_65 : decode cX12_rings 65 = .ok (.iconst 1, 1) := by decide +kernel
theorem dX12_rings_66 : decode cX12_rings 66 = .ok (.goto 4, 3) := by decide +kernel
theorem dX12_rings_69 : decode cX12_rings 69 = .ok (.iconst 0, 1) := by decide +kernel
theorem dX12_rings_70 : decode cX12_rings 70 = .ok (.iadd, 1) := by decide +kernel
theorem dX12_rings_71 : decode cX12_rings 71 = .ok (.istore_n 3, 1) := by decide +kernel
theorem dX12_rings_72 : decode cX12_rings 72 = .ok (.iload 4, 2) := by decide +kernel
theorem dX12_rings_74 : decode cX12_rings 74 = .ok (.iload 7, 2) := by decide +kernel
theorem dX12_rings_76 : decode cX12_rings 76 = .ok (.invokestatic 168, 3) := by decide +kernel
theorem dX12_rings_79 : decode cX12_rings 79 = .ok (.istore 4, 2) := by decide +kernel
theorem dX12_rings_81 : decode cX12_rings 81 = .ok (.iload 5, 2) := by decide +kernel
theorem dX12_rings_83 : decode cX12_rings 83 = .ok (.iload 7, 2) := by decide +kernel
theorem dX12_rings_85 : decode cX12_rings 85 = .ok (.ifCond .le 10, 3) := by decide +kernel
theorem dX12_rings_88 : decode cX12_rings 88 = .ok (.iconst 1, 1) := by decide +kernel
theorem dX12_rings_89 : decode cX12_rings 89 = .ok (.iload 6, 2) := by decide +kernel
theorem dX12_rings_91 : decode cX12_rings 91 = .ok (.ishl, 1) := by decide +kernel
theorem dX12_rings_92 : decode cX12_rings 92 = .ok (.goto 4, 3) := by decide +kernel
theorem dX12_rings_95 : decode cX12_rings 95 = .ok (.iconst 0, 1) := by decide +kernel
theorem dX12_rings_96 : decode cX12_rings 96 = .ok (.ior, 1) := by decide +kernel
theorem dX12_rings_97 : decode cX12_rings 97 = .ok (.istore 5, 2) := by decide +kernel
theorem dX12_rings_99 : decode cX12_rings 99 = .ok (.iinc 6 1, 3) := by decide +kernel
theorem dX12_rings_102 : decode cX12_rings 102 = .ok (.goto (-67), 3) := by decide +kernel
theorem dX12_rings_105 : decode cX12_rings 105 = .ok (.iload_n 2, 1) := by decide +kernel
theorem dX12_rings_106 : decode cX12_rings 106 = .ok (.ifCond .ne 7, 3) := by decide +kernel
theorem dX12_rings_109 : decode cX12_rings 109 = .ok (.iload_n 3, 1) := by decide +kernel
theorem dX12_rings_110 : decode cX12_rings 110 = .ok (.goto 15, 3) := by decide +kernel
theorem dX12_rings_113 : decode cX12_rings 113 = .ok (.iload_n 2, 1) := by decide +kernel
theorem dX12_rings_114 : decode cX12_rings 114 = .ok (.iconst 1, 1) := by decide +kernel
theorem dX12_rings_115 : decode cX12_rings 115 = .ok (.if_icmp .ne 8, 3) := by decide +kernel
theorem dX12_rings_118 : decode cX12_rings 118 = .ok (.iload 4, 2) := by decide +kernel
theorem dX12_rings_120 : decode cX12_rings 120 = .ok (.goto 5, 3) := by decide +kernel
theorem dX12_rings_123 : decode cX12_rings 123 = .ok (.iload 5, 2) := by decide +kernel
theorem dX12_rings_125 : decode cX12_rings 125 = .ok (.ireturn, 1) := by decide +kernel
def fX12_rings_b69x  : Option (Int32) :=
  some 0
def fX12_rings_l35 (m4 : zM) (x0 : Nat) (F12 : Int32 → Int32 → Int32 → Int32 → Option (Int32 × Int32 × Int32)) (x3_8 : Int32) (x4_9 : Int32) (x5_10 : Int32) (x6_11 : Int32) : Option (Int32 × Int32 × Int32) :=
  if 8 ≤ x6_11 then (
  some (x3_8, x4_9, x5_10))
  else (
  zb1 (fX12_ringOf m4 x0 x6_11) fun v19 =>
  zb1 (if v19 ≤ 0 then (
  fX12_rings_b69x)
  else (
  zb1 (fX12_isFirst m4 x0 x6_11) fun v28 =>
  if v28 = 0 then (
  fX12_rings_b69x)
  else (
  some 1))) fun s20 =>
  zb1 (fX12_greater m4 x4_9 v19) fun v24 =>
  zb1 (if v19 ≤ 0 then (
  some 0)
  else (
  some (1 <<< (x6_11 &&& 31)))) fun s25 =>
  F12 (x3_8 + s20) v24 (x5_10 ||| s25) (x6_11 + 1))
def fX12_rings (μ : zM) (x0 : Nat) (x1 : Int32) (x2 : Int32) : Option (Int32 × zM) := zgd (zm_ck μ 12 x0) <|
  zb1 (zm_p μ 12 x0 0 (.int 0)) fun m1 =>
  zb2 (fX12_hand m1 x0 x1) fun v5 m4 =>
  if v5 = 0 then (
  some ((-1), m4))
  else (
  zb1 (fX12_in m4 x2 0 2) fun v7 =>
  if v7 = 0 then (
  some ((-1), m4))
  else (
  zb3 (zf4 (fX12_rings_l35 m4 x0) zfu 0 0 0 0) fun x3_14 x4_15 x5_16 =>
  zb1 (if x2 = 0 then (
  some x3_14)
  else (
  if x2 = 1 then (
  some x4_15)
  else (
  some x5_16))) fun s30 =>
  some (s30, m4)))
theorem fX12_rings_ck {μ : zM} {x0 : Nat} {x1 : Int32} {x2 : Int32} {z : Int32 × zM} (h : fX12_rings μ x0 x1 x2 = some z) : zm_ck μ 12 x0 = true := (zgd_s h).1
set_option maxHeartbeats 4000000 in
set_option maxRecDepth 100000 in
theorem cX12_rings_ok {μ : zM} {x0 : Nat} {x1 : Int32} {x2 : Int32} {r : Int32} {mo : zM} (hf : fX12_rings μ x0 x1 x2 = some (r, mo)) : zC yX12_rings cX12_rings 8 (some .int) 3 0 0 [.ref x0, .int x1, .int x2] μ (some (.int r)) mo := by
  replace hf := (zgd_s hf).2
  refine zC.of (by decide) (Nat.le_of_ble_eq_true rfl) (fun K hin => ?_)
  clear hin
  show zz K cX12_rings (8, RX12, some .int, 3, 0, 0, some (.int r), mo) 0 0 0 [(0, .ref x0), (1, .int x1), (2, .int x2)] [] μ
  refine zr_aload_n 0 dX12_rings_0 rfl ?_
  refine zr_iconst 0 dX12_rings_1 (by decide) ?_
  replace hf := zb1_s hf
  obtain ⟨m1, h2, hf⟩ := hf
  refine zr_put h2 zk12 (by decide) zl_788 rfl rfl rfl dX12_rings_2 ?_
  refine zr_aload_n 0 dX12_rings_5 rfl ?_
  refine zr_iload_n 1 dX12_rings_6 rfl ?_
  replace hf := zb2_s hf
  obtain ⟨v5, m4, h3, hf⟩ := hf
  refine zr_callV (ci := 12) [.int x1] (cX12_hand_ok h3) zvs_X12_hand zl_946 zl_947 (fX12_hand_ck h3) rfl rfl zl_945 rfl (Nat.le_of_ble_eq_true rfl) (Nat.le_of_ble_eq_true rfl) (Nat.le_of_ble_eq_true rfl) (Nat.le_of_ble_eq_true rfl) dX12_rings_7 rfl ?_
  refine zr_if_eq 22 dX12_rings_10 (by decide) (fun hc => ?_) (fun hc => ?_)
  · rw [if_pos hc] at hf
    refine zr_iconst (-1) dX12_rings_22 (by decide) ?_
    cases hf
    exact zr_iret dX12_rings_23
  · rw [if_neg hc] at hf
    refine zr_iload_n 2 dX12_rings_13 rfl ?_
    refine zr_iconst 0 dX12_rings_14 (by decide) ?_
    refine zr_iconst 2 dX12_rings_15 (by decide) ?_
    replace hf := zb1_s hf
    obtain ⟨v7, h6, hf⟩ := hf
    refine zr_callS [.int x2, .int 0, .int 2] (cX12_in_ok h6) zvs_X12_in zl_787 zl_786 rfl (Nat.le_of_ble_eq_true rfl) (Nat.le_of_ble_eq_true rfl) (Nat.le_of_ble_eq_true rfl) (Nat.le_of_ble_eq_true rfl) dX12_rings_16 rfl ?_
    refine zr_if_ne 24 dX12_rings_19 (by decide) (fun hc => ?_) (fun hc => ?_)
    · rw [if_neg hc] at hf
      refine zr_iconst 0 dX12_rings_24 (by decide) ?_
      refine zr_istore_n [(3, .int 0), (0, .ref x0), (1, .int x1), (2, .int x2)] dX12_rings_25 (Nat.le_of_ble_eq_true rfl) rfl ?_
      refine zr_iconst 0 dX12_rings_26 (by decide) ?_
      refine zr_istore [(4, .int 0), (3, .int 0), (0, .ref x0), (1, .int x1), (2, .int x2)] dX12_rings_27 (Nat.le_of_ble_eq_true rfl) rfl ?_
      refine zr_iconst 0 dX12_rings_29 (by decide) ?_
      refine zr_istore [(5, .int 0), (4, .int 0), (3, .int 0), (0, .ref x0), (1, .int x1), (2, .int x2)] dX12_rings_30 (Nat.le_of_ble_eq_true rfl) rfl ?_
      refine zr_iconst 0 dX12_rings_32 (by decide) ?_
      refine zr_istore [(6, .int 0), (5, .int 0), (4, .int 0), (3, .int 0), (0, .ref x0), (1, .int x1), (2, .int x2)] dX12_rings_33 (Nat.le_of_ble_eq_true rfl) rfl ?_
      replace hf := zb3_s hf
      obtain ⟨x3_14, x4_15, x5_16, hg, hf⟩ := hf
      have hj17 : zz K cX12_rings (8, RX12, some .int, 3, 0, 0, some (.int r), mo) 0 0 105 [(2, .int x2), (3, .int x3_14), (4, .int x4_15), (5, .int x5_16)] [] m4 := by
        refine zr_iload_n 0 dX12_rings_105 rfl ?_
        replace hf := zb1_s hf
        obtain ⟨s30, hg, hf⟩ := hf
        have hj31 : zz K cX12_rings (8, RX12, some .int, 3, 0, 0, some (.int r), mo) 0 0 125 [] [.int s30] m4 := by
          cases hf
          exact zr_iret dX12_rings_125
        clear hf
        have hf := hg
        clear hg
        refine zr_if_ne 113 dX12_rings_106 (by decide) (fun hc => ?_) (fun hc => ?_)
        · rw [if_neg hc] at hf
          refine zr_iload_n 0 dX12_rings_113 rfl ?_
          refine zr_iconst 1 dX12_rings_114 (by decide) ?_
          refine zr_icmp_ne 123 dX12_rings_115 (by decide) (fun hc => ?_) (fun hc => ?_)
          · rw [if_neg hc] at hf
            refine zr_iload 3 dX12_rings_123 rfl ?_
            cases hf
            exact zr_lv [] rfl hj31
          · rw [if_pos hc] at hf
            refine zr_iload 2 dX12_rings_118 rfl ?_
            refine zr_goto 125 dX12_rings_120 (by decide) ?_
            cases hf
            exact zr_lv [] rfl hj31
        · rw [if_pos hc] at hf
          refine zr_iload_n 1 dX12_rings_109 rfl ?_
          refine zr_goto 125 dX12_rings_110 (by decide) ?_
          cases hf
          exact zr_lv [] rfl hj31
      clear hf
      have hf := hg
      clear hg
      have hL29 : ∀ (n : Nat) (x3_8 : Int32) (x4_9 : Int32) (x5_10 : Int32) (x6_11 : Int32), zf4 (fX12_rings_l35 m4 x0) n x3_8 x4_9 x5_10 x6_11 = some (x3_14, x4_15, x5_16) → zz K cX12_rings (8, RX12, some .int, 3, 0, 0, some (.int r), mo) 0 0 35 [(0, .ref x0), (2, .int x2), (3, .int x3_8), (4, .int x4_9), (5, .int x5_10), (6, .int x6_11)] [] m4 := by
        intro n
        induction n with
        | zero => intro x3_8 x4_9 x5_10 x6_11 hf; cases hf
        | succ n ih13 =>
          intro x3_8 x4_9 x5_10 x6_11 hf
          replace hf := zf4_s hf
          generalize zf4 (fX12_rings_l35 m4 x0) n = F12 at hf ih13
          unfold fX12_rings_l35 at hf
          refine zr_iload 5 dX12_rings_35 rfl ?_
          refine zr_bipush 8 dX12_rings_37 (by decide) ?_
          refine zr_icmp_ge 105 dX12_rings_39 (by decide) (fun hc => ?_) (fun hc => ?_)
          · rw [if_pos hc] at hf
            cases hf
            exact zr_lv [1, 2, 3, 4] rfl hj17
          · rw [if_neg hc] at hf
            refine zr_aload_n 0 dX12_rings_42 rfl ?_
            refine zr_iload 5 dX12_rings_43 rfl ?_
            replace hf := zb1_s hf
            obtain ⟨v19, h18, hf⟩ := hf
            refine zr_callV (ci := 12) [.int x6_11] (cX12_ringOf_ok h18) zvs_X12_ringOf zl_1155 zl_1156 (fX12_ringOf_ck h18) rfl rfl zl_1154 rfl (Nat.le_of_ble_eq_true rfl) (Nat.le_of_ble_eq_true rfl) (Nat.le_of_ble_eq_true rfl) (Nat.le_of_ble_eq_true rfl) dX12_rings_45 rfl ?_
            refine zr_istore [(7, .int v19), (0, .ref x0), (2, .int x2), (3, .int x3_8), (4, .int x4_9), (5, .int x5_10), (6, .int x6_11)] dX12_rings_48 (Nat.le_of_ble_eq_true rfl) rfl ?_
            refine zr_iload_n 3 dX12_rings_50 rfl ?_
            refine zr_iload 0 dX12_rings_51 rfl ?_
            replace hf := zb1_s hf
            obtain ⟨s20, hg, hf⟩ := hf
            have hj21 : zz K cX12_rings (8, RX12, some .int, 3, 0, 0, some (.int r), mo) 0 0 70 [(0, .ref x0), (2, .int x2), (4, .int x4_9), (5, .int x5_10), (6, .int x6_11), (7, .int v19)] [.int s20, .int x3_8] m4 := by
              refine zr_iadd dX12_rings_70 ?_
              refine zr_istore_n [(3, .int (x3_8 + s20)), (0, .ref x0), (2, .int x2), (4, .int x4_9), (5, .int x5_10), (6, .int x6_11), (7, .int v19)] dX12_rings_71 (Nat.le_of_ble_eq_true rfl) rfl ?_
              refine zr_iload 3 dX12_rings_72 rfl ?_
              refine zr_iload 6 dX12_rings_74 rfl ?_
              replace hf := zb1_s hf
              obtain ⟨v24, h23, hf⟩ := hf
              refine zr_callS [.int x4_9, .int v19] (cX12_greater_ok h23) zvs_X12_greater zl_829 zl_828 rfl (Nat.le_of_ble_eq_true rfl) (Nat.le_of_ble_eq_true rfl) (Nat.le_of_ble_eq_true rfl) (Nat.le_of_ble_eq_true rfl) dX12_rings_76 rfl ?_
              refine zr_istore [(4, .int v24), (3, .int (x3_8 + s20)), (0, .ref x0), (2, .int x2), (5, .int x5_10), (6, .int x6_11), (7, .int v19)] dX12_rings_79 (Nat.le_of_ble_eq_true rfl) rfl ?_
              refine zr_iload 4 dX12_rings_81 rfl ?_
              refine zr_iload 6 dX12_rings_83 rfl ?_
              replace hf := zb1_s hf
              obtain ⟨s25, hg, hf⟩ := hf
              have hj26 : zz K cX12_rings (8, RX12, some .int, 3, 0, 0, some (.int r), mo) 0 0 96 [(0, .ref x0), (2, .int x2), (3, .int (x3_8 + s20)), (4, .int v24), (6, .int x6_11)] [.int s25, .int x5_10] m4 := by
                refine zr_ior dX12_rings_96 ?_
                refine zr_istore [(5, .int (x5_10 ||| s25)), (0, .ref x0), (2, .int x2), (3, .int (x3_8 + s20)), (4, .int v24), (6, .int x6_11)] dX12_rings_97 (Nat.le_of_ble_eq_true rfl) rfl ?_
                refine zr_iinc (j := 5) (x6_11 + 1) [(6, .int (x6_11 + 1)), (5, .int (x5_10 ||| s25)), (0, .ref x0), (2, .int x2), (3, .int (x3_8 + s20)), (4, .int v24)] dX12_rings_99 rfl rfl (Nat.le_of_ble_eq_true rfl) rfl ?_
                refine zr_goto 35 dX12_rings_102 (by decide) ?_
                exact zr_lv [2, 3, 4, 5, 1, 0] rfl (ih13 (x3_8 + s20) v24 (x5_10 ||| s25) (x6_11 + 1) hf)
              clear hf
              have hf := hg
              clear hg
              refine zr_if_le 95 dX12_rings_85 (by decide) (fun hc => ?_) (fun hc => ?_)
              · rw [if_pos hc] at hf
                refine zr_iconst 0 dX12_rings_95 (by decide) ?_
                cases hf
                exact zr_lv [2, 3, 1, 0, 5] rfl hj26
              · rw [if_neg hc] at hf
                refine zr_iconst 1 dX12_rings_88 (by decide) ?_
                refine zr_iload 5 dX12_rings_89 rfl ?_
                refine zr_ishl dX12_rings_91 ?_
                refine zr_goto 96 dX12_rings_92 (by decide) ?_
                cases hf
                exact zr_lv [2, 3, 1, 0, 5] rfl hj26
            clear hf
            have hf := hg
            clear hg
            have hb22 : ∀ (_ : Unit), fX12_rings_b69x = some s20 → zz K cX12_rings (8, RX12, some .int, 3, 0, 0, some (.int r), mo) 0 0 69 [(0, .ref x0), (2, .int x2), (4, .int x4_9), (5, .int x5_10), (6, .int x6_11), (7, .int v19)] [.int x3_8] m4 := by
              intro _ hf
              unfold fX12_rings_b69x at hf
              refine zr_iconst 0 dX12_rings_69 (by decide) ?_
              cases hf
              exact zr_lv [0, 1, 2, 3, 4, 5] rfl hj21
            refine zr_if_le 69 dX12_rings_53 (by decide) (fun hc => ?_) (fun hc => ?_)
            · rw [if_pos hc] at hf
              exact zr_lv [1, 2, 4, 5, 6, 0] rfl (hb22 () hf)
            · rw [if_neg hc] at hf
              refine zr_aload_n 1 dX12_rings_56 rfl ?_
              refine zr_iload 6 dX12_rings_57 rfl ?_
              replace hf := zb1_s hf
              obtain ⟨v28, h27, hf⟩ := hf
              refine zr_callV (ci := 12) [.int x6_11] (cX12_isFirst_ok h27) zvs_X12_isFirst zl_1159 zl_1160 (fX12_isFirst_ck h27) rfl rfl zl_1158 rfl (Nat.le_of_ble_eq_true rfl) (Nat.le_of_ble_eq_true rfl) (Nat.le_of_ble_eq_true rfl) (Nat.le_of_ble_eq_true rfl) dX12_rings_59 rfl ?_
              refine zr_if_eq 69 dX12_rings_62 (by decide) (fun hc => ?_) (fun hc => ?_)
              · rw [if_pos hc] at hf
                exact zr_lv [1, 2, 4, 5, 6, 0] rfl (hb22 () hf)
              · rw [if_neg hc] at hf
                refine zr_iconst 1 dX12_rings_65 (by decide) ?_
                refine zr_goto 70 dX12_rings_66 (by decide) ?_
                cases hf
                exact zr_lv [1, 2, 4, 5, 6, 0] rfl hj21
      exact zr_lv [4, 6, 3, 2, 1, 0] rfl (hL29 _ 0 0 0 0 hf)
    · rw [if_pos hc] at hf
      refine zr_iconst (-1) dX12_rings_22 (by decide) ?_
      cases hf
      exact zr_iret dX12_rings_23
theorem zl_1161 : Cond.constantLong RX12 496 (-1) ∈ zt := zt_at 1954 (by decide +kernel)
theorem dX12_unsure_0 : decode cX12_unsure 0 = .ok (.aload_n 0, 1) := by decide +kernel
theorem dX12_unsure_1 : decode cX12_unsure 1 = .ok (.iconst 0, 1) := by decide +kernel
theorem dX12_unsure_2 : decode cX12_unsure 2 = .ok (.putfield 93, 3) := by decide +kernel
theorem dX12_unsure_5 : decode cX12_unsure 5 = .ok (.iload_n 2, 1) := by decide +kernel
theorem dX12_unsure_6 : decode cX12_unsure 6 = .ok (.iconst 0, 1) := by decide +kernel
theorem dX12_unsure_7 : decode cX12_unsure 7 = .ok (.bipush 6, 2) := by decide +kernel
theorem dX12_unsure_9 : decode cX12_unsure 9 = .ok (.invokestatic 101, 3) := by decide +kernel
theorem dX12_unsure_12 : decode cX12_unsure 12 = .ok (.ifCond .eq 11, 3) := by decide +kernel
theorem dX12_unsure_15 : decode cX12_unsure 15 = .ok (.aload_n 0, 1) := by decide +kernel
theorem dX12_unsure_16 : decode cX12_unsure 16 = .ok (.iload_n 1, 1) := by decide +kernel
theorem dX12_unsure_17 : decode cX12_unsure 17 = .ok (.invokevirtual 298, 3) := by decide +kernel
theorem dX12_unsure_20 : decode cX12_unsure 20 = .ok (.ifCond .ne 7, 3) := by decide +kernel
theorem dX12_unsure_23 : decode cX12_unsure 23 = .ok (.ldc2_w 496, 3) := by decide +kernel
theorem dX12_unsure_26 : decode cX12_unsure 26 = .ok (.lreturn, 1) := by decide +kernel
theorem dX12_unsure_27 : decode cX12_unsure 27 = .ok (.iconst 0, 1) := by decide +kernel
theorem dX12_unsure_28 : decode cX12_unsure 28 = .ok (.istore 4, 2) := by decide +kernel
theorem dX12_unsure_30 : decode cX12_unsure 30 = .ok (.iconst 0, 1) := by decide +kernel
theorem dX12_unsure_31 : decode cX12_unsure 31 = .ok (.istore 5, 2) := by decide +kernel
theorem dX12_unsure_33 : decode cX12_unsure 33 = .ok (.iconst 0, 1) := by decide +kernel
theorem dX12_unsure_34 : decode cX12_unsure 34 = .ok (.istore 6, 2) := by decide +kernel
theorem dX12_unsure_36 : decode cX12_unsure 36 = .ok (.iload 6, 2) := by decide +kernel
theorem dX12_unsure_38 : decode cX12_unsure 38 = .ok (.bipush 8, 2) := by decide +kernel
theorem dX12_unsure_40 : decode cX12_unsure 40 = .ok (.if_icmp .ge 54, 3) := by decide +kernel
theorem dX12_unsure_43 : decode cX12_unsure 43 = .ok (.iload 4, 2) := by decide +kernel
theorem dX12_unsure_45 : decode cX12_unsure 45 = .ok (.aload_n 0, 1) := by decide +kernel
theorem dX12_unsure_46 : decode cX12_unsure 46 = .ok (.iconst 3, 1) := by decide +kernel
theorem dX12_unsure_47 : decode cX12_unsure 47 = .ok (.iload 6, 2) := by decide +kernel
theorem dX12_unsure_49 : decode cX12_unsure 49 = .ok (.iadd, 1) := by decide +kernel
theorem dX12_unsure_50 : decode cX12_unsure 50 = .ok (.invokevirtual 269, 3) := by decide +kernel
theorem dX12_unsure_53 : decode cX12_unsure 53 = .ok (.iload 6, 2) := by decide +kernel
theorem dX12_unsure_55 : decode cX12_unsure 55 = .ok (.if_icmp .ne 15, 3) := by decide +kernel
theorem dX12_unsure_58 : decode cX12_unsure 58 = .ok (.aload_n 0, 1) := by decide +kernel
theorem dX12_unsure_59 : decode cX12_unsure 59 = .ok (.bipush 19, 2) := by decide +kernel
theorem dX12_unsure_61 : decode cX12_unsure 61 = .ok (.iload 6, 2) := by decide +kernel
theorem dX12_unsure_63 : decode cX12_unsure 63 = .ok (.iadd, 1) := by decide +kernel
theorem dX12_unsure_64 : decode cX12_unsure 64 = .ok (.invokevirtual 269, 3) := by decide +kernel
theorem dX12_unsure_67 : decode cX12_unsure 67 = .ok (.goto 4, 3) := by decide +kernel
theorem dX12_unsure_70 : decode cX12_unsure 70 = .ok (.iconst 0, 1) := by decide +kernel
theorem dX12_unsure_71 : decode cX12_unsure 71 = .ok (.iadd, 1) := by decide +kernel
theorem dX12_unsure_72 : decode cX12_unsure 72 = .ok (.istore 4, 2) := by decide +kernel
theorem dX12_unsure_74 : decode cX12_unsure 74 = .ok (.iload 5, 2) := by decide +kernel
theorem dX12_unsure_76 : decode cX12_unsure 76 = .ok (.aload_n 0, 1) := by decide +kernel
theorem dX12_unsure_77 : decode cX12_unsure 77 = .ok (.bipush 19, 2) := by decide +kernel
theorem dX12_unsure_79 : decode cX12_unsure 79 = .ok (.iload 6, 2) := by decide +kernel
theorem dX12_unsure_81 : decode cX12_unsure 81 = .ok (.iadd, 1) := by decide +kernel
theorem dX12_unsure_82 : decode cX12_unsure 82 = .ok (.invokevirtual 269, 3) := by decide +kernel
theorem dX12_unsure_85 : decode cX12_unsure 85 = .ok (.iadd, 1) := by decide +kernel
theorem dX12_unsure_86 : decode cX12_unsure 86 = .ok (.istore 5, 2) := by decide +kernel
theorem dX12_unsure_88 : decode cX12_unsure 88 = .ok (.iinc 6 1, 3) := by decide +kernel
theorem dX12_unsure_91 : decode cX12_unsure 91 = .ok (.goto (-55), 3) := by decide +kernel
theorem dX12_unsure_94 : decode cX12_unsure 94 = .ok (.iload 5, 2) := by decide +kernel
theorem dX12_unsure_96 : decode cX12_unsure 96 = .ok (.ifCond .ne 7, 3) := by decide +kernel
theorem dX12_unsure_99 : decode cX12_unsure 99 = .ok (.ldc2_w 496, 3) := by decide +kernel
theorem dX12_unsure_102 : decode cX12_unsure 102 = .ok (.lreturn, 1) := by decide +kernel
theorem dX12_unsure_103 : decode cX12_unsure 103 = .ok (.iload 5, 2) := by decide +kernel
theorem dX12_unsure_105 : decode cX12_unsure 105 = .ok (.istore 6, 2) := by decide +kernel
theorem dX12_unsure_107 : decode cX12_unsure 107 = .ok (.iload 4, 2) := by decide +kernel
theorem dX12_unsure_109 : decode cX12_unsure 109 = .ok (.iload 6, 2) := by decide +kernel
theorem dX12_unsure_111 : decode cX12_unsure 111 = .ok (.irem, 1) := by decide +kernel
theorem dX12_unsure_112 : decode cX12_unsure 112 = .ok (.ifCond .ne 11, 3) := by decide +kernel
theorem dX12_unsure_115 : decode cX12_unsure 115 = .ok (.iload 5, 2) := by decide +kernel
theorem dX12_unsure_117 : decode cX12_unsure 117 = .ok (.iload 6, 2) := by decide +kernel
theorem dX12_unsure_119 : decode cX12_unsure 119 = .ok (.irem, 1) := by decide +kernel
theorem dX12_unsure_120 : decode cX12_unsure 120 = .ok (.ifCond .eq 9, 3) := by decide +kernel
theorem dX12_unsure_123 : decode cX12_unsure 123 = .ok (.iinc 6 (-1), 3) := by decide +kernel
theorem dX12_unsure_126 : decode cX12_unsure 126 = .ok (.goto (-19), 3) := by decide +kernel
theorem dX12_unsure_129 : decode cX12_unsure 129 = .ok (.lconst 1, 1) := by decide +kernel
theorem dX12_unsure_130 : decode cX12_unsure 130 = .ok (.lstore 7, 2) := by decide +kernel
theorem dX12_unsure_132 : decode cX12_unsure 132 = .ok (.iconst 0, 1) := by decide +kernel
theorem dX12_unsure_133 : decode cX12_unsure 133 = .ok (.istore 9, 2) := by decide +kernel
theorem dX12_unsure_135 : decode cX12_unsure 135 = .ok (.iload 9, 2) := by decide +kernel
theorem dX12_unsure_137 : decode cX12_unsure 137 = .ok (.iload_n 2, 1) := by decide +kernel
theorem dX12_unsure_138 : decode cX12_unsure 138 = .ok (.if_icmp .ge 29, 3) := by decide +kernel
theorem dX12_unsure_141 : decode cX12_unsure 141 = .ok (.lload 7, 2) := by decide +kernel
theorem dX12_unsure_143 : decode cX12_unsure 143 = .ok (.iload_n 3, 1) := by decide +kernel
theorem dX12_unsure_144 : decode cX12_unsure 144 = .ok (.ifCond .eq 8, 3) := by decide +kernel
theorem dX12_unsure_147 : decode cX12_unsure 147 = .ok (.iload 5, 2) := by decide +kernel
theorem dX12_unsure_149 : decode cX12_unsure 149 = .ok (.goto 5, 3) := by decide +kernel
theorem dX12_unsure_152 : decode cX12_unsure 152 = .ok (.iload 4, 2) := by decide +kernel
theorem dX12_unsure_154 : decode cX12_unsure 154 = .ok (.iload 6, 2) := by decide +kernel
theorem dX12_unsure_156 : decode cX12_unsure 156 = .ok (.idiv, 1) := by decide +kernel
theorem dX12_unsure_157 : decode cX12_unsure 157 = .ok (.i2l, 1) := by decide +kernel
theorem dX12_unsure_158 : decode cX12_unsure 158 = .ok (.lmul, 1) := by decide +kernel
theorem dX12_unsure_159 : decode cX12_unsure 159 = .ok (.lstore 7, 2) := by decide +kernel
theorem dX12_unsure_161 : decode cX12_unsure 161 = .ok (.iinc 9 1, 3) := by decide +kernel
theorem dX12_unsure_164 : decode cX12_unsure 164 = .ok (.goto (-29), 3) := by decide +kernel
theorem dX12_unsure_167 : decode cX12_unsure 167 = .ok (.lload 7, 2) := by decide +kernel
theorem dX12_unsure_169 : decode cX12_unsure 169 = .ok (.lreturn, 1) := by decide +kernel
def fX12_unsure_l36 (m6 : zM) (x0 : Nat) (F11 : Int32 → Int32 → Int32 → Option (Int32 × Int32)) (x4_8 : Int32) (x5_9 : Int32) (x6_10 : Int32) : Option (Int32 × Int32) :=
  if 8 ≤ x6_10 then (
  some (x4_8, x5_9))
  else (
  zb1 (fX12_of m6 x0 (3 + x6_10)) fun v17 =>
  zb1 (if v17 = x6_10 then (
  zb1 (fX12_of m6 x0 (19 + x6_10)) fun v23 =>
  some v23)
  else (
  some 0)) fun s18 =>
  zb1 (fX12_of m6 x0 (19 + x6_10)) fun v21 =>
  F11 (x4_8 + s18) (x5_9 + v21) (x6_10 + 1))
def fX12_unsure_l107 (x4_13 : Int32) (x5_14 : Int32) (F26 : Int32 → Option (Int32)) (x6_25 : Int32) : Option (Int32) :=
  zni (x6_25 = 0) <|
  if (x4_13 - x4_13 / x6_25 * x6_25) = 0 then (
  zni (x6_25 = 0) <|
  if (x5_14 - x5_14 / x6_25 * x6_25) = 0 then (
  some x6_25)
  else (
  F26 (x6_25 + (-1))))
  else (
  F26 (x6_25 + (-1)))
def fX12_unsure_l135 (x2 : Int32) (x3 : Int32) (x4_13 : Int32) (x5_14 : Int32) (x6_28 : Int32) (F35 : Int64 → Int32 → Option (Int64)) (x7_33 : Int64) (x9_34 : Int32) : Option (Int64) :=
  if x2 ≤ x9_34 then (
  some x7_33)
  else (
  zb1 (if x3 = 0 then (
  some x4_13)
  else (
  some x5_14)) fun s39 =>
  zni (x6_28 = 0) <|
  F35 (x7_33 * ((s39 / x6_28 : Int32).toInt64)) (x9_34 + 1))
def fX12_unsure (μ : zM) (x0 : Nat) (x1 : Int32) (x2 : Int32) (x3 : Int32) : Option (Int64 × zM) := zgd (zm_ck μ 12 x0) <|
  zb1 (zm_p μ 12 x0 0 (.int 0)) fun m1 =>
  zb1 (fX12_in m1 x2 0 6) fun v4 =>
  if v4 = 0 then (
  some ((-1), m1))
  else (
  zb2 (fX12_hand m1 x0 x1) fun v7 m6 =>
  if v7 = 0 then (
  some ((-1), m6))
  else (
  zb2 (zf3 (fX12_unsure_l36 m6 x0) zfu 0 0 0) fun x4_13 x5_14 =>
  if x5_14 = 0 then (
  some ((-1), m6))
  else (
  zb1 (zf1 (fX12_unsure_l107 x4_13 x5_14) zfu x5_14) fun x6_28 =>
  zb1 (zf2 (fX12_unsure_l135 x2 x3 x4_13 x5_14 x6_28) zfu 1 0) fun x7_37 =>
  some (x7_37, m6))))
theorem fX12_unsure_ck {μ : zM} {x0 : Nat} {x1 : Int32} {x2 : Int32} {x3 : Int32} {z : Int64 × zM} (h : fX12_unsure μ x0 x1 x2 x3 = some z) : zm_ck μ 12 x0 = true := (zgd_s h).1
set_option maxHeartbeats 4000000 in
set_option maxRecDepth 100000 in
theorem cX12_unsure_ok {μ : zM} {x0 : Nat} {x1 : Int32} {x2 : Int32} {x3 : Int32} {r : Int64} {mo : zM} (hf : fX12_unsure μ x0 x1 x2 x3 = some (r, mo)) : zC yX12_unsure cX12_unsure 10 (some .long) 3 0 0 [.ref x0, .int x1, .int x2, .int x3] μ (some (.long r)) mo := by
  replace hf := (zgd_s hf).2
  refine zC.of (by decide) (Nat.le_of_ble_eq_true rfl) (fun K hin => ?_)
  clear hin
  show zz K cX12_unsure (10, RX12, some .long, 3, 0, 0, some (.long r), mo) 0 0 0 [(0, .ref x0), (1, .int x1), (2, .int x2), (3, .int x3)] [] μ
  refine zr_aload_n 0 dX12_unsure_0 rfl ?_
  refine zr_iconst 0 dX12_unsure_1 (by decide) ?_
  replace hf := zb1_s hf
  obtain ⟨m1, h2, hf⟩ := hf
  refine zr_put h2 zk12 (by decide) zl_788 rfl rfl rfl dX12_unsure_2 ?_
  refine zr_iload_n 2 dX12_unsure_5 rfl ?_
  refine zr_iconst 0 dX12_unsure_6 (by decide) ?_
  refine zr_bipush 6 dX12_unsure_7 (by decide) ?_
  replace hf := zb1_s hf
  obtain ⟨v4, h3, hf⟩ := hf
  refine zr_callS [.int x2, .int 0, .int 6] (cX12_in_ok h3) zvs_X12_in zl_787 zl_786 rfl (Nat.le_of_ble_eq_true rfl) (Nat.le_of_ble_eq_true rfl) (Nat.le_of_ble_eq_true rfl) (Nat.le_of_ble_eq_true rfl) dX12_unsure_9 rfl ?_
  refine zr_if_eq 23 dX12_unsure_12 (by decide) (fun hc => ?_) (fun hc => ?_)
  · rw [if_pos hc] at hf
    refine zr_ldc2 zl_1161 dX12_unsure_23 ?_
    cases hf
    exact zr_lret dX12_unsure_26
  · rw [if_neg hc] at hf
    refine zr_aload_n 0 dX12_unsure_15 rfl ?_
    refine zr_iload_n 1 dX12_unsure_16 rfl ?_
    replace hf := zb2_s hf
    obtain ⟨v7, m6, h5, hf⟩ := hf
    refine zr_callV (ci := 12) [.int x1] (cX12_hand_ok h5) zvs_X12_hand zl_946 zl_947 (fX12_hand_ck h5) rfl rfl zl_945 rfl (Nat.le_of_ble_eq_true rfl) (Nat.le_of_ble_eq_true rfl) (Nat.le_of_ble_eq_true rfl) (Nat.le_of_ble_eq_true rfl) dX12_unsure_17 rfl ?_
    refine zr_if_ne 27 dX12_unsure_20 (by decide) (fun hc => ?_) (fun hc => ?_)
    · rw [if_neg hc] at hf
      refine zr_iconst 0 dX12_unsure_27 (by decide) ?_
      refine zr_istore [(4, .int 0), (0, .ref x0), (1, .int x1), (2, .int x2), (3, .int x3)] dX12_unsure_28 (Nat.le_of_ble_eq_true rfl) rfl ?_
      refine zr_iconst 0 dX12_unsure_30 (by decide) ?_
      refine zr_istore [(5, .int 0), (4, .int 0), (0, .ref x0), (1, .int x1), (2, .int x2), (3, .int x3)] dX12_unsure_31 (Nat.le_of_ble_eq_true rfl) rfl ?_
      refine zr_iconst 0 dX12_unsure_33 (by decide) ?_
      refine zr_istore [(6, .int 0), (5, .int 0), (4, .int 0), (0, .ref x0), (1, .int x1), (2, .int x2), (3, .int x3)] dX12_unsure_34 (Nat.le_of_ble_eq_true rfl) rfl ?_
      replace hf := zb2_s hf
      obtain ⟨x4_13, x5_14, hg, hf⟩ := hf
      have hj15 : zz K cX12_unsure (10, RX12, some .long, 3, 0, 0, some (.long r), mo) 0 0 94 [(2, .int x2), (3, .int x3), (4, .int x4_13), (5, .int x5_14)] [] m6 := by
        refine zr_iload 3 dX12_unsure_94 rfl ?_
        refine zr_if_ne 103 dX12_unsure_96 (by decide) (fun hc => ?_) (fun hc => ?_)
        · rw [if_neg hc] at hf
          refine zr_iload 3 dX12_unsure_103 rfl ?_
          refine zr_istore [(6, .int x5_14), (2, .int x2), (3, .int x3), (4, .int x4_13), (5, .int x5_14)] dX12_unsure_105 (Nat.le_of_ble_eq_true rfl) rfl ?_
          replace hf := zb1_s hf
          obtain ⟨x6_28, hg, hf⟩ := hf
          have hj29 : zz K cX12_unsure (10, RX12, some .long, 3, 0, 0, some (.long r), mo) 0 0 129 [(2, .int x2), (3, .int x3), (4, .int x4_13), (5, .int x5_14), (6, .int x6_28)] [] m6 := by
            refine zr_lconst 1 dX12_unsure_129 (by decide) ?_
            refine zr_lstore [(7, .long 1), (2, .int x2), (3, .int x3), (4, .int x4_13), (5, .int x5_14), (6, .int x6_28)] dX12_unsure_130 (Nat.le_of_ble_eq_true rfl) rfl ?_
            refine zr_iconst 0 dX12_unsure_132 (by decide) ?_
            refine zr_istore [(9, .int 0), (7, .long 1), (2, .int x2), (3, .int x3), (4, .int x4_13), (5, .int x5_14), (6, .int x6_28)] dX12_unsure_133 (Nat.le_of_ble_eq_true rfl) rfl ?_
            replace hf := zb1_s hf
            obtain ⟨x7_37, hg, hf⟩ := hf
            have hj38 : zz K cX12_unsure (10, RX12, some .long, 3, 0, 0, some (.long r), mo) 0 0 167 [(7, .long x7_37)] [] m6 := by
              refine zr_lload 0 dX12_unsure_167 rfl ?_
              cases hf
              exact zr_lret dX12_unsure_169
            clear hf
            have hf := hg
            clear hg
            have hL42 : ∀ (n : Nat) (x7_33 : Int64) (x9_34 : Int32), zf2 (fX12_unsure_l135 x2 x3 x4_13 x5_14 x6_28) n x7_33 x9_34 = some x7_37 → zz K cX12_unsure (10, RX12, some .long, 3, 0, 0, some (.long r), mo) 0 0 135 [(2, .int x2), (3, .int x3), (4, .int x4_13), (5, .int x5_14), (6, .int x6_28), (7, .long x7_33), (9, .int x9_34)] [] m6 := by
              intro n
              induction n with
              | zero => intro x7_33 x9_34 hf; cases hf
              | succ n ih36 =>
                intro x7_33 x9_34 hf
                replace hf := zf2_s hf
                generalize zf2 (fX12_unsure_l135 x2 x3 x4_13 x5_14 x6_28) n = F35 at hf ih36
                unfold fX12_unsure_l135 at hf
                refine zr_iload 6 dX12_unsure_135 rfl ?_
                refine zr_iload_n 0 dX12_unsure_137 rfl ?_
                refine zr_icmp_ge 167 dX12_unsure_138 (by decide) (fun hc => ?_) (fun hc => ?_)
                · rw [if_pos hc] at hf
                  cases hf
                  exact zr_lv [5] rfl hj38
                · rw [if_neg hc] at hf
                  refine zr_lload 5 dX12_unsure_141 rfl ?_
                  refine zr_iload_n 1 dX12_unsure_143 rfl ?_
                  replace hf := zb1_s hf
                  obtain ⟨s39, hg, hf⟩ := hf
                  have hj40 : zz K cX12_unsure (10, RX12, some .long, 3, 0, 0, some (.long r), mo) 0 0 154 [(2, .int x2), (3, .int x3), (4, .int x4_13), (5, .int x5_14), (6, .int x6_28), (9, .int x9_34)] [.int s39, .long x7_33] m6 := by
                    refine zr_iload 4 dX12_unsure_154 rfl ?_
                    replace hf := zni_s hf
                    obtain ⟨hn41, hf⟩ := hf
                    refine zr_idiv dX12_unsure_156 hn41 ?_
                    refine zr_i2l dX12_unsure_157 ?_
                    refine zr_lmul dX12_unsure_158 ?_
                    refine zr_lstore [(7, .long (x7_33 * ((s39 / x6_28 : Int32).toInt64))), (2, .int x2), (3, .int x3), (4, .int x4_13), (5, .int x5_14), (6, .int x6_28), (9, .int x9_34)] dX12_unsure_159 (Nat.le_of_ble_eq_true rfl) rfl ?_
                    refine zr_iinc (j := 6) (x9_34 + 1) [(9, .int (x9_34 + 1)), (7, .long (x7_33 * ((s39 / x6_28 : Int32).toInt64))), (2, .int x2), (3, .int x3), (4, .int x4_13), (5, .int x5_14), (6, .int x6_28)] dX12_unsure_161 rfl rfl (Nat.le_of_ble_eq_true rfl) rfl ?_
                    refine zr_goto 135 dX12_unsure_164 (by decide) ?_
                    exact zr_lv [2, 3, 4, 5, 6, 1, 0] rfl (ih36 (x7_33 * ((s39 / x6_28 : Int32).toInt64)) (x9_34 + 1) hf)
                  clear hf
                  have hf := hg
                  clear hg
                  refine zr_if_eq 152 dX12_unsure_144 (by decide) (fun hc => ?_) (fun hc => ?_)
                  · rw [if_pos hc] at hf
                    refine zr_iload 2 dX12_unsure_152 rfl ?_
                    cases hf
                    exact zr_lv [0, 1, 2, 3, 4, 6] rfl hj40
                  · rw [if_neg hc] at hf
                    refine zr_iload 3 dX12_unsure_147 rfl ?_
                    refine zr_goto 154 dX12_unsure_149 (by decide) ?_
                    cases hf
                    exact zr_lv [0, 1, 2, 3, 4, 6] rfl hj40
            exact zr_lv [2, 3, 4, 5, 6, 1, 0] rfl (hL42 _ 1 0 hf)
          clear hf
          have hf := hg
          clear hg
          have hL32 : ∀ (n : Nat) (x6_25 : Int32), zf1 (fX12_unsure_l107 x4_13 x5_14) n x6_25 = some x6_28 → zz K cX12_unsure (10, RX12, some .long, 3, 0, 0, some (.long r), mo) 0 0 107 [(2, .int x2), (3, .int x3), (4, .int x4_13), (5, .int x5_14), (6, .int x6_25)] [] m6 := by
            intro n
            induction n with
            | zero => intro x6_25 hf; cases hf
            | succ n ih27 =>
              intro x6_25 hf
              replace hf := zf1_s hf
              generalize zf1 (fX12_unsure_l107 x4_13 x5_14) n = F26 at hf ih27
              unfold fX12_unsure_l107 at hf
              refine zr_iload 2 dX12_unsure_107 rfl ?_
              refine zr_iload 4 dX12_unsure_109 rfl ?_
              replace hf := zni_s hf
              obtain ⟨hn30, hf⟩ := hf
              refine zr_irem dX12_unsure_111 hn30 ?_
              refine zr_if_ne 123 dX12_unsure_112 (by decide) (fun hc => ?_) (fun hc => ?_)
              · rw [if_neg hc] at hf
                refine zr_iinc (j := 4) (x6_25 + (-1)) [(6, .int (x6_25 + (-1))), (2, .int x2), (3, .int x3), (4, .int x4_13), (5, .int x5_14)] dX12_unsure_123 rfl rfl (Nat.le_of_ble_eq_true rfl) rfl ?_
                refine zr_goto 107 dX12_unsure_126 (by decide) ?_
                exact zr_lv [1, 2, 3, 4, 0] rfl (ih27 (x6_25 + (-1)) hf)
              · rw [if_pos hc] at hf
                refine zr_iload 3 dX12_unsure_115 rfl ?_
                refine zr_iload 4 dX12_unsure_117 rfl ?_
                replace hf := zni_s hf
                obtain ⟨hn31, hf⟩ := hf
                refine zr_irem dX12_unsure_119 hn31 ?_
                refine zr_if_eq 129 dX12_unsure_120 (by decide) (fun hc => ?_) (fun hc => ?_)
                · rw [if_pos hc] at hf
                  cases hf
                  exact zr_lv [0, 1, 2, 3, 4] rfl hj29
                · rw [if_neg hc] at hf
                  refine zr_iinc (j := 4) (x6_25 + (-1)) [(6, .int (x6_25 + (-1))), (2, .int x2), (3, .int x3), (4, .int x4_13), (5, .int x5_14)] dX12_unsure_123 rfl rfl (Nat.le_of_ble_eq_true rfl) rfl ?_
                  refine zr_goto 107 dX12_unsure_126 (by decide) ?_
                  exact zr_lv [1, 2, 3, 4, 0] rfl (ih27 (x6_25 + (-1)) hf)
          exact zr_lv [1, 2, 3, 4, 0] rfl (hL32 _ x5_14 hf)
        · rw [if_pos hc] at hf
          refine zr_ldc2 zl_1161 dX12_unsure_99 ?_
          cases hf
          exact zr_lret dX12_unsure_102
      clear hf
      have hf := hg
      clear hg
      have hL24 : ∀ (n : Nat) (x4_8 : Int32) (x5_9 : Int32) (x6_10 : Int32), zf3 (fX12_unsure_l36 m6 x0) n x4_8 x5_9 x6_10 = some (x4_13, x5_14) → zz K cX12_unsure (10, RX12, some .long, 3, 0, 0, some (.long r), mo) 0 0 36 [(0, .ref x0), (2, .int x2), (3, .int x3), (4, .int x4_8), (5, .int x5_9), (6, .int x6_10)] [] m6 := by
        intro n
        induction n with
        | zero => intro x4_8 x5_9 x6_10 hf; cases hf
        | succ n ih12 =>
          intro x4_8 x5_9 x6_10 hf
          replace hf := zf3_s hf
          generalize zf3 (fX12_unsure_l36 m6 x0) n = F11 at hf ih12
          unfold fX12_unsure_l36 at hf
          refine zr_iload 5 dX12_unsure_36 rfl ?_
          refine zr_bipush 8 dX12_unsure_38 (by decide) ?_
          refine zr_icmp_ge 94 dX12_unsure_40 (by decide) (fun hc => ?_) (fun hc => ?_)
          · rw [if_pos hc] at hf
            cases hf
            exact zr_lv [1, 2, 3, 4] rfl hj15
          · rw [if_neg hc] at hf
            refine zr_iload 3 dX12_unsure_43 rfl ?_
            refine zr_aload_n 0 dX12_unsure_45 rfl ?_
            refine zr_iconst 3 dX12_unsure_46 (by decide) ?_
            refine zr_iload 5 dX12_unsure_47 rfl ?_
            refine zr_iadd dX12_unsure_49 ?_
            replace hf := zb1_s hf
            obtain ⟨v17, h16, hf⟩ := hf
            refine zr_callV (ci := 12) [.int (3 + x6_10)] (cX12_of_ok h16) zvs_X12_of zl_918 zl_919 (fX12_of_ck h16) rfl rfl zl_917 rfl (Nat.le_of_ble_eq_true rfl) (Nat.le_of_ble_eq_true rfl) (Nat.le_of_ble_eq_true rfl) (Nat.le_of_ble_eq_true rfl) dX12_unsure_50 rfl ?_
            refine zr_iload 5 dX12_unsure_53 rfl ?_
            replace hf := zb1_s hf
            obtain ⟨s18, hg, hf⟩ := hf
            have hj19 : zz K cX12_unsure (10, RX12, some .long, 3, 0, 0, some (.long r), mo) 0 0 71 [(0, .ref x0), (2, .int x2), (3, .int x3), (5, .int x5_9), (6, .int x6_10)] [.int s18, .int x4_8] m6 := by
              refine zr_iadd dX12_unsure_71 ?_
              refine zr_istore [(4, .int (x4_8 + s18)), (0, .ref x0), (2, .int x2), (3, .int x3), (5, .int x5_9), (6, .int x6_10)] dX12_unsure_72 (Nat.le_of_ble_eq_true rfl) rfl ?_
              refine zr_iload 4 dX12_unsure_74 rfl ?_
              refine zr_aload_n 1 dX12_unsure_76 rfl ?_
              refine zr_bipush 19 dX12_unsure_77 (by decide) ?_
              refine zr_iload 5 dX12_unsure_79 rfl ?_
              refine zr_iadd dX12_unsure_81 ?_
              replace hf := zb1_s hf
              obtain ⟨v21, h20, hf⟩ := hf
              refine zr_callV (ci := 12) [.int (19 + x6_10)] (cX12_of_ok h20) zvs_X12_of zl_918 zl_919 (fX12_of_ck h20) rfl rfl zl_917 rfl (Nat.le_of_ble_eq_true rfl) (Nat.le_of_ble_eq_true rfl) (Nat.le_of_ble_eq_true rfl) (Nat.le_of_ble_eq_true rfl) dX12_unsure_82 rfl ?_
              refine zr_iadd dX12_unsure_85 ?_
              refine zr_istore [(5, .int (x5_9 + v21)), (4, .int (x4_8 + s18)), (0, .ref x0), (2, .int x2), (3, .int x3), (6, .int x6_10)] dX12_unsure_86 (Nat.le_of_ble_eq_true rfl) rfl ?_
              refine zr_iinc (j := 5) (x6_10 + 1) [(6, .int (x6_10 + 1)), (5, .int (x5_9 + v21)), (4, .int (x4_8 + s18)), (0, .ref x0), (2, .int x2), (3, .int x3)] dX12_unsure_88 rfl rfl (Nat.le_of_ble_eq_true rfl) rfl ?_
              refine zr_goto 36 dX12_unsure_91 (by decide) ?_
              exact zr_lv [3, 4, 5, 2, 1, 0] rfl (ih12 (x4_8 + s18) (x5_9 + v21) (x6_10 + 1) hf)
            clear hf
            have hf := hg
            clear hg
            refine zr_icmp_ne 70 dX12_unsure_55 (by decide) (fun hc => ?_) (fun hc => ?_)
            · rw [if_neg hc] at hf
              refine zr_iconst 0 dX12_unsure_70 (by decide) ?_
              cases hf
              exact zr_lv [0, 1, 2, 4, 5] rfl hj19
            · rw [if_pos hc] at hf
              refine zr_aload_n 0 dX12_unsure_58 rfl ?_
              refine zr_bipush 19 dX12_unsure_59 (by decide) ?_
              refine zr_iload 5 dX12_unsure_61 rfl ?_
              refine zr_iadd dX12_unsure_63 ?_
              replace hf := zb1_s hf
              obtain ⟨v23, h22, hf⟩ := hf
              refine zr_callV (ci := 12) [.int (19 + x6_10)] (cX12_of_ok h22) zvs_X12_of zl_918 zl_919 (fX12_of_ck h22) rfl rfl zl_917 rfl (Nat.le_of_ble_eq_true rfl) (Nat.le_of_ble_eq_true rfl) (Nat.le_of_ble_eq_true rfl) (Nat.le_of_ble_eq_true rfl) dX12_unsure_64 rfl ?_
              refine zr_goto 71 dX12_unsure_67 (by decide) ?_
              cases hf
              exact zr_lv [0, 1, 2, 4, 5] rfl hj19
      exact zr_lv [3, 5, 6, 2, 1, 0] rfl (hL24 _ 0 0 0 hf)
    · rw [if_pos hc] at hf
      refine zr_ldc2 zl_1161 dX12_unsure_23 ?_
      cases hf
      exact zr_lret dX12_unsure_26
