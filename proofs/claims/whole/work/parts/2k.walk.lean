theorem zl_844 : Cond.methodLink RX11 296 yX8_greatestBuyer ∈ zt := zt_at 1275 (by decide +kernel)
theorem zl_845 : Cond.code yX8_priceFor cX8_priceFor 4 (some .int) ∈ zt := zt_at 1280 (by decide +kernel)
theorem zvs_X8_priceFor : zvS yX8_priceFor cX8_priceFor 4 (some .int) 3 := ⟨zl_845, zl_550, ⟨by decide +kernel, by decide +kernel, by decide +kernel⟩, by decide⟩
theorem zl_846 : Cond.methodLink RX11 299 yX8_priceFor ∈ zt := zt_at 1278 (by decide +kernel)
theorem zl_847 : Cond.static yX8_priceFor ∈ zt := zt_at 1279 (by decide +kernel)
theorem dX11_auction_0 : decode cX11_auction 0 = .ok (.aload_n 0, 1) := by decide +kernel
theorem dX11_auction_1 : decode cX11_auction 1 = .ok (.iload_n 1, 1) := by decide +kernel
theorem dX11_auction_2 : decode cX11_auction 2 = .ok (.invokevirtual 89, 3) := by decide +kernel
theorem dX11_auction_5 : decode cX11_auction 5 = .ok (.astore 4, 2) := by decide +kernel
theorem dX11_auction_7 : decode cX11_auction 7 = .ok (.aload 4, 2) := by decide +kernel
theorem dX11_auction_9 : decode cX11_auction 9 = .ok (.ifnull 13, 3) := by decide +kernel
theorem dX11_auction_12 : decode cX11_auction 12 = .ok (.aload 4, 2) := by decide +kernel
theorem dX11_auction_14 : decode cX11_auction 14 = .ok (.iload_n 2, 1) := by decide +kernel
theorem dX11_auction_15 : decode cX11_auction 15 = .ok (.iconst 0, 1) := by decide +kernel
theorem dX11_auction_16 : decode cX11_auction 16 = .ok (.invokevirtual 180, 3) := by decide +kernel
theorem dX11_auction_19 : decode cX11_auction 19 = .ok (.ifCond .ne 5, 3) := by decide +kernel
theorem dX11_auction_22 : decode cX11_auction 22 = .ok (.iconst (-1), 1) := by decide +kernel
theorem dX11_auction_23 : decode cX11_auction 23 = .ok (.ireturn, 1) := by decide +kernel
theorem dX11_auction_24 : decode cX11_auction 24 = .ok (.aload 4, 2) := by decide +kernel
theorem dX11_auction_26 : decode cX11_auction 26 = .ok (.iconst (-1), 1) := by decide +kernel
theorem dX11_auction_27 : decode cX11_auction 27 = .ok (.invokestatic 296, 3) := by decide +kernel
theorem dX11_auction_30 : decode cX11_auction 30 = .ok (.istore 5, 2) := by decide +kernel
theorem dX11_auction_32 : decode cX11_auction 32 = .ok (.iload 5, 2) := by decide +kernel
theorem dX11_auction_34 : decode cX11_auction 34 = .ok (.iconst (-1), 1) := by decide +kernel
theorem dX11_auction_35 : decode cX11_auction 35 = .ok (.if_icmp .eq 21, 3) := by decide +kernel
theorem dX11_auction_38 : decode cX11_auction 38 = .ok (.aload 4, 2) := by decide +kernel
theorem dX11_auction_40 : decode cX11_auction 40 = .ok (.getfield 184, 3) := by decide +kernel
theorem dX11_auction_43 : decode cX11_auction 43 = .ok (.iload 5, 2) := by decide +kernel
theorem dX11_auction_45 : decode cX11_auction 45 = .ok (.iaload, 1) := by decide +kernel
theorem dX11_auction_46 : decode cX11_auction 46 = .ok (.aload 4, 2) := by decide +kernel
theorem dX11_auction_48 : decode cX11_auction 48 = .ok (.getfield 184, 3) := by decide +kernel
theorem dX11_auction_51 : decode cX11_auction 51 = .ok (.iload_n 2, 1) := by decide +kernel
theorem dX11_auction_52 : decode cX11_auction 52 = .ok (.iaload, 1) := by decide +kernel
theorem dX11_auction_53 : decode cX11_auction 53 = .ok (.if_icmp .ge 5, 3) := by decide +kernel
theorem dX11_auction_56 : decode cX11_auction 56 = .ok (.iconst (-1), 1) := by decide +kernel
theorem dX11_auction_57 : decode cX11_auction 57 = .ok (.ireturn, 1) := by decide +kernel
theorem dX11_auction_58 : decode cX11_auction 58 = .ok (.iload_n 3, 1) := by decide +kernel
theorem dX11_auction_59 : decode cX11_auction 59 = .ok (.ifCond .eq 14, 3) := by decide +kernel
theorem dX11_auction_62 : decode cX11_auction 62 = .ok (.aload 4, 2) := by decide +kernel
theorem dX11_auction_64 : decode cX11_auction 64 = .ok (.iload_n 2, 1) := by decide +kernel
theorem dX11_auction_65 : decode cX11_auction 65 = .ok (.iload 5, 2) := by decide +kernel
theorem dX11_auction_67 : decode cX11_auction 67 = .ok (.invokestatic 299, 3) := by decide +kernel
theorem dX11_auction_70 : decode cX11_auction 70 = .ok (.goto 5, 3) := by decide +kernel
theorem dX11_auction_73 : decode cX11_auction 73 = .ok (.iload 5, 2) := by decide +kernel
theorem dX11_auction_75 : decode cX11_auction 75 = .ok (.ireturn, 1) := by decide +kernel
noncomputable def fX11_auction (μ : zM) (x0 : Nat) (x1 : Int32) (x2 : Int32) (x3 : Int32) : Option (Int32) := zgd (zm_ck μ 11 x0) <|
  zb1 (fX11_valleyAt μ x0 x1) fun v2 =>
  zmo v2 (
  some (-1)) fun a3 =>
  zb1 (fX9_isOfKind μ a3 x2 0) fun v5 =>
  if v5 = 0 then (
  some (-1))
  else (
  zb1 (fX8_greatestBuyer μ a3 (-1)) fun v7 =>
  if v7 = (-1) then (
  some (-1))
  else (
  zb1 (zm_gR μ 9 a3 7) fun v8 =>
  zb1 (zm_aI μ 0 v8 v7) fun v10 =>
  zb1 (zm_gR μ 9 a3 7) fun v12 =>
  zb1 (zm_aI μ 0 v12 x2) fun v14 =>
  if v14 ≤ v10 then (
  zb1 (if x3 = 0 then (
  some v7)
  else (
  zb1 (fX8_priceFor μ a3 x2 v7) fun v19 =>
  some v19) : Option (Int32)) fun (s16 : Int32) =>
  some s16)
  else (
  some (-1))))
theorem fX11_auction_ck {μ : zM} {x0 : Nat} {x1 : Int32} {x2 : Int32} {x3 : Int32} {z : Int32} (h : fX11_auction μ x0 x1 x2 x3 = some z) : zm_ck μ 11 x0 = true := (zgd_s h).1
set_option maxHeartbeats 4000000 in
set_option maxRecDepth 100000 in
theorem cX11_auction_ok {μ : zM} {x0 : Nat} {x1 : Int32} {x2 : Int32} {x3 : Int32} {r : Int32} (hf : fX11_auction μ x0 x1 x2 x3 = some r) : zC yX11_auction cX11_auction 6 (some .int) 5 0 0 [.ref x0, .int x1, .int x2, .int x3] μ (some (.int r)) μ := by
  replace hf := (zgd_s hf).2
  refine zC.of (by decide) (Nat.le_of_ble_eq_true rfl) (fun K hin => ?_)
  clear hin
  show zz K cX11_auction (6, RX11, some .int, 5, 0, 0, some (.int r), μ) 0 0 0 [(0, .ref x0), (1, .int x1), (2, .int x2), (3, .int x3)] [] μ
  refine zr_aload_n 0 dX11_auction_0 rfl ?_
  refine zr_iload_n 1 dX11_auction_1 rfl ?_
  replace hf := zb1_s hf
  obtain ⟨v2, h1, hf⟩ := hf
  refine zr_callV (ci := 11) [.int x1] (cX11_valleyAt_ok h1) zvs_X11_valleyAt zl_684 zl_685 (fX11_valleyAt_ck h1) rfl rfl zl_683 rfl (Nat.le_of_ble_eq_true rfl) (Nat.le_of_ble_eq_true rfl) (Nat.le_of_ble_eq_true rfl) (Nat.le_of_ble_eq_true rfl) dX11_auction_2 rfl ?_
  refine zr_ostore [(4, va_rf v2), (0, .ref x0), (1, .int x1), (2, .int x2), (3, .int x3)] dX11_auction_5 (Nat.le_of_ble_eq_true rfl) rfl ?_
  refine zr_oload 0 dX11_auction_7 rfl ?_
  cases v2 with
  | none =>
    replace hf := zmo_n hf
    refine zr_ifnull_n 22 dX11_auction_9 (by decide) ?_
    refine zr_iconst (-1) dX11_auction_22 (by decide) ?_
    cases hf
    exact zr_iret dX11_auction_23
  | some a3 =>
    replace hf := zmo_s hf
    refine zr_ifnull_r dX11_auction_9 ?_
    refine zr_aload 0 dX11_auction_12 rfl ?_
    refine zr_iload_n 3 dX11_auction_14 rfl ?_
    refine zr_iconst 0 dX11_auction_15 (by decide) ?_
    replace hf := zb1_s hf
    obtain ⟨v5, h4, hf⟩ := hf
    refine zr_callV (ci := 9) [.int x2, .int 0] (cX9_isOfKind_ok h4) zvs_X9_isOfKind zl_546 zl_547 (fX9_isOfKind_ck h4) rfl rfl zl_740 rfl (Nat.le_of_ble_eq_true rfl) (Nat.le_of_ble_eq_true rfl) (Nat.le_of_ble_eq_true rfl) (Nat.le_of_ble_eq_true rfl) dX11_auction_16 rfl ?_
    refine zr_if_ne 24 dX11_auction_19 (by decide) (fun hc => ?_) (fun hc => ?_)
    · rw [if_neg hc] at hf
      refine zr_aload 0 dX11_auction_24 rfl ?_
      refine zr_iconst (-1) dX11_auction_26 (by decide) ?_
      replace hf := zb1_s hf
      obtain ⟨v7, h6, hf⟩ := hf
      refine zr_callS [.ref a3, .int (-1)] (cX8_greatestBuyer_ok h6) zvs_X8_greatestBuyer zl_579 zl_844 rfl (Nat.le_of_ble_eq_true rfl) (Nat.le_of_ble_eq_true rfl) (Nat.le_of_ble_eq_true rfl) (Nat.le_of_ble_eq_true rfl) dX11_auction_27 rfl ?_
      refine zr_istore [(5, .int v7), (4, .ref a3), (0, .ref x0), (1, .int x1), (2, .int x2), (3, .int x3)] dX11_auction_30 (Nat.le_of_ble_eq_true rfl) rfl ?_
      refine zr_iload 0 dX11_auction_32 rfl ?_
      refine zr_iconst (-1) dX11_auction_34 (by decide) ?_
      refine zr_icmp_eq 56 dX11_auction_35 (by decide) (fun hc => ?_) (fun hc => ?_)
      · rw [if_pos hc] at hf
        refine zr_iconst (-1) dX11_auction_56 (by decide) ?_
        cases hf
        exact zr_iret dX11_auction_57
      · rw [if_neg hc] at hf
        refine zr_aload 1 dX11_auction_38 rfl ?_
        replace hf := zb1_s hf
        obtain ⟨v8, h9, hf⟩ := hf
        refine zr_get (zm_gR_g h9) zk9 (by decide) zl_741 dX11_auction_40 ?_
        refine zr_iload 0 dX11_auction_43 rfl ?_
        replace hf := zb1_s hf
        obtain ⟨v10, h11, hf⟩ := hf
        refine zr_iald h11 dX11_auction_45 ?_
        refine zr_aload 1 dX11_auction_46 rfl ?_
        replace hf := zb1_s hf
        obtain ⟨v12, h13, hf⟩ := hf
        refine zr_get (zm_gR_g h13) zk9 (by decide) zl_741 dX11_auction_48 ?_
        refine zr_iload_n 4 dX11_auction_51 rfl ?_
        replace hf := zb1_s hf
        obtain ⟨v14, h15, hf⟩ := hf
        refine zr_iald h15 dX11_auction_52 ?_
        refine zr_icmp_ge 58 dX11_auction_53 (by decide) (fun hc => ?_) (fun hc => ?_)
        · rw [if_pos hc] at hf
          refine zr_iload_n 5 dX11_auction_58 rfl ?_
          replace hf := zb1_s hf
          obtain ⟨s16, hg, hf⟩ := hf
          have hj17 : zz K cX11_auction (6, RX11, some .int, 5, 0, 0, some (.int r), μ) 0 0 75 [] [.int s16] μ := by
            cases hf
            exact zr_iret dX11_auction_75
          clear hf
          have hf := hg
          clear hg
          refine zr_if_eq 73 dX11_auction_59 (by decide) (fun hc => ?_) (fun hc => ?_)
          · rw [if_pos hc] at hf
            refine zr_iload 0 dX11_auction_73 rfl ?_
            cases hf
            exact zr_lv [] rfl hj17
          · rw [if_neg hc] at hf
            refine zr_aload 1 dX11_auction_62 rfl ?_
            refine zr_iload_n 4 dX11_auction_64 rfl ?_
            refine zr_iload 0 dX11_auction_65 rfl ?_
            replace hf := zb1_s hf
            obtain ⟨v19, h18, hf⟩ := hf
            refine zr_callS [.ref a3, .int x2, .int v7] (cX8_priceFor_ok h18) zvs_X8_priceFor zl_847 zl_846 rfl (Nat.le_of_ble_eq_true rfl) (Nat.le_of_ble_eq_true rfl) (Nat.le_of_ble_eq_true rfl) (Nat.le_of_ble_eq_true rfl) dX11_auction_67 rfl ?_
            refine zr_goto 75 dX11_auction_70 (by decide) ?_
            cases hf
            exact zr_lv [] rfl hj17
        · rw [if_neg hc] at hf
          refine zr_iconst (-1) dX11_auction_56 (by decide) ?_
          cases hf
          exact zr_iret dX11_auction_57
    · rw [if_pos hc] at hf
      refine zr_iconst (-1) dX11_auction_22 (by decide) ?_
      cases hf
      exact zr_iret dX11_auction_23
theorem zl_848 : Cond.fieldLink RX11 302 "TwoEchoes$Company" "reached" "[I" ∈ zt := zt_at 474 (by decide +kernel)
theorem dX11_relayed_0 : decode cX11_relayed 0 = .ok (.aload_n 0, 1) := by decide +kernel
theorem dX11_relayed_1 : decode cX11_relayed 1 = .ok (.iload_n 1, 1) := by decide +kernel
theorem dX11_relayed_2 : decode cX11_relayed 2 = .ok (.invokevirtual 89, 3) := by decide +kernel
theorem dX11_relayed_5 : decode cX11_relayed 5 = .ok (.astore 5, 2) := by decide +kernel
theorem dX11_relayed_7 : decode cX11_relayed 7 = .ok (.aload 5, 2) := by decide +kernel
theorem dX11_relayed_9 : decode cX11_relayed 9 = .ok (.ifnull 29, 3) := by decide +kernel
theorem dX11_relayed_12 : decode cX11_relayed 12 = .ok (.aload 5, 2) := by decide +kernel
theorem dX11_relayed_14 : decode cX11_relayed 14 = .ok (.iload_n 2, 1) := by decide +kernel
theorem dX11_relayed_15 : decode cX11_relayed 15 = .ok (.invokevirtual 272, 3) := by decide +kernel
theorem dX11_relayed_18 : decode cX11_relayed 18 = .ok (.ifCond .eq 20, 3) := by decide +kernel
theorem dX11_relayed_21 : decode cX11_relayed 21 = .ok (.aload 5, 2) := by decide +kernel
theorem dX11_relayed_23 : decode cX11_relayed 23 = .ok (.iload_n 3, 1) := by decide +kernel
theorem dX11_relayed_24 : decode cX11_relayed 24 = .ok (.invokevirtual 272, 3) := by decide +kernel
theorem dX11_relayed_27 : decode cX11_relayed 27 = .ok (.ifCond .eq 11, 3) := by decide +kernel
theorem dX11_relayed_30 : decode cX11_relayed 30 = .ok (.iload 4, 2) := by decide +kernel
theorem dX11_relayed_32 : decode cX11_relayed 32 = .ok (.invokestatic 106, 3) := by decide +kernel
theorem dX11_relayed_35 : decode cX11_relayed 35 = .ok (.ifCond .ne 5, 3) := by decide +kernel
theorem dX11_relayed_38 : decode cX11_relayed 38 = .ok (.iconst (-1), 1) := by decide +kernel
theorem dX11_relayed_39 : decode cX11_relayed 39 = .ok (.ireturn, 1) := by decide +kernel
theorem dX11_relayed_40 : decode cX11_relayed 40 = .ok (.aload_n 0, 1) := by decide +kernel
theorem dX11_relayed_41 : decode cX11_relayed 41 = .ok (.getfield 57, 3) := by decide +kernel
theorem dX11_relayed_44 : decode cX11_relayed 44 = .ok (.aload 5, 2) := by decide +kernel
theorem dX11_relayed_46 : decode cX11_relayed 46 = .ok (.iload_n 2, 1) := by decide +kernel
theorem dX11_relayed_47 : decode cX11_relayed 47 = .ok (.iload 4, 2) := by decide +kernel
theorem dX11_relayed_49 : decode cX11_relayed 49 = .ok (.iconst 1, 1) := by decide +kernel
theorem dX11_relayed_50 : decode cX11_relayed 50 = .ok (.invokevirtual 275, 3) := by decide +kernel
theorem dX11_relayed_53 : decode cX11_relayed 53 = .ok (.aload_n 0, 1) := by decide +kernel
theorem dX11_relayed_54 : decode cX11_relayed 54 = .ok (.getfield 57, 3) := by decide +kernel
theorem dX11_relayed_57 : decode cX11_relayed 57 = .ok (.getfield 302, 3) := by decide +kernel
theorem dX11_relayed_60 : decode cX11_relayed 60 = .ok (.iload_n 3, 1) := by decide +kernel
theorem dX11_relayed_61 : decode cX11_relayed 61 = .ok (.iaload, 1) := by decide +kernel
theorem dX11_relayed_62 : decode cX11_relayed 62 = .ok (.ireturn, 1) := by decide +kernel
noncomputable def fX11_relayed (μ : zM) (x0 : Nat) (x1 : Int32) (x2 : Int32) (x3 : Int32) (x4 : Int32) : Option (Int32 × zM) := zgd (zm_ck μ 11 x0) <|
  zb1 (fX11_valleyAt μ x0 x1) fun v2 =>
  zmo v2 (
  some ((-1), μ)) fun a3 =>
  zb1 (fX9_hasPerson μ a3 x2) fun v5 =>
  if v5 = 0 then (
  some ((-1), μ))
  else (
  zb1 (fX9_hasPerson μ a3 x3) fun v7 =>
  if v7 = 0 then (
  some ((-1), μ))
  else (
  zb1 (fX11_isLoud μ x4) fun v9 =>
  if v9 = 0 then (
  some ((-1), μ))
  else (
  zb1 (zm_gR μ 11 x0 6) fun v10 =>
  zb1 (fX0_reach μ v10 a3 x2 x4 1) fun m13 =>
  zb1 (zm_gR m13 11 x0 6) fun v14 =>
  zb1 (zm_gR m13 0 v14 0) fun v16 =>
  zb1 (zm_aI m13 0 v16 x3) fun v18 =>
  some (v18, m13))))
theorem fX11_relayed_ck {μ : zM} {x0 : Nat} {x1 : Int32} {x2 : Int32} {x3 : Int32} {x4 : Int32} {z : Int32 × zM} (h : fX11_relayed μ x0 x1 x2 x3 x4 = some z) : zm_ck μ 11 x0 = true := (zgd_s h).1
set_option maxHeartbeats 4000000 in
set_option maxRecDepth 100000 in
theorem cX11_relayed_ok {μ : zM} {x0 : Nat} {x1 : Int32} {x2 : Int32} {x3 : Int32} {x4 : Int32} {r : Int32} {mo : zM} (hf : fX11_relayed μ x0 x1 x2 x3 x4 = some (r, mo)) : zC yX11_relayed cX11_relayed 6 (some .int) 4 0 0 [.ref x0, .int x1, .int x2, .int x3, .int x4] μ (some (.int r)) mo := by
  replace hf := (zgd_s hf).2
  refine zC.of (by decide) (Nat.le_of_ble_eq_true rfl) (fun K hin => ?_)
  clear hin
  show zz K cX11_relayed (6, RX11, some .int, 4, 0, 0, some (.int r), mo) 0 0 0 [(0, .ref x0), (1, .int x1), (2, .int x2), (3, .int x3), (4, .int x4)] [] μ
  refine zr_aload_n 0 dX11_relayed_0 rfl ?_
  refine zr_iload_n 1 dX11_relayed_1 rfl ?_
  replace hf := zb1_s hf
  obtain ⟨v2, h1, hf⟩ := hf
  refine zr_callV (ci := 11) [.int x1] (cX11_valleyAt_ok h1) zvs_X11_valleyAt zl_684 zl_685 (fX11_valleyAt_ck h1) rfl rfl zl_683 rfl (Nat.le_of_ble_eq_true rfl) (Nat.le_of_ble_eq_true rfl) (Nat.le_of_ble_eq_true rfl) (Nat.le_of_ble_eq_true rfl) dX11_relayed_2 rfl ?_
  refine zr_ostore [(5, va_rf v2), (0, .ref x0), (1, .int x1), (2, .int x2), (3, .int x3), (4, .int x4)] dX11_relayed_5 (Nat.le_of_ble_eq_true rfl) rfl ?_
  refine zr_oload 0 dX11_relayed_7 rfl ?_
  cases v2 with
  | none =>
    replace hf := zmo_n hf
    refine zr_ifnull_n 38 dX11_relayed_9 (by decide) ?_
    refine zr_iconst (-1) dX11_relayed_38 (by decide) ?_
    cases hf
    exact zr_iret dX11_relayed_39
  | some a3 =>
    replace hf := zmo_s hf
    refine zr_ifnull_r dX11_relayed_9 ?_
    refine zr_aload 0 dX11_relayed_12 rfl ?_
    refine zr_iload_n 3 dX11_relayed_14 rfl ?_
    replace hf := zb1_s hf
    obtain ⟨v5, h4, hf⟩ := hf
    refine zr_callV (ci := 9) [.int x2] (cX9_hasPerson_ok h4) zvs_X9_hasPerson zl_136 zl_137 (fX9_hasPerson_ck h4) rfl rfl zl_824 rfl (Nat.le_of_ble_eq_true rfl) (Nat.le_of_ble_eq_true rfl) (Nat.le_of_ble_eq_true rfl) (Nat.le_of_ble_eq_true rfl) dX11_relayed_15 rfl ?_
    refine zr_if_eq 38 dX11_relayed_18 (by decide) (fun hc => ?_) (fun hc => ?_)
    · rw [if_pos hc] at hf
      refine zr_iconst (-1) dX11_relayed_38 (by decide) ?_
      cases hf
      exact zr_iret dX11_relayed_39
    · rw [if_neg hc] at hf
      refine zr_aload 0 dX11_relayed_21 rfl ?_
      refine zr_iload_n 4 dX11_relayed_23 rfl ?_
      replace hf := zb1_s hf
      obtain ⟨v7, h6, hf⟩ := hf
      refine zr_callV (ci := 9) [.int x3] (cX9_hasPerson_ok h6) zvs_X9_hasPerson zl_136 zl_137 (fX9_hasPerson_ck h6) rfl rfl zl_824 rfl (Nat.le_of_ble_eq_true rfl) (Nat.le_of_ble_eq_true rfl) (Nat.le_of_ble_eq_true rfl) (Nat.le_of_ble_eq_true rfl) dX11_relayed_24 rfl ?_
      refine zr_if_eq 38 dX11_relayed_27 (by decide) (fun hc => ?_) (fun hc => ?_)
      · rw [if_pos hc] at hf
        refine zr_iconst (-1) dX11_relayed_38 (by decide) ?_
        cases hf
        exact zr_iret dX11_relayed_39
      · rw [if_neg hc] at hf
        refine zr_iload 5 dX11_relayed_30 rfl ?_
        replace hf := zb1_s hf
        obtain ⟨v9, h8, hf⟩ := hf
        refine zr_callS [.int x4] (cX11_isLoud_ok h8) zvs_X11_isLoud zl_694 zl_693 rfl (Nat.le_of_ble_eq_true rfl) (Nat.le_of_ble_eq_true rfl) (Nat.le_of_ble_eq_true rfl) (Nat.le_of_ble_eq_true rfl) dX11_relayed_32 rfl ?_
        refine zr_if_ne 40 dX11_relayed_35 (by decide) (fun hc => ?_) (fun hc => ?_)
        · rw [if_neg hc] at hf
          refine zr_aload_n 1 dX11_relayed_40 rfl ?_
          replace hf := zb1_s hf
          obtain ⟨v10, h11, hf⟩ := hf
          refine zr_get (zm_gR_g h11) zk11 (by decide) zl_658 dX11_relayed_41 ?_
          refine zr_aload 0 dX11_relayed_44 rfl ?_
          refine zr_iload_n 3 dX11_relayed_46 rfl ?_
          refine zr_iload 5 dX11_relayed_47 rfl ?_
          refine zr_iconst 1 dX11_relayed_49 (by decide) ?_
          replace hf := zb1_s hf
          obtain ⟨m13, h12, hf⟩ := hf
          refine zr_callV (ci := 0) [.ref a3, .int x2, .int x4, .int 1] (cX0_reach_ok h12) zvs_X0_reach zl_827 zl_828 (fX0_reach_ck h12) rfl rfl zl_826 rfl (Nat.le_of_ble_eq_true rfl) (Nat.le_of_ble_eq_true rfl) (Nat.le_of_ble_eq_true rfl) (Nat.le_of_ble_eq_true rfl) dX11_relayed_50 rfl ?_
          refine zr_aload_n 1 dX11_relayed_53 rfl ?_
          replace hf := zb1_s hf
          obtain ⟨v14, h15, hf⟩ := hf
          refine zr_get (zm_gR_g h15) zk11 (by decide) zl_658 dX11_relayed_54 ?_
          replace hf := zb1_s hf
          obtain ⟨v16, h17, hf⟩ := hf
          refine zr_get (zm_gR_g h17) zk0 (by decide) zl_848 dX11_relayed_57 ?_
          refine zr_iload_n 4 dX11_relayed_60 rfl ?_
          replace hf := zb1_s hf
          obtain ⟨v18, h19, hf⟩ := hf
          refine zr_iald h19 dX11_relayed_61 ?_
          cases hf
          exact zr_iret dX11_relayed_62
        · rw [if_pos hc] at hf
          refine zr_iconst (-1) dX11_relayed_38 (by decide) ?_
          cases hf
          exact zr_iret dX11_relayed_39
theorem zl_849 : Cond.fieldLink RX11 308 "TwoEchoes$Valley" "sky" "[I" ∈ zt := zt_at 208 (by decide +kernel)
theorem zl_850 : Cond.code yX9_longestClear cX9_longestClear 4 (some .int) ∈ zt := zt_at 1293 (by decide +kernel)
theorem zvs_X9_longestClear : zvS yX9_longestClear cX9_longestClear 4 (some .int) 0 := ⟨zl_850, zl_14, ⟨by decide +kernel, by decide +kernel, by decide +kernel⟩, by decide⟩
theorem zl_851 : Cond.methodLink RX11 305 yX9_longestClear ∈ zt := zt_at 1290 (by decide +kernel)
theorem zl_852 : Cond.instanceMethod yX9_longestClear ∈ zt := zt_at 1291 (by decide +kernel)
theorem zl_853 : Cond.selects RX9 yX9_longestClear yX9_longestClear ∈ zt := zt_at 1292 (by decide +kernel)
theorem dX11_weather_0 : decode cX11_weather 0 = .ok (.aload_n 0, 1) := by decide +kernel
theorem dX11_weather_1 : decode cX11_weather 1 = .ok (.iload_n 1, 1) := by decide +kernel
theorem dX11_weather_2 : decode cX11_weather 2 = .ok (.invokevirtual 89, 3) := by decide +kernel
theorem dX11_weather_5 : decode cX11_weather 5 = .ok (.astore_n 3, 1) := by decide +kernel
theorem dX11_weather_6 : decode cX11_weather 6 = .ok (.aload_n 3, 1) := by decide +kernel
theorem dX11_weather_7 : decode cX11_weather 7 = .ok (.ifnonnull 5, 3) := by decide +kernel
theorem dX11_weather_10 : decode cX11_weather 10 = .ok (.iconst (-1), 1) := by decide +kernel
theorem dX11_weather_11 : decode cX11_weather 11 = .ok (.ireturn, 1) := by decide +kernel
theorem dX11_weather_12 : decode cX11_weather 12 = .ok (.iload_n 2, 1) := by decide +kernel
theorem dX11_weather_13 : decode cX11_weather 13 = .ok (.iconst (-1), 1) := by decide +kernel
theorem dX11_weather_14 : decode cX11_weather 14 = .ok (.if_icmp .ne 8, 3) := by decide +kernel
theorem dX11_weather_17 : decode cX11_weather 17 = .ok (.aload_n 3, 1) := by decide +kernel
theorem dX11_weather_18 : decode cX11_weather 18 = .ok (.invokevirtual 305, 3) := by decide +kernel
theorem dX11_weather_21 : decode cX11_weather 21 = .ok (.ireturn, 1) := by decide +kernel
theorem dX11_weather_22 : decode cX11_weather 22 = .ok (.iload_n 2, 1) := by decide +kernel
theorem dX11_weather_23 : decode cX11_weather 23 = .ok (.invokestatic 109, 3) := by decide +kernel
theorem dX11_weather_26 : decode cX11_weather 26 = .ok (.ifCond .eq 12, 3) := by decide +kernel
theorem dX11_weather_29 : decode cX11_weather 29 = .ok (.aload_n 3, 1) := by decide +kernel
theorem dX11_weather_30 : decode cX11_weather 30 = .ok (.getfield 308, 3) := by decide +kernel
theorem dX11_weather_33 : decode cX11_weather 33 = .ok (.iload_n 2, 1) := by decide +kernel
theorem dX11_weather_34 : decode cX11_weather 34 = .ok (.iaload, 1) := by decide +kernel
theorem dX11_weather_35 : decode cX11_weather 35 = .ok (.goto 4, 3) := by decide +kernel
theorem dX11_weather_38 : decode cX11_weather 38 = .ok (.iconst (-1), 1) := by decide +kernel
theorem dX11_weather_39 : decode cX11_weather 39 = .ok (.ireturn, 1) := by decide +kernel
noncomputable def fX11_weather (μ : zM) (x0 : Nat) (x1 : Int32) (x2 : Int32) : Option (Int32) := zgd (zm_ck μ 11 x0) <|
  zb1 (fX11_valleyAt μ x0 x1) fun v2 =>
  zmo v2 (
  some (-1)) fun a3 =>
  if x2 = (-1) then (
  zb1 (fX9_longestClear μ a3) fun v13 =>
  some v13)
  else (
  zb1 (fX11_isMinute μ x2) fun v5 =>
  zb1 (if v5 = 0 then (
  some (-1))
  else (
  zb1 (zm_gR μ 9 a3 12) fun v8 =>
  zb1 (zm_aI μ 0 v8 x2) fun v10 =>
  some v10) : Option (Int32)) fun (s6 : Int32) =>
  some s6)
theorem fX11_weather_ck {μ : zM} {x0 : Nat} {x1 : Int32} {x2 : Int32} {z : Int32} (h : fX11_weather μ x0 x1 x2 = some z) : zm_ck μ 11 x0 = true := (zgd_s h).1
set_option maxHeartbeats 4000000 in
set_option maxRecDepth 100000 in
theorem cX11_weather_ok {μ : zM} {x0 : Nat} {x1 : Int32} {x2 : Int32} {r : Int32} (hf : fX11_weather μ x0 x1 x2 = some r) : zC yX11_weather cX11_weather 4 (some .int) 2 0 0 [.ref x0, .int x1, .int x2] μ (some (.int r)) μ := by
  replace hf := (zgd_s hf).2
  refine zC.of (by decide) (Nat.le_of_ble_eq_true rfl) (fun K hin => ?_)
  clear hin
  show zz K cX11_weather (4, RX11, some .int, 2, 0, 0, some (.int r), μ) 0 0 0 [(0, .ref x0), (1, .int x1), (2, .int x2)] [] μ
  refine zr_aload_n 0 dX11_weather_0 rfl ?_
  refine zr_iload_n 1 dX11_weather_1 rfl ?_
  replace hf := zb1_s hf
  obtain ⟨v2, h1, hf⟩ := hf
  refine zr_callV (ci := 11) [.int x1] (cX11_valleyAt_ok h1) zvs_X11_valleyAt zl_684 zl_685 (fX11_valleyAt_ck h1) rfl rfl zl_683 rfl (Nat.le_of_ble_eq_true rfl) (Nat.le_of_ble_eq_true rfl) (Nat.le_of_ble_eq_true rfl) (Nat.le_of_ble_eq_true rfl) dX11_weather_2 rfl ?_
  refine zr_ostore_n [(3, va_rf v2), (0, .ref x0), (1, .int x1), (2, .int x2)] dX11_weather_5 (Nat.le_of_ble_eq_true rfl) rfl ?_
  refine zr_oload_n 0 dX11_weather_6 rfl ?_
  cases v2 with
  | none =>
    replace hf := zmo_n hf
    refine zr_ifnonnull_n dX11_weather_7 ?_
    refine zr_iconst (-1) dX11_weather_10 (by decide) ?_
    cases hf
    exact zr_iret dX11_weather_11
  | some a3 =>
    replace hf := zmo_s hf
    refine zr_ifnonnull_r 12 dX11_weather_7 (by decide) ?_
    refine zr_iload_n 3 dX11_weather_12 rfl ?_
    refine zr_iconst (-1) dX11_weather_13 (by decide) ?_
    refine zr_icmp_ne 22 dX11_weather_14 (by decide) (fun hc => ?_) (fun hc => ?_)
    · rw [if_neg hc] at hf
      refine zr_iload_n 3 dX11_weather_22 rfl ?_
      replace hf := zb1_s hf
      obtain ⟨v5, h4, hf⟩ := hf
      refine zr_callS [.int x2] (cX11_isMinute_ok h4) zvs_X11_isMinute zl_120 zl_695 rfl (Nat.le_of_ble_eq_true rfl) (Nat.le_of_ble_eq_true rfl) (Nat.le_of_ble_eq_true rfl) (Nat.le_of_ble_eq_true rfl) dX11_weather_23 rfl ?_
      replace hf := zb1_s hf
      obtain ⟨s6, hg, hf⟩ := hf
      have hj7 : zz K cX11_weather (4, RX11, some .int, 2, 0, 0, some (.int r), μ) 0 0 39 [] [.int s6] μ := by
        cases hf
        exact zr_iret dX11_weather_39
      clear hf
      have hf := hg
      clear hg
      refine zr_if_eq 38 dX11_weather_26 (by decide) (fun hc => ?_) (fun hc => ?_)
      · rw [if_pos hc] at hf
        refine zr_iconst (-1) dX11_weather_38 (by decide) ?_
        cases hf
        exact zr_lv [] rfl hj7
      · rw [if_neg hc] at hf
        refine zr_aload_n 0 dX11_weather_29 rfl ?_
        replace hf := zb1_s hf
        obtain ⟨v8, h9, hf⟩ := hf
        refine zr_get (zm_gR_g h9) zk9 (by decide) zl_849 dX11_weather_30 ?_
        refine zr_iload_n 3 dX11_weather_33 rfl ?_
        replace hf := zb1_s hf
        obtain ⟨v10, h11, hf⟩ := hf
        refine zr_iald h11 dX11_weather_34 ?_
        refine zr_goto 39 dX11_weather_35 (by decide) ?_
        cases hf
        exact zr_lv [] rfl hj7
    · rw [if_pos hc] at hf
      refine zr_aload_n 0 dX11_weather_17 rfl ?_
      replace hf := zb1_s hf
      obtain ⟨v13, h12, hf⟩ := hf
      refine zr_callV (ci := 9) [] (cX9_longestClear_ok h12) zvs_X9_longestClear zl_852 zl_853 (fX9_longestClear_ck h12) rfl rfl zl_851 rfl (Nat.le_of_ble_eq_true rfl) (Nat.le_of_ble_eq_true rfl) (Nat.le_of_ble_eq_true rfl) (Nat.le_of_ble_eq_true rfl) dX11_weather_18 rfl ?_
      cases hf
      exact zr_iret dX11_weather_21
theorem zl_854 : Cond.code yX0_match cX0_match 4 (none) ∈ zt := zt_at 1302 (by decide +kernel)
theorem zvs_X0_match : zvS yX0_match cX0_match 4 (none) 1 := ⟨zl_854, zl_31, ⟨by decide +kernel, by decide +kernel, by decide +kernel⟩, by decide⟩
theorem zl_855 : Cond.methodLink RX11 311 yX0_match ∈ zt := zt_at 1299 (by decide +kernel)
theorem zl_856 : Cond.instanceMethod yX0_match ∈ zt := zt_at 1300 (by decide +kernel)
theorem zl_857 : Cond.selects RX0 yX0_match yX0_match ∈ zt := zt_at 1301 (by decide +kernel)
theorem zl_858 : Cond.fieldLink RX11 315 "TwoEchoes$Company" "partner" "[I" ∈ zt := zt_at 476 (by decide +kernel)
theorem dX11_matched_0 : decode cX11_matched 0 = .ok (.aload_n 0, 1) := by decide +kernel
theorem dX11_matched_1 : decode cX11_matched 1 = .ok (.iload_n 1, 1) := by decide +kernel
theorem dX11_matched_2 : decode cX11_matched 2 = .ok (.invokevirtual 89, 3) := by decide +kernel
theorem dX11_matched_5 : decode cX11_matched 5 = .ok (.astore_n 3, 1) := by decide +kernel
theorem dX11_matched_6 : decode cX11_matched 6 = .ok (.aload_n 3, 1) := by decide +kernel
theorem dX11_matched_7 : decode cX11_matched 7 = .ok (.ifnull 11, 3) := by decide +kernel
theorem dX11_matched_10 : decode cX11_matched 10 = .ok (.aload_n 3, 1) := by decide +kernel
theorem dX11_matched_11 : decode cX11_matched 11 = .ok (.iload_n 2, 1) := by decide +kernel
theorem dX11_matched_12 : decode cX11_matched 12 = .ok (.invokevirtual 272, 3) := by decide +kernel
theorem dX11_matched_15 : decode cX11_matched 15 = .ok (.ifCond .ne 5, 3) := by decide +kernel
theorem dX11_matched_18 : decode cX11_matched 18 = .ok (.iconst (-1), 1) := by decide +kernel
theorem dX11_matched_19 : decode cX11_matched 19 = .ok (.ireturn, 1) := by decide +kernel
theorem dX11_matched_20 : decode cX11_matched 20 = .ok (.aload_n 0, 1) := by decide +kernel
theorem dX11_matched_21 : decode cX11_matched 21 = .ok (.getfield 57, 3) := by decide +kernel
theorem dX11_matched_24 : decode cX11_matched 24 = .ok (.aload_n 3, 1) := by decide +kernel
theorem dX11_matched_25 : decode cX11_matched 25 = .ok (.invokevirtual 311, 3) := by decide +kernel
theorem dX11_matched_28 : decode cX11_matched 28 = .ok (.aload_n 0, 1) := by decide +kernel
theorem dX11_matched_29 : decode cX11_matched 29 = .ok (.getfield 57, 3) := by decide +kernel
theorem dX11_matched_32 : decode cX11_matched 32 = .ok (.getfield 315, 3) := by decide +kernel
theorem dX11_matched_35 : decode cX11_matched 35 = .ok (.iload_n 2, 1) := by decide +kernel
theorem dX11_matched_36 : decode cX11_matched 36 = .ok (.iaload, 1) := by decide +kernel
theorem dX11_matched_37 : decode cX11_matched 37 = .ok (.ireturn, 1) := by decide +kernel
noncomputable def fX11_matched (μ : zM) (x0 : Nat) (x1 : Int32) (x2 : Int32) : Option (Int32 × zM) := zgd (zm_ck μ 11 x0) <|
  zb1 (fX11_valleyAt μ x0 x1) fun v2 =>
  zmo v2 (
  some ((-1), μ)) fun a3 =>
  zb1 (fX9_hasPerson μ a3 x2) fun v5 =>
  if v5 = 0 then (
  some ((-1), μ))
  else (
  zb1 (zm_gR μ 11 x0 6) fun v6 =>
  zb1 (fX0_match μ v6 a3) fun m9 =>
  zb1 (zm_gR m9 11 x0 6) fun v10 =>
  zb1 (zm_gR m9 0 v10 1) fun v12 =>
  zb1 (zm_aI m9 0 v12 x2) fun v14 =>
  some (v14, m9))
theorem fX11_matched_ck {μ : zM} {x0 : Nat} {x1 : Int32} {x2 : Int32} {z : Int32 × zM} (h : fX11_matched μ x0 x1 x2 = some z) : zm_ck μ 11 x0 = true := (zgd_s h).1
set_option maxHeartbeats 4000000 in
set_option maxRecDepth 100000 in
theorem cX11_matched_ok {μ : zM} {x0 : Nat} {x1 : Int32} {x2 : Int32} {r : Int32} {mo : zM} (hf : fX11_matched μ x0 x1 x2 = some (r, mo)) : zC yX11_matched cX11_matched 4 (some .int) 6 0 0 [.ref x0, .int x1, .int x2] μ (some (.int r)) mo := by
  replace hf := (zgd_s hf).2
  refine zC.of (by decide) (Nat.le_of_ble_eq_true rfl) (fun K hin => ?_)
  clear hin
  show zz K cX11_matched (4, RX11, some .int, 6, 0, 0, some (.int r), mo) 0 0 0 [(0, .ref x0), (1, .int x1), (2, .int x2)] [] μ
  refine zr_aload_n 0 dX11_matched_0 rfl ?_
  refine zr_iload_n 1 dX11_matched_1 rfl ?_
  replace hf := zb1_s hf
  obtain ⟨v2, h1, hf⟩ := hf
  refine zr_callV (ci := 11) [.int x1] (cX11_valleyAt_ok h1) zvs_X11_valleyAt zl_684 zl_685 (fX11_valleyAt_ck h1) rfl rfl zl_683 rfl (Nat.le_of_ble_eq_true rfl) (Nat.le_of_ble_eq_true rfl) (Nat.le_of_ble_eq_true rfl) (Nat.le_of_ble_eq_true rfl) dX11_matched_2 rfl ?_
  refine zr_ostore_n [(3, va_rf v2), (0, .ref x0), (1, .int x1), (2, .int x2)] dX11_matched_5 (Nat.le_of_ble_eq_true rfl) rfl ?_
  refine zr_oload_n 0 dX11_matched_6 rfl ?_
  cases v2 with
  | none =>
    replace hf := zmo_n hf
    refine zr_ifnull_n 18 dX11_matched_7 (by decide) ?_
    refine zr_iconst (-1) dX11_matched_18 (by decide) ?_
    cases hf
    exact zr_iret dX11_matched_19
  | some a3 =>
    replace hf := zmo_s hf
    refine zr_ifnull_r dX11_matched_7 ?_
    refine zr_aload_n 0 dX11_matched_10 rfl ?_
    refine zr_iload_n 3 dX11_matched_11 rfl ?_
    replace hf := zb1_s hf
    obtain ⟨v5, h4, hf⟩ := hf
    refine zr_callV (ci := 9) [.int x2] (cX9_hasPerson_ok h4) zvs_X9_hasPerson zl_136 zl_137 (fX9_hasPerson_ck h4) rfl rfl zl_824 rfl (Nat.le_of_ble_eq_true rfl) (Nat.le_of_ble_eq_true rfl) (Nat.le_of_ble_eq_true rfl) (Nat.le_of_ble_eq_true rfl) dX11_matched_12 rfl ?_
    refine zr_if_ne 20 dX11_matched_15 (by decide) (fun hc => ?_) (fun hc => ?_)
    · rw [if_neg hc] at hf
      refine zr_aload_n 1 dX11_matched_20 rfl ?_
      replace hf := zb1_s hf
      obtain ⟨v6, h7, hf⟩ := hf
      refine zr_get (zm_gR_g h7) zk11 (by decide) zl_658 dX11_matched_21 ?_
      refine zr_aload_n 0 dX11_matched_24 rfl ?_
      replace hf := zb1_s hf
      obtain ⟨m9, h8, hf⟩ := hf
      refine zr_callV (ci := 0) [.ref a3] (cX0_match_ok h8) zvs_X0_match zl_856 zl_857 (fX0_match_ck h8) rfl rfl zl_855 rfl (Nat.le_of_ble_eq_true rfl) (Nat.le_of_ble_eq_true rfl) (Nat.le_of_ble_eq_true rfl) (Nat.le_of_ble_eq_true rfl) dX11_matched_25 rfl ?_
      refine zr_aload_n 1 dX11_matched_28 rfl ?_
      replace hf := zb1_s hf
      obtain ⟨v10, h11, hf⟩ := hf
      refine zr_get (zm_gR_g h11) zk11 (by decide) zl_658 dX11_matched_29 ?_
      replace hf := zb1_s hf
      obtain ⟨v12, h13, hf⟩ := hf
      refine zr_get (zm_gR_g h13) zk0 (by decide) zl_858 dX11_matched_32 ?_
      refine zr_iload_n 3 dX11_matched_35 rfl ?_
      replace hf := zb1_s hf
      obtain ⟨v14, h15, hf⟩ := hf
      refine zr_iald h15 dX11_matched_36 ?_
      cases hf
      exact zr_iret dX11_matched_37
    · rw [if_pos hc] at hf
      refine zr_iconst (-1) dX11_matched_18 (by decide) ?_
      cases hf
      exact zr_iret dX11_matched_19
theorem dX11_count_0 : decode cX11_count 0 = .ok (.iload_n 1, 1) := by decide +kernel
theorem dX11_count_1 : decode cX11_count 1 = .ok (.ifCond .lt 8, 3) := by decide +kernel
theorem dX11_count_4 : decode cX11_count 4 = .ok (.iload_n 1, 1) := by decide +kernel
theorem dX11_count_5 : decode cX11_count 5 = .ok (.iconst 4, 1) := by decide +kernel
theorem dX11_count_6 : decode cX11_count 6 = .ok (.if_icmp .lt 8, 3) := by decide +kernel
theorem dX11_count_9 : decode cX11_count 9 = .ok (.bipush (-2), 2) := by decide +kernel
theorem dX11_count_11 : decode cX11_count 11 = .ok (.goto 12, 3) := by decide +kernel
theorem dX11_count_14 : decode cX11_count 14 = .ok (.aload_n 0, 1) := by decide +kernel
theorem dX11_count_15 : decode cX11_count 15 = .ok (.getfield 10, 3) := by decide +kernel
theorem dX11_count_18 : decode cX11_count 18 = .ok (.getfield 318, 3) := by decide +kernel
theorem dX11_count_21 : decode cX11_count 21 = .ok (.iload_n 1, 1) := by decide +kernel
theorem dX11_count_22 : decode cX11_count 22 = .ok (.iaload, 1) := by decide +kernel
theorem dX11_count_23 : decode cX11_count 23 = .ok (.ireturn, 1) := by decide +kernel
noncomputable def fX11_count (μ : zM) (x0 : Nat) (x1 : Int32) : Option (Int32) := zgd (zm_ck μ 11 x0) <|
  zb1 (if x1 < 0 then (
  some (-2))
  else (
  if x1 < 4 then (
  zb1 (zm_gR μ 11 x0 0) fun v3 =>
  zb1 (zm_gR μ 7 v3 4) fun v5 =>
  zb1 (zm_aI μ 0 v5 x1) fun v7 =>
  some v7)
  else (
  some (-2))) : Option (Int32)) fun (s1 : Int32) =>
  some s1
theorem fX11_count_ck {μ : zM} {x0 : Nat} {x1 : Int32} {z : Int32} (h : fX11_count μ x0 x1 = some z) : zm_ck μ 11 x0 = true := (zgd_s h).1
set_option maxHeartbeats 4000000 in
set_option maxRecDepth 100000 in
theorem cX11_count_ok {μ : zM} {x0 : Nat} {x1 : Int32} {r : Int32} (hf : fX11_count μ x0 x1 = some r) : zC yX11_count cX11_count 2 (some .int) 0 0 0 [.ref x0, .int x1] μ (some (.int r)) μ := by
  replace hf := (zgd_s hf).2
  refine zC.of (by decide) (Nat.le_of_ble_eq_true rfl) (fun K hin => ?_)
  clear hin
  show zz K cX11_count (2, RX11, some .int, 0, 0, 0, some (.int r), μ) 0 0 0 [(0, .ref x0), (1, .int x1)] [] μ
  refine zr_iload_n 1 dX11_count_0 rfl ?_
  replace hf := zb1_s hf
  obtain ⟨s1, hg, hf⟩ := hf
  have hj2 : zz K cX11_count (2, RX11, some .int, 0, 0, 0, some (.int r), μ) 0 0 23 [] [.int s1] μ := by
    cases hf
    exact zr_iret dX11_count_23
  clear hf
  have hf := hg
  clear hg
  refine zr_if_lt 9 dX11_count_1 (by decide) (fun hc => ?_) (fun hc => ?_)
  · rw [if_pos hc] at hf
    refine zr_bipush (-2) dX11_count_9 (by decide) ?_
    refine zr_goto 23 dX11_count_11 (by decide) ?_
    cases hf
    exact zr_lv [] rfl hj2
  · rw [if_neg hc] at hf
    refine zr_iload_n 1 dX11_count_4 rfl ?_
    refine zr_iconst 4 dX11_count_5 (by decide) ?_
    refine zr_icmp_lt 14 dX11_count_6 (by decide) (fun hc => ?_) (fun hc => ?_)
    · rw [if_pos hc] at hf
      refine zr_aload_n 0 dX11_count_14 rfl ?_
      replace hf := zb1_s hf
      obtain ⟨v3, h4, hf⟩ := hf
      refine zr_get (zm_gR_g h4) zk11 (by decide) zl_626 dX11_count_15 ?_
      replace hf := zb1_s hf
      obtain ⟨v5, h6, hf⟩ := hf
      refine zr_get (zm_gR_g h6) zk7 (by decide) zl_680 dX11_count_18 ?_
      refine zr_iload_n 1 dX11_count_21 rfl ?_
      replace hf := zb1_s hf
      obtain ⟨v7, h8, hf⟩ := hf
      refine zr_iald h8 dX11_count_22 ?_
      cases hf
      exact zr_lv [] rfl hj2
    · rw [if_neg hc] at hf
      refine zr_bipush (-2) dX11_count_9 (by decide) ?_
      refine zr_goto 23 dX11_count_11 (by decide) ?_
      cases hf
      exact zr_lv [] rfl hj2
theorem zl_859 : Cond.code yX7_copyFrom cX7_copyFrom 3 (none) ∈ zt := zt_at 1329 (by decide +kernel)
theorem zvs_X7_copyFrom : zvS yX7_copyFrom cX7_copyFrom 3 (none) 1 := ⟨zl_859, zl_622, ⟨by decide +kernel, by decide +kernel, by decide +kernel⟩, by decide⟩
theorem zl_860 : Cond.methodLink RX11 321 yX7_copyFrom ∈ zt := zt_at 1326 (by decide +kernel)
theorem zl_861 : Cond.instanceMethod yX7_copyFrom ∈ zt := zt_at 1327 (by decide +kernel)
theorem zl_862 : Cond.selects RX7 yX7_copyFrom yX7_copyFrom ∈ zt := zt_at 1328 (by decide +kernel)
theorem dX11_image_0 : decode cX11_image 0 = .ok (.iload_n 1, 1) := by decide +kernel
theorem dX11_image_1 : decode cX11_image 1 = .ok (.ifCond .lt 8, 3) := by decide +kernel
theorem dX11_image_4 : decode cX11_image 4 = .ok (.iload_n 1, 1) := by decide +kernel
theorem dX11_image_5 : decode cX11_image 5 = .ok (.iconst 3, 1) := by decide +kernel
theorem dX11_image_6 : decode cX11_image 6 = .ok (.if_icmp .lt 5, 3) := by decide +kernel
theorem dX11_image_9 : decode cX11_image 9 = .ok (.iconst 0, 1) := by decide +kernel
theorem dX11_image_10 : decode cX11_image 10 = .ok (.ireturn, 1) := by decide +kernel
theorem dX11_image_11 : decode cX11_image 11 = .ok (.aload_n 0, 1) := by decide +kernel
theorem dX11_image_12 : decode cX11_image 12 = .ok (.getfield 16, 3) := by decide +kernel
theorem dX11_image_15 : decode cX11_image 15 = .ok (.iload_n 1, 1) := by decide +kernel
theorem dX11_image_16 : decode cX11_image 16 = .ok (.aaload, 1) := by decide +kernel
theorem dX11_image_17 : decode cX11_image 17 = .ok (.ifnonnull 16, 3) := by decide +kernel
theorem dX11_image_20 : decode cX11_image 20 = .ok (.aload_n 0, 1) := by decide +kernel
theorem dX11_image_21 : decode cX11_image 21 = .ok (.getfield 16, 3) := by decide +kernel
theorem dX11_image_24 : decode cX11_image 24 = .ok (.iload_n 1, 1) := by decide +kernel
theorem dX11_image_25 : decode cX11_image 25 = .ok (.new 7, 3) := by decide +kernel
theorem dX11_image_28 : decode cX11_image 28 = .ok (.dup, 1) := by decide +kernel
theorem dX11_image_29 : decode cX11_image 29 = .ok (.invokespecial 9, 3) := by decide +kernel
theorem dX11_image_32 : decode cX11_image 32 = .ok (.aastore, 1) := by decide +kernel
theorem dX11_image_33 : decode cX11_image 33 = .ok (.aload_n 0, 1) := by decide +kernel
theorem dX11_image_34 : decode cX11_image 34 = .ok (.getfield 16, 3) := by decide +kernel
theorem dX11_image_37 : decode cX11_image 37 = .ok (.iload_n 1, 1) := by decide +kernel
theorem dX11_image_38 : decode cX11_image 38 = .ok (.aaload, 1) := by decide +kernel
theorem dX11_image_39 : decode cX11_image 39 = .ok (.aload_n 0, 1) := by decide +kernel
theorem dX11_image_40 : decode cX11_image 40 = .ok (.getfield 10, 3) := by decide +kernel
theorem dX11_image_43 : decode cX11_image 43 = .ok (.invokevirtual 321, 3) := by decide +kernel
theorem dX11_image_46 : decode cX11_image 46 = .ok (.iconst 1, 1) := by decide +kernel
theorem dX11_image_47 : decode cX11_image 47 = .ok (.ireturn, 1) := by decide +kernel
noncomputable def fX11_image (μ : zM) (x0 : Nat) (x1 : Int32) : Option (Int32 × zM) := zgd (zm_ck μ 11 x0) <|
  if x1 < 0 then (
  some (0, μ))
  else (
  if x1 < 3 then (
  zb1 (zm_gR μ 11 x0 1) fun v1 =>
  zb1 (zm_aQ μ 3 v1 x1) fun v3 =>
  zc1 (zmo v3 (
  zb1 (zm_gR μ 11 x0 1) fun v18 =>
  zb1 (some (zm_nw μ (.inr (7, [.null, .int 0, .int 0, .int 0, .null, .null, .null, .null, .null])))) fun m20 =>
  zb1 (fX7_init m20 μ.2.1) fun m23 =>
  zb1 (zm_sQ m23 3 7 v18 x1 μ.2.1) fun m24 =>
  some m24) fun a17 =>
  some μ : Option (zM)) fun (m5 : zM) =>
  zb1 (zm_gR m5 11 x0 1) fun v7 =>
  zb1 (zm_aQ m5 3 v7 x1) fun v9 =>
  zb1 (zm_gR m5 11 x0 0) fun v11 =>
  zb1 v9 fun a13 =>
  zb1 (fX7_copyFrom m5 a13 v11) fun m16 =>
  some (1, m16))
  else (
  some (0, μ)))
theorem fX11_image_ck {μ : zM} {x0 : Nat} {x1 : Int32} {z : Int32 × zM} (h : fX11_image μ x0 x1 = some z) : zm_ck μ 11 x0 = true := (zgd_s h).1
set_option maxHeartbeats 4000000 in
set_option maxRecDepth 100000 in
theorem cX11_image_ok {μ : zM} {x0 : Nat} {x1 : Int32} {r : Int32} {mo : zM} (hf : fX11_image μ x0 x1 = some (r, mo)) : zC yX11_image cX11_image 2 (some .boolean) 3 53 1325 [.ref x0, .int x1] μ (some (.int r)) mo := by
  replace hf := (zgd_s hf).2
  refine zC.of (by decide) (Nat.le_of_ble_eq_true rfl) (fun K hin => ?_)
  clear hin
  show zz K cX11_image (2, RX11, some .boolean, 3, 53, 1325, some (.int r), mo) 0 0 0 [(0, .ref x0), (1, .int x1)] [] μ
  refine zr_iload_n 1 dX11_image_0 rfl ?_
  refine zr_if_lt 9 dX11_image_1 (by decide) (fun hc => ?_) (fun hc => ?_)
  · rw [if_pos hc] at hf
    refine zr_iconst 0 dX11_image_9 (by decide) ?_
    refine zr_widen (k := 53) (n := 1325) (by omega) (by omega) ?_
    cases hf
    exact zr_zret rfl dX11_image_10
  · rw [if_neg hc] at hf
    refine zr_iload_n 1 dX11_image_4 rfl ?_
    refine zr_iconst 3 dX11_image_5 (by decide) ?_
    refine zr_icmp_lt 11 dX11_image_6 (by decide) (fun hc => ?_) (fun hc => ?_)
    · rw [if_pos hc] at hf
      refine zr_aload_n 0 dX11_image_11 rfl ?_
      replace hf := zb1_s hf
      obtain ⟨v1, h2, hf⟩ := hf
      refine zr_get (zm_gR_g h2) zk11 (by decide) zl_627 dX11_image_12 ?_
      refine zr_iload_n 1 dX11_image_15 rfl ?_
      replace hf := zb1_s hf
      obtain ⟨v3, h4, hf⟩ := hf
      refine zr_aald h4 (by decide) rfl dX11_image_16 ?_
      replace hf := zc1_s hf
      obtain ⟨m5, hg, hf⟩ := hf
      have hj6 : zz K cX11_image (2, RX11, some .boolean, 3, 53, 1325, some (.int r), mo) 53 1325 33 [(0, .ref x0), (1, .int x1)] [] m5 := by
        refine zr_aload_n 0 dX11_image_33 rfl ?_
        replace hf := zb1_s hf
        obtain ⟨v7, h8, hf⟩ := hf
        refine zr_get (zm_gR_g h8) zk11 (by decide) zl_627 dX11_image_34 ?_
        refine zr_iload_n 1 dX11_image_37 rfl ?_
        replace hf := zb1_s hf
        obtain ⟨v9, h10, hf⟩ := hf
        refine zr_aald h10 (by decide) rfl dX11_image_38 ?_
        refine zr_aload_n 0 dX11_image_39 rfl ?_
        replace hf := zb1_s hf
        obtain ⟨v11, h12, hf⟩ := hf
        refine zr_get (zm_gR_g h12) zk11 (by decide) zl_626 dX11_image_40 ?_
        replace hf := zb1_s hf
        obtain ⟨a13, h14, hf⟩ := hf
        subst h14
        replace hf := zb1_s hf
        obtain ⟨m16, h15, hf⟩ := hf
        refine zr_callV (ci := 7) [.ref v11] (cX7_copyFrom_ok h15) zvs_X7_copyFrom zl_861 zl_862 (fX7_copyFrom_ck h15) rfl rfl zl_860 rfl (Nat.le_of_ble_eq_true rfl) (Nat.le_of_ble_eq_true rfl) (Nat.le_of_ble_eq_true rfl) (Nat.le_of_ble_eq_true rfl) dX11_image_43 rfl ?_
        refine zr_iconst 1 dX11_image_46 (by decide) ?_
        cases hf
        exact zr_zret rfl dX11_image_47
      clear hf
      have hf := hg
      clear hg
      cases v3 with
      | none =>
        replace hf := zmo_n hf
        refine zr_ifnonnull_n dX11_image_17 ?_
        refine zr_aload_n 0 dX11_image_20 rfl ?_
        replace hf := zb1_s hf
        obtain ⟨v18, h19, hf⟩ := hf
        refine zr_get (zm_gR_g h19) zk11 (by decide) zl_627 dX11_image_21 ?_
        refine zr_iload_n 1 dX11_image_24 rfl ?_
        refine zr_new [.null, .int 0, .int 0, .int 0, .null, .null, .null, .null, .null] zk7 zl_620 zl_621 zl_622 (by decide +kernel) (Nat.le_of_ble_eq_true rfl) (Nat.le_of_ble_eq_true rfl) dX11_image_25 ?_
        replace hf := zb1_s hf
        obtain ⟨m20, h21, hf⟩ := hf
        obtain rfl := Option.some.inj h21
        refine zr_dup dX11_image_28 rfl ?_
        replace hf := zb1_s hf
        obtain ⟨m23, h22, hf⟩ := hf
        refine zr_callIN [] (cX7_init_ok h22) zvs_X7_init zl_625 rfl zl_624 rfl (Nat.le_of_ble_eq_true rfl) (Nat.le_of_ble_eq_true rfl) (Nat.le_of_ble_eq_true rfl) (Nat.le_of_ble_eq_true rfl) dX11_image_29 rfl ?_
        replace hf := zb1_s hf
        obtain ⟨m24, h25, hf⟩ := hf
        refine zr_aast h25 (by decide) rfl zk7 dX11_image_32 ?_
        cases hf
        exact zr_lv [0, 1] rfl hj6
      | some a17 =>
        replace hf := zmo_s hf
        refine zr_ifnonnull_r 33 dX11_image_17 (by decide) ?_
        cases hf
        refine zr_widen (k := 53) (n := 1325) (by omega) (by omega) ?_
        exact zr_lv [0, 1] rfl hj6
    · rw [if_neg hc] at hf
      refine zr_iconst 0 dX11_image_9 (by decide) ?_
      refine zr_widen (k := 53) (n := 1325) (by omega) (by omega) ?_
      cases hf
      exact zr_zret rfl dX11_image_10
theorem dX11_again_0 : decode cX11_again 0 = .ok (.iload_n 1, 1) := by decide +kernel
theorem dX11_again_1 : decode cX11_again 1 = .ok (.ifCond .lt 17, 3) := by decide +kernel
theorem dX11_again_4 : decode cX11_again 4 = .ok (.iload_n 1, 1) := by decide +kernel
theorem dX11_again_5 : decode cX11_again 5 = .ok (.iconst 3, 1) := by decide +kernel
theorem dX11_again_6 : decode cX11_again 6 = .ok (.if_icmp .ge 12, 3) := by decide +kernel
theorem dX11_again_9 : decode cX11_again 9 = .ok (.aload_n 0, 1) := by decide +kernel
theorem dX11_again_10 : decode cX11_again 10 = .ok (.getfield 16, 3) := by decide +kernel
theorem dX11_again_13 : decode cX11_again 13 = .ok (.iload_n 1, 1) := by decide +kernel
theorem dX11_again_14 : decode cX11_again 14 = .ok (.aaload, 1) := by decide +kernel
theorem dX11_again_15 : decode cX11_again 15 = .ok (.ifnonnull 5, 3) := by decide +kernel
theorem dX11_again_18 : decode cX11_again 18 = .ok (.iconst 0, 1) := by decide +kernel
theorem dX11_again_19 : decode cX11_again 19 = .ok (.ireturn, 1) := by decide +kernel
theorem dX11_again_20 : decode cX11_again 20 = .ok (.aload_n 0, 1) := by decide +kernel
theorem dX11_again_21 : decode cX11_again 21 = .ok (.getfield 10, 3) := by decide +kernel
theorem dX11_again_24 : decode cX11_again 24 = .ok (.aload_n 0, 1) := by decide +kernel
theorem dX11_again_25 : decode cX11_again 25 = .ok (.getfield 16, 3) := by decide +kernel
theorem dX11_again_28 : decode cX11_again 28 = .ok (.iload_n 1, 1) := by decide +kernel
theorem dX11_again_29 : decode cX11_again 29 = .ok (.aaload, 1) := by decide +kernel
theorem dX11_again_30 : decode cX11_again 30 = .ok (.invokevirtual 321, 3) := by decide +kernel
theorem dX11_again_33 : decode cX11_again 33 = .ok (.iconst 1, 1) := by decide +kernel
theorem dX11_again_34 : decode cX11_again 34 = .ok (.ireturn, 1) := by decide +kernel
noncomputable def fX11_again (μ : zM) (x0 : Nat) (x1 : Int32) : Option (Int32 × zM) := zgd (zm_ck μ 11 x0) <|
  if x1 < 0 then (
  some (0, μ))
  else (
  if 3 ≤ x1 then (
  some (0, μ))
  else (
  zb1 (zm_gR μ 11 x0 1) fun v1 =>
  zb1 (zm_aQ μ 3 v1 x1) fun v3 =>
  zmo v3 (
  some (0, μ)) fun a5 =>
  zb1 (zm_gR μ 11 x0 0) fun v6 =>
  zb1 (zm_gR μ 11 x0 1) fun v8 =>
  zb1 (zm_aQ μ 3 v8 x1) fun v10 =>
  zb1 v10 fun a12 =>
  zb1 (fX7_copyFrom μ v6 a12) fun m15 =>
  some (1, m15)))
theorem fX11_again_ck {μ : zM} {x0 : Nat} {x1 : Int32} {z : Int32 × zM} (h : fX11_again μ x0 x1 = some z) : zm_ck μ 11 x0 = true := (zgd_s h).1
set_option maxHeartbeats 4000000 in
set_option maxRecDepth 100000 in
theorem cX11_again_ok {μ : zM} {x0 : Nat} {x1 : Int32} {r : Int32} {mo : zM} (hf : fX11_again μ x0 x1 = some (r, mo)) : zC yX11_again cX11_again 2 (some .boolean) 3 0 0 [.ref x0, .int x1] μ (some (.int r)) mo := by
  replace hf := (zgd_s hf).2
  refine zC.of (by decide) (Nat.le_of_ble_eq_true rfl) (fun K hin => ?_)
  clear hin
  show zz K cX11_again (2, RX11, some .boolean, 3, 0, 0, some (.int r), mo) 0 0 0 [(0, .ref x0), (1, .int x1)] [] μ
  refine zr_iload_n 1 dX11_again_0 rfl ?_
  refine zr_if_lt 18 dX11_again_1 (by decide) (fun hc => ?_) (fun hc => ?_)
  · rw [if_pos hc] at hf
    refine zr_iconst 0 dX11_again_18 (by decide) ?_
    cases hf
    exact zr_zret rfl dX11_again_19
  · rw [if_neg hc] at hf
    refine zr_iload_n 1 dX11_again_4 rfl ?_
    refine zr_iconst 3 dX11_again_5 (by decide) ?_
    refine zr_icmp_ge 18 dX11_again_6 (by decide) (fun hc => ?_) (fun hc => ?_)
    · rw [if_pos hc] at hf
      refine zr_iconst 0 dX11_again_18 (by decide) ?_
      cases hf
      exact zr_zret rfl dX11_again_19
    · rw [if_neg hc] at hf
      refine zr_aload_n 0 dX11_again_9 rfl ?_
      replace hf := zb1_s hf
      obtain ⟨v1, h2, hf⟩ := hf
      refine zr_get (zm_gR_g h2) zk11 (by decide) zl_627 dX11_again_10 ?_
      refine zr_iload_n 1 dX11_again_13 rfl ?_
      replace hf := zb1_s hf
      obtain ⟨v3, h4, hf⟩ := hf
      refine zr_aald h4 (by decide) rfl dX11_again_14 ?_
      cases v3 with
      | none =>
        replace hf := zmo_n hf
        refine zr_ifnonnull_n dX11_again_15 ?_
        refine zr_iconst 0 dX11_again_18 (by decide) ?_
        cases hf
        exact zr_zret rfl dX11_again_19
      | some a5 =>
        replace hf := zmo_s hf
        refine zr_ifnonnull_r 20 dX11_again_15 (by decide) ?_
        refine zr_aload_n 0 dX11_again_20 rfl ?_
        replace hf := zb1_s hf
        obtain ⟨v6, h7, hf⟩ := hf
        refine zr_get (zm_gR_g h7) zk11 (by decide) zl_626 dX11_again_21 ?_
        refine zr_aload_n 0 dX11_again_24 rfl ?_
        replace hf := zb1_s hf
        obtain ⟨v8, h9, hf⟩ := hf
        refine zr_get (zm_gR_g h9) zk11 (by decide) zl_627 dX11_again_25 ?_
        refine zr_iload_n 1 dX11_again_28 rfl ?_
        replace hf := zb1_s hf
        obtain ⟨v10, h11, hf⟩ := hf
        refine zr_aald h11 (by decide) rfl dX11_again_29 ?_
        replace hf := zb1_s hf
        obtain ⟨a12, h13, hf⟩ := hf
        subst h13
        replace hf := zb1_s hf
        obtain ⟨m15, h14, hf⟩ := hf
        refine zr_callV (ci := 7) [.ref a12] (cX7_copyFrom_ok h14) zvs_X7_copyFrom zl_861 zl_862 (fX7_copyFrom_ck h14) rfl rfl zl_860 rfl (Nat.le_of_ble_eq_true rfl) (Nat.le_of_ble_eq_true rfl) (Nat.le_of_ble_eq_true rfl) (Nat.le_of_ble_eq_true rfl) dX11_again_30 rfl ?_
        refine zr_iconst 1 dX11_again_33 (by decide) ?_
        cases hf
        exact zr_zret rfl dX11_again_34
theorem zl_863 : Cond.methodLink RX12 1 Lib.objectInit ∈ zt := zt_at 1340 (by decide +kernel)
theorem zl_864 : Cond.fieldLink RX12 7 "TwoEchoesModel" "tape" "[B" ∈ zt := zt_at 1342 (by decide +kernel)
theorem zl_865 : Cond.fieldLink RX12 13 "TwoEchoesModel" "size" "[I" ∈ zt := zt_at 1343 (by decide +kernel)
theorem zl_866 : Cond.fieldLink RX12 17 "TwoEchoesModel" "fault" "[I" ∈ zt := zt_at 1344 (by decide +kernel)
theorem zl_867 : Cond.fieldLink RX12 20 "TwoEchoesModel" "faultPlace" "[I" ∈ zt := zt_at 1345 (by decide +kernel)
theorem zl_868 : Cond.fieldLink RX12 23 "TwoEchoesModel" "many" "[I" ∈ zt := zt_at 1346 (by decide +kernel)
theorem zl_869 : Cond.fieldLink RX12 26 "TwoEchoesModel" "valleys" "[I" ∈ zt := zt_at 1347 (by decide +kernel)
theorem zl_870 : Cond.fieldLink RX12 29 "TwoEchoesModel" "days" "[I" ∈ zt := zt_at 1348 (by decide +kernel)
theorem zl_871 : Cond.fieldLink RX12 32 "TwoEchoesModel" "lessons" "[I" ∈ zt := zt_at 1349 (by decide +kernel)
theorem zl_872 : Cond.fieldLink RX12 35 "TwoEchoesModel" "sights" "[I" ∈ zt := zt_at 1350 (by decide +kernel)
theorem zl_873 : Cond.fieldLink RX12 38 "TwoEchoesModel" "told" "[I" ∈ zt := zt_at 1360 (by decide +kernel)
theorem zl_874 : Cond.fieldLink RX12 41 "TwoEchoesModel" "read" "[I" ∈ zt := zt_at 1361 (by decide +kernel)
theorem zl_875 : Cond.fieldLink RX12 44 "TwoEchoesModel" "stands" "[I" ∈ zt := zt_at 1368 (by decide +kernel)
theorem zl_876 : Cond.fieldLink RX12 47 "TwoEchoesModel" "sayings" "[I" ∈ zt := zt_at 1369 (by decide +kernel)
theorem zl_877 : Cond.fieldLink RX12 50 "TwoEchoesModel" "words" "[I" ∈ zt := zt_at 1372 (by decide +kernel)
theorem zl_878 : Cond.fieldLink RX12 53 "TwoEchoesModel" "often" "[I" ∈ zt := zt_at 1373 (by decide +kernel)
theorem zl_879 : Cond.fieldLink RX12 56 "TwoEchoesModel" "first" "[I" ∈ zt := zt_at 1374 (by decide +kernel)
theorem zl_880 : Cond.fieldLink RX12 59 "TwoEchoesModel" "asks" "[I" ∈ zt := zt_at 1378 (by decide +kernel)
theorem zl_881 : Cond.fieldLink RX12 62 "TwoEchoesModel" "bids" "[I" ∈ zt := zt_at 1379 (by decide +kernel)
theorem zl_882 : Cond.fieldLink RX12 65 "TwoEchoesModel" "mostSold" "[I" ∈ zt := zt_at 1382 (by decide +kernel)
theorem zl_883 : Cond.fieldLink RX12 68 "TwoEchoesModel" "mostBought" "[I" ∈ zt := zt_at 1383 (by decide +kernel)
theorem zl_884 : Cond.fieldLink RX12 71 "TwoEchoesModel" "cost" "[I" ∈ zt := zt_at 1384 (by decide +kernel)
theorem zl_885 : Cond.fieldLink RX12 74 "TwoEchoesModel" "groups" "[I" ∈ zt := zt_at 1386 (by decide +kernel)
theorem zl_886 : Cond.fieldLink RX12 77 "TwoEchoesModel" "listens" "[I" ∈ zt := zt_at 1388 (by decide +kernel)
theorem zl_887 : Cond.fieldLink RX12 80 "TwoEchoesModel" "soon" "[I" ∈ zt := zt_at 1391 (by decide +kernel)
theorem zl_888 : Cond.fieldLink RX12 83 "TwoEchoesModel" "with" "[I" ∈ zt := zt_at 1392 (by decide +kernel)
theorem zl_889 : Cond.fieldLink RX12 86 "TwoEchoesModel" "asked" "[I" ∈ zt := zt_at 1393 (by decide +kernel)
theorem zl_890 : Cond.arrayClass .boolean ∈ zt := zt_at 1504 (by decide +kernel)
theorem zl_891 : Cond.fieldLink RX12 89 "TwoEchoesModel" "kept" "[Z" ∈ zt := zt_at 1394 (by decide +kernel)
theorem dX12_init_0 : decode cX12_init 0 = .ok (.aload_n 0, 1) := by decide +kernel
theorem dX12_init_1 : decode cX12_init 1 = .ok (.invokespecial 1, 3) := by decide +kernel
theorem dX12_init_4 : decode cX12_init 4 = .ok (.aload_n 0, 1) := by decide +kernel
theorem dX12_init_5 : decode cX12_init 5 = .ok (.sipush 2400, 3) := by decide +kernel
theorem dX12_init_8 : decode cX12_init 8 = .ok (.newarray .byte, 2) := by decide +kernel
theorem dX12_init_10 : decode cX12_init 10 = .ok (.putfield 7, 3) := by decide +kernel
theorem dX12_init_13 : decode cX12_init 13 = .ok (.aload_n 0, 1) := by decide +kernel
theorem dX12_init_14 : decode cX12_init 14 = .ok (.iconst 4, 1) := by decide +kernel
theorem dX12_init_15 : decode cX12_init 15 = .ok (.newarray .int, 2) := by decide +kernel
theorem dX12_init_17 : decode cX12_init 17 = .ok (.putfield 13, 3) := by decide +kernel
theorem dX12_init_20 : decode cX12_init 20 = .ok (.aload_n 0, 1) := by decide +kernel
theorem dX12_init_21 : decode cX12_init 21 = .ok (.iconst 4, 1) := by decide +kernel
theorem dX12_init_22 : decode cX12_init 22 = .ok (.newarray .int, 2) := by decide +kernel
theorem dX12_init_24 : decode cX12_init 24 = .ok (.putfield 17, 3) := by decide +kernel
theorem dX12_init_27 : decode cX12_init 27 = .ok (.aload_n 0, 1) := by decide +kernel
theorem dX12_init_28 : decode cX12_init 28 = .ok (.iconst 4, 1) := by decide +kernel
theorem dX12_init_29 : decode cX12_init 29 = .ok (.newarray .int, 2) := by decide +kernel
theorem dX12_init_31 : decode cX12_init 31 = .ok (.putfield 20, 3) := by decide +kernel
theorem dX12_init_34 : decode cX12_init 34 = .ok (.aload_n 0, 1) := by decide +kernel
theorem dX12_init_35 : decode cX12_init 35 = .ok (.bipush 16, 2) := by decide +kernel
theorem dX12_init_37 : decode cX12_init 37 = .ok (.newarray .int, 2) := by decide +kernel
theorem dX12_init_39 : decode cX12_init 39 = .ok (.putfield 23, 3) := by decide +kernel
theorem dX12_init_42 : decode cX12_init 42 = .ok (.aload_n 0, 1) := by decide +kernel
theorem dX12_init_43 : decode cX12_init 43 = .ok (.sipush 456, 3) := by decide +kernel
theorem dX12_init_46 : decode cX12_init 46 = .ok (.newarray .int, 2) := by decide +kernel
theorem dX12_init_48 : decode cX12_init 48 = .ok (.putfield 26, 3) := by decide +kernel
theorem dX12_init_51 : decode cX12_init 51 = .ok (.aload_n 0, 1) := by decide +kernel
theorem dX12_init_52 : decode cX12_init 52 = .ok (.sipush 968, 3) := by decide +kernel
theorem dX12_init_55 : decode cX12_init 55 = .ok (.newarray .int, 2) := by decide +kernel
theorem dX12_init_57 : decode cX12_init 57 = .ok (.putfield 29, 3) := by decide +kernel
theorem dX12_init_60 : decode cX12_init 60 = .ok (.aload_n 0, 1) := by decide +kernel
theorem dX12_init_61 : decode cX12_init 61 = .ok (.sipush 176, 3) := by decide +kernel
theorem dX12_init_64 : decode cX12_init 64 = .ok (.newarray .int, 2) := by decide +kernel
theorem dX12_init_66 : decode cX12_init 66 = .ok (.putfield 32, 3) := by decide +kernel
theorem dX12_init_69 : decode cX12_init 69 = .ok (.aload_n 0, 1) := by decide +kernel
theorem dX12_init_70 : decode cX12_init 70 = .ok (.sipush 264, 3) := by decide +kernel
theorem dX12_init_73 : decode cX12_init 73 = .ok (.newarray .int, 2) := by decide +kernel
theorem dX12_init_75 : decode cX12_init 75 = .ok (.putfield 35, 3) := by decide +kernel
theorem dX12_init_78 : decode cX12_init 78 = .ok (.aload_n 0, 1) := by decide +kernel
theorem dX12_init_79 : decode cX12_init 79 = .ok (.bipush 121, 2) := by decide +kernel
theorem dX12_init_81 : decode cX12_init 81 = .ok (.newarray .int, 2) := by decide +kernel
theorem dX12_init_83 : decode cX12_init 83 = .ok (.putfield 38, 3) := by decide +kernel
theorem dX12_init_86 : decode cX12_init 86 = .ok (.aload_n 0, 1) := by decide +kernel
theorem dX12_init_87 : decode cX12_init 87 = .ok (.iconst 4, 1) := by decide +kernel
theorem dX12_init_88 : decode cX12_init 88 = .ok (.newarray .int, 2) := by decide +kernel
theorem dX12_init_90 : decode cX12_init 90 = .ok (.putfield 41, 3) := by decide +kernel
theorem dX12_init_93 : decode cX12_init 93 = .ok (.aload_n 0, 1) := by decide +kernel
theorem dX12_init_94 : decode cX12_init 94 = .ok (.sipush 600, 3) := by decide +kernel
theorem dX12_init_97 : decode cX12_init 97 = .ok (.newarray .int, 2) := by decide +kernel
theorem dX12_init_99 : decode cX12_init 99 = .ok (.putfield 44, 3) := by decide +kernel
theorem dX12_init_102 : decode cX12_init 102 = .ok (.aload_n 0, 1) := by decide +kernel
theorem dX12_init_103 : decode cX12_init 103 = .ok (.sipush 300, 3) := by decide +kernel
theorem dX12_init_106 : decode cX12_init 106 = .ok (.newarray .int, 2) := by decide +kernel
theorem dX12_init_108 : decode cX12_init 108 = .ok (.putfield 47, 3) := by decide +kernel
theorem dX12_init_111 : decode cX12_init 111 = .ok (.aload_n 0, 1) := by decide +kernel
theorem dX12_init_112 : decode cX12_init 112 = .ok (.bipush 6, 2) := by decide +kernel
theorem dX12_init_114 : decode cX12_init 114 = .ok (.newarray .int, 2) := by decide +kernel
theorem dX12_init_116 : decode cX12_init 116 = .ok (.putfield 50, 3) := by decide +kernel
theorem dX12_init_119 : decode cX12_init 119 = .ok (.aload_n 0, 1) := by decide +kernel
theorem dX12_init_120 : decode cX12_init 120 = .ok (.bipush 6, 2) := by decide +kernel
theorem dX12_init_122 : decode cX12_init 122 = .ok (.newarray .int, 2) := by decide +kernel
theorem dX12_init_124 : decode cX12_init 124 = .ok (.putfield 53, 3) := by decide +kernel
theorem dX12_init_127 : decode cX12_init 127 = .ok (.aload_n 0, 1) := by decide +kernel
theorem dX12_init_128 : decode cX12_init 128 = .ok (.bipush 6, 2) := by decide +kernel
theorem dX12_init_130 : decode cX12_init 130 = .ok (.newarray .int, 2) := by decide +kernel
theorem dX12_init_132 : decode cX12_init 132 = .ok (.putfield 56, 3) := by decide +kernel
theorem dX12_init_135 : decode cX12_init 135 = .ok (.aload_n 0, 1) := by decide +kernel
theorem dX12_init_136 : decode cX12_init 136 = .ok (.bipush 6, 2) := by decide +kernel
theorem dX12_init_138 : decode cX12_init 138 = .ok (.newarray .int, 2) := by decide +kernel
theorem dX12_init_140 : decode cX12_init 140 = .ok (.putfield 59, 3) := by decide +kernel
theorem dX12_init_143 : decode cX12_init 143 = .ok (.aload_n 0, 1) := by decide +kernel
theorem dX12_init_144 : decode cX12_init 144 = .ok (.bipush 6, 2) := by decide +kernel
theorem dX12_init_146 : decode cX12_init 146 = .ok (.newarray .int, 2) := by decide +kernel
theorem dX12_init_148 : decode cX12_init 148 = .ok (.putfield 62, 3) := by decide +kernel
theorem dX12_init_151 : decode cX12_init 151 = .ok (.aload_n 0, 1) := by decide +kernel
theorem dX12_init_152 : decode cX12_init 152 = .ok (.bipush 100, 2) := by decide +kernel
theorem dX12_init_154 : decode cX12_init 154 = .ok (.newarray .int, 2) := by decide +kernel
theorem dX12_init_156 : decode cX12_init 156 = .ok (.putfield 65, 3) := by decide +kernel
theorem dX12_init_159 : decode cX12_init 159 = .ok (.aload_n 0, 1) := by decide +kernel
theorem dX12_init_160 : decode cX12_init 160 = .ok (.bipush 100, 2) := by decide +kernel
theorem dX12_init_162 : decode cX12_init 162 = .ok (.newarray .int, 2) := by decide +kernel
theorem dX12_init_164 : decode cX12_init 164 = .ok (.putfield 68, 3) := by decide +kernel
theorem dX12_init_167 : decode cX12_init 167 = .ok (.aload_n 0, 1) := by decide +kernel
theorem dX12_init_168 : decode cX12_init 168 = .ok (.sipush 1161, 3) := by decide +kernel
theorem dX12_init_171 : decode cX12_init 171 = .ok (.newarray .int, 2) := by decide +kernel
theorem dX12_init_173 : decode cX12_init 173 = .ok (.putfield 71, 3) := by decide +kernel
theorem dX12_init_176 : decode cX12_init 176 = .ok (.aload_n 0, 1) := by decide +kernel
theorem dX12_init_177 : decode cX12_init 177 = .ok (.bipush 8, 2) := by decide +kernel
theorem dX12_init_179 : decode cX12_init 179 = .ok (.newarray .int, 2) := by decide +kernel
theorem dX12_init_181 : decode cX12_init 181 = .ok (.putfield 74, 3) := by decide +kernel
theorem dX12_init_184 : decode cX12_init 184 = .ok (.aload_n 0, 1) := by decide +kernel
theorem dX12_init_185 : decode cX12_init 185 = .ok (.sipush 3100, 3) := by decide +kernel
theorem dX12_init_188 : decode cX12_init 188 = .ok (.newarray .int, 2) := by decide +kernel
theorem dX12_init_190 : decode cX12_init 190 = .ok (.putfield 77, 3) := by decide +kernel
theorem dX12_init_193 : decode cX12_init 193 = .ok (.aload_n 0, 1) := by decide +kernel
theorem dX12_init_194 : decode cX12_init 194 = .ok (.bipush 6, 2) := by decide +kernel
theorem dX12_init_196 : decode cX12_init 196 = .ok (.newarray .int, 2) := by decide +kernel
theorem dX12_init_198 : decode cX12_init 198 = .ok (.putfield 80, 3) := by decide +kernel
theorem dX12_init_201 : decode cX12_init 201 = .ok (.aload_n 0, 1) := by decide +kernel
theorem dX12_init_202 : decode cX12_init 202 = .ok (.bipush 6, 2) := by decide +kernel
theorem dX12_init_204 : decode cX12_init 204 = .ok (.newarray .int, 2) := by decide +kernel
theorem dX12_init_206 : decode cX12_init 206 = .ok (.putfield 83, 3) := by decide +kernel
theorem dX12_init_209 : decode cX12_init 209 = .ok (.aload_n 0, 1) := by decide +kernel
theorem dX12_init_210 : decode cX12_init 210 = .ok (.bipush 6, 2) := by decide +kernel
theorem dX12_init_212 : decode cX12_init 212 = .ok (.newarray .int, 2) := by decide +kernel
theorem dX12_init_214 : decode cX12_init 214 = .ok (.putfield 86, 3) := by decide +kernel
theorem dX12_init_217 : decode cX12_init 217 = .ok (.aload_n 0, 1) := by decide +kernel
theorem dX12_init_218 : decode cX12_init 218 = .ok (.iconst 3, 1) := by decide +kernel
theorem dX12_init_219 : decode cX12_init 219 = .ok (.newarray .boolean, 2) := by decide +kernel
theorem dX12_init_221 : decode cX12_init 221 = .ok (.putfield 89, 3) := by decide +kernel
theorem dX12_init_224 : decode cX12_init 224 = .ok (.aload_n 0, 1) := by decide +kernel
theorem dX12_init_225 : decode cX12_init 225 = .ok (.getfield 20, 3) := by decide +kernel
theorem dX12_init_228 : decode cX12_init 228 = .ok (.iconst 0, 1) := by decide +kernel
theorem dX12_init_229 : decode cX12_init 229 = .ok (.iconst (-1), 1) := by decide +kernel
theorem dX12_init_230 : decode cX12_init 230 = .ok (.iastore, 1) := by decide +kernel
theorem dX12_init_231 : decode cX12_init 231 = .ok (.return_, 1) := by decide +kernel
noncomputable def fX12_init (μ : zM) (x0 : Nat) : Option (zM) :=
  zb1 (some (zm_nw μ (.inl (1, 2400, .inl (fun _ => 0))))) fun m1 =>
  zb1 (zm_p m1 12 x0 1 (.ref μ.2.1)) fun m3 =>
  zb1 (some (zm_nw m3 (.inl (0, 4, .inl (fun _ => 0))))) fun m5 =>
  zb1 (zm_p m5 12 x0 2 (.ref m3.2.1)) fun m7 =>
  zb1 (some (zm_nw m7 (.inl (0, 4, .inl (fun _ => 0))))) fun m9 =>
  zb1 (zm_p m9 12 x0 3 (.ref m7.2.1)) fun m11 =>
  zb1 (some (zm_nw m11 (.inl (0, 4, .inl (fun _ => 0))))) fun m13 =>
  zb1 (zm_p m13 12 x0 4 (.ref m11.2.1)) fun m15 =>
  zb1 (some (zm_nw m15 (.inl (0, 16, .inl (fun _ => 0))))) fun m17 =>
  zb1 (zm_p m17 12 x0 5 (.ref m15.2.1)) fun m19 =>
  zb1 (some (zm_nw m19 (.inl (0, 456, .inl (fun _ => 0))))) fun m21 =>
  zb1 (zm_p m21 12 x0 6 (.ref m19.2.1)) fun m23 =>
  zb1 (some (zm_nw m23 (.inl (0, 968, .inl (fun _ => 0))))) fun m25 =>
  zb1 (zm_p m25 12 x0 7 (.ref m23.2.1)) fun m27 =>
  zb1 (some (zm_nw m27 (.inl (0, 176, .inl (fun _ => 0))))) fun m29 =>
  zb1 (zm_p m29 12 x0 8 (.ref m27.2.1)) fun m31 =>
  zb1 (some (zm_nw m31 (.inl (0, 264, .inl (fun _ => 0))))) fun m33 =>
  zb1 (zm_p m33 12 x0 9 (.ref m31.2.1)) fun m35 =>
  zb1 (some (zm_nw m35 (.inl (0, 121, .inl (fun _ => 0))))) fun m37 =>
  zb1 (zm_p m37 12 x0 19 (.ref m35.2.1)) fun m39 =>
  zb1 (some (zm_nw m39 (.inl (0, 4, .inl (fun _ => 0))))) fun m41 =>
  zb1 (zm_p m41 12 x0 20 (.ref m39.2.1)) fun m43 =>
  zb1 (some (zm_nw m43 (.inl (0, 600, .inl (fun _ => 0))))) fun m45 =>
  zb1 (zm_p m45 12 x0 27 (.ref m43.2.1)) fun m47 =>
  zb1 (some (zm_nw m47 (.inl (0, 300, .inl (fun _ => 0))))) fun m49 =>
  zb1 (zm_p m49 12 x0 28 (.ref m47.2.1)) fun m51 =>
  zb1 (some (zm_nw m51 (.inl (0, 6, .inl (fun _ => 0))))) fun m53 =>
  zb1 (zm_p m53 12 x0 31 (.ref m51.2.1)) fun m55 =>
  zb1 (some (zm_nw m55 (.inl (0, 6, .inl (fun _ => 0))))) fun m57 =>
  zb1 (zm_p m57 12 x0 32 (.ref m55.2.1)) fun m59 =>
  zb1 (some (zm_nw m59 (.inl (0, 6, .inl (fun _ => 0))))) fun m61 =>
  zb1 (zm_p m61 12 x0 33 (.ref m59.2.1)) fun m63 =>
  zb1 (some (zm_nw m63 (.inl (0, 6, .inl (fun _ => 0))))) fun m65 =>
  zb1 (zm_p m65 12 x0 37 (.ref m63.2.1)) fun m67 =>
  zb1 (some (zm_nw m67 (.inl (0, 6, .inl (fun _ => 0))))) fun m69 =>
  zb1 (zm_p m69 12 x0 38 (.ref m67.2.1)) fun m71 =>
  zb1 (some (zm_nw m71 (.inl (0, 100, .inl (fun _ => 0))))) fun m73 =>
  zb1 (zm_p m73 12 x0 41 (.ref m71.2.1)) fun m75 =>
  zb1 (some (zm_nw m75 (.inl (0, 100, .inl (fun _ => 0))))) fun m77 =>
  zb1 (zm_p m77 12 x0 42 (.ref m75.2.1)) fun m79 =>
  zb1 (some (zm_nw m79 (.inl (0, 1161, .inl (fun _ => 0))))) fun m81 =>
  zb1 (zm_p m81 12 x0 43 (.ref m79.2.1)) fun m83 =>
  zb1 (some (zm_nw m83 (.inl (0, 8, .inl (fun _ => 0))))) fun m85 =>
  zb1 (zm_p m85 12 x0 45 (.ref m83.2.1)) fun m87 =>
  zb1 (some (zm_nw m87 (.inl (0, 3100, .inl (fun _ => 0))))) fun m89 =>
  zb1 (zm_p m89 12 x0 47 (.ref m87.2.1)) fun m91 =>
  zb1 (some (zm_nw m91 (.inl (0, 6, .inl (fun _ => 0))))) fun m93 =>
  zb1 (zm_p m93 12 x0 50 (.ref m91.2.1)) fun m95 =>
  zb1 (some (zm_nw m95 (.inl (0, 6, .inl (fun _ => 0))))) fun m97 =>
  zb1 (zm_p m97 12 x0 51 (.ref m95.2.1)) fun m99 =>
  zb1 (some (zm_nw m99 (.inl (0, 6, .inl (fun _ => 0))))) fun m101 =>
  zb1 (zm_p m101 12 x0 52 (.ref m99.2.1)) fun m103 =>
  zb1 (some (zm_nw m103 (.inl (2, 3, .inl (fun _ => 0))))) fun m105 =>
  zb1 (zm_p m105 12 x0 53 (.ref m103.2.1)) fun m107 =>
  zb1 (zm_gR m107 12 x0 4) fun v109 =>
  zb1 (zm_sI m107 0 v109 0 (-1)) fun m111 =>
  some m111
set_option maxHeartbeats 4000000 in
set_option maxRecDepth 100000 in
theorem cX12_init_ok {μ : zM} {x0 : Nat} {mo : zM} (hf : fX12_init μ x0 = some mo) : zC yX12_init cX12_init 1 (none) 1 27 9837 [.ref x0] μ (none) mo := by
  unfold fX12_init at hf
  refine zC.of (by decide) (Nat.le_of_ble_eq_true rfl) (fun K hin => ?_)
  replace hin := hin rfl
  show zz K cX12_init (1, RX12, none, 1, 27, 9837, none, mo) 0 0 0 [(0, .ref x0)] [] μ
  refine zr_aload_n 0 dX12_init_0 rfl ?_
  refine zr_objInit zl_863 zl_1 zl_2 (Nat.le_of_ble_eq_true rfl) (Nat.le_of_ble_eq_true rfl) dX12_init_1 ?_
  refine zr_aload_n 0 dX12_init_4 rfl ?_
  refine zr_sipush 2400 dX12_init_5 (by decide) ?_
  refine zr_newa (t := 1) (N := 2400) (atype := .byte) (by decide) rfl zl_498 (by decide) (by decide) (by decide) (Nat.le_of_ble_eq_true rfl) (Nat.le_of_ble_eq_true rfl) dX12_init_8 ?_
  replace hf := zb1_s hf
  obtain ⟨m1, h2, hf⟩ := hf
  obtain rfl := Option.some.inj h2
  replace hf := zb1_s hf
  obtain ⟨m3, h4, hf⟩ := hf
  refine zr_putF h4 hin rfl zk12 (by decide) zl_864 rfl rfl rfl dX12_init_10 ?_
  refine zr_aload_n 0 dX12_init_13 rfl ?_
  refine zr_iconst 4 dX12_init_14 (by decide) ?_
  refine zr_newa (t := 0) (N := 4) (atype := .int) (by decide) rfl zl_3 (by decide) (by decide) (by decide) (Nat.le_of_ble_eq_true rfl) (Nat.le_of_ble_eq_true rfl) dX12_init_15 ?_
  replace hf := zb1_s hf
  obtain ⟨m5, h6, hf⟩ := hf
  obtain rfl := Option.some.inj h6
  replace hf := zb1_s hf
  obtain ⟨m7, h8, hf⟩ := hf
  refine zr_putF h8 hin rfl zk12 (by decide) zl_865 rfl rfl rfl dX12_init_17 ?_
  refine zr_aload_n 0 dX12_init_20 rfl ?_
  refine zr_iconst 4 dX12_init_21 (by decide) ?_
  refine zr_newa (t := 0) (N := 4) (atype := .int) (by decide) rfl zl_3 (by decide) (by decide) (by decide) (Nat.le_of_ble_eq_true rfl) (Nat.le_of_ble_eq_true rfl) dX12_init_22 ?_
  replace hf := zb1_s hf
  obtain ⟨m9, h10, hf⟩ := hf
  obtain rfl := Option.some.inj h10
  replace hf := zb1_s hf
  obtain ⟨m11, h12, hf⟩ := hf
  refine zr_putF h12 hin rfl zk12 (by decide) zl_866 rfl rfl rfl dX12_init_24 ?_
  refine zr_aload_n 0 dX12_init_27 rfl ?_
  refine zr_iconst 4 dX12_init_28 (by decide) ?_
  refine zr_newa (t := 0) (N := 4) (atype := .int) (by decide) rfl zl_3 (by decide) (by decide) (by decide) (Nat.le_of_ble_eq_true rfl) (Nat.le_of_ble_eq_true rfl) dX12_init_29 ?_
  replace hf := zb1_s hf
  obtain ⟨m13, h14, hf⟩ := hf
  obtain rfl := Option.some.inj h14
  replace hf := zb1_s hf
  obtain ⟨m15, h16, hf⟩ := hf
  refine zr_putF h16 hin rfl zk12 (by decide) zl_867 rfl rfl rfl dX12_init_31 ?_
  refine zr_aload_n 0 dX12_init_34 rfl ?_
  refine zr_bipush 16 dX12_init_35 (by decide) ?_
  refine zr_newa (t := 0) (N := 16) (atype := .int) (by decide) rfl zl_3 (by decide) (by decide) (by decide) (Nat.le_of_ble_eq_true rfl) (Nat.le_of_ble_eq_true rfl) dX12_init_37 ?_
  replace hf := zb1_s hf
  obtain ⟨m17, h18, hf⟩ := hf
  obtain rfl := Option.some.inj h18
  replace hf := zb1_s hf
  obtain ⟨m19, h20, hf⟩ := hf
  refine zr_putF h20 hin rfl zk12 (by decide) zl_868 rfl rfl rfl dX12_init_39 ?_
  refine zr_aload_n 0 dX12_init_42 rfl ?_
  refine zr_sipush 456 dX12_init_43 (by decide) ?_
  refine zr_newa (t := 0) (N := 456) (atype := .int) (by decide) rfl zl_3 (by decide) (by decide) (by decide) (Nat.le_of_ble_eq_true rfl) (Nat.le_of_ble_eq_true rfl) dX12_init_46 ?_
  replace hf := zb1_s hf
  obtain ⟨m21, h22, hf⟩ := hf
  obtain rfl := Option.some.inj h22
  replace hf := zb1_s hf
  obtain ⟨m23, h24, hf⟩ := hf
  refine zr_putF h24 hin rfl zk12 (by decide) zl_869 rfl rfl rfl dX12_init_48 ?_
  refine zr_aload_n 0 dX12_init_51 rfl ?_
  refine zr_sipush 968 dX12_init_52 (by decide) ?_
  refine zr_newa (t := 0) (N := 968) (atype := .int) (by decide) rfl zl_3 (by decide) (by decide) (by decide) (Nat.le_of_ble_eq_true rfl) (Nat.le_of_ble_eq_true rfl) dX12_init_55 ?_
  replace hf := zb1_s hf
  obtain ⟨m25, h26, hf⟩ := hf
  obtain rfl := Option.some.inj h26
  replace hf := zb1_s hf
  obtain ⟨m27, h28, hf⟩ := hf
  refine zr_putF h28 hin rfl zk12 (by decide) zl_870 rfl rfl rfl dX12_init_57 ?_
  refine zr_aload_n 0 dX12_init_60 rfl ?_
  refine zr_sipush 176 dX12_init_61 (by decide) ?_
  refine zr_newa (t := 0) (N := 176) (atype := .int) (by decide) rfl zl_3 (by decide) (by decide) (by decide) (Nat.le_of_ble_eq_true rfl) (Nat.le_of_ble_eq_true rfl) dX12_init_64 ?_
  replace hf := zb1_s hf
  obtain ⟨m29, h30, hf⟩ := hf
  obtain rfl := Option.some.inj h30
  replace hf := zb1_s hf
  obtain ⟨m31, h32, hf⟩ := hf
  refine zr_putF h32 hin rfl zk12 (by decide) zl_871 rfl rfl rfl dX12_init_66 ?_
  refine zr_aload_n 0 dX12_init_69 rfl ?_
  refine zr_sipush 264 dX12_init_70 (by decide) ?_
  refine zr_newa (t := 0) (N := 264) (atype := .int) (by decide) rfl zl_3 (by decide) (by decide) (by decide) (Nat.le_of_ble_eq_true rfl) (Nat.le_of_ble_eq_true rfl) dX12_init_73 ?_
  replace hf := zb1_s hf
  obtain ⟨m33, h34, hf⟩ := hf
  obtain rfl := Option.some.inj h34
  replace hf := zb1_s hf
  obtain ⟨m35, h36, hf⟩ := hf
  refine zr_putF h36 hin rfl zk12 (by decide) zl_872 rfl rfl rfl dX12_init_75 ?_
  refine zr_aload_n 0 dX12_init_78 rfl ?_
  refine zr_bipush 121 dX12_init_79 (by decide) ?_
  refine zr_newa (t := 0) (N := 121) (atype := .int) (by decide) rfl zl_3 (by decide) (by decide) (by decide) (Nat.le_of_ble_eq_true rfl) (Nat.le_of_ble_eq_true rfl) dX12_init_81 ?_
  replace hf := zb1_s hf
  obtain ⟨m37, h38, hf⟩ := hf
  obtain rfl := Option.some.inj h38
  replace hf := zb1_s hf
  obtain ⟨m39, h40, hf⟩ := hf
  refine zr_putF h40 hin rfl zk12 (by decide) zl_873 rfl rfl rfl dX12_init_83 ?_
  refine zr_aload_n 0 dX12_init_86 rfl ?_
  refine zr_iconst 4 dX12_init_87 (by decide) ?_
  refine zr_newa (t := 0) (N := 4) (atype := .int) (by decide) rfl zl_3 (by decide) (by decide) (by decide) (Nat.le_of_ble_eq_true rfl) (Nat.le_of_ble_eq_true rfl) dX12_init_88 ?_
  replace hf := zb1_s hf
  obtain ⟨m41, h42, hf⟩ := hf
  obtain rfl := Option.some.inj h42
  replace hf := zb1_s hf
  obtain ⟨m43, h44, hf⟩ := hf
  refine zr_putF h44 hin rfl zk12 (by decide) zl_874 rfl rfl rfl dX12_init_90 ?_
  refine zr_aload_n 0 dX12_init_93 rfl ?_
  refine zr_sipush 600 dX12_init_94 (by decide) ?_
  refine zr_newa (t := 0) (N := 600) (atype := .int) (by decide) rfl zl_3 (by decide) (by decide) (by decide) (Nat.le_of_ble_eq_true rfl) (Nat.le_of_ble_eq_true rfl) dX12_init_97 ?_
  replace hf := zb1_s hf
  obtain ⟨m45, h46, hf⟩ := hf
  obtain rfl := Option.some.inj h46
  replace hf := zb1_s hf
  obtain ⟨m47, h48, hf⟩ := hf
  refine zr_putF h48 hin rfl zk12 (by decide) zl_875 rfl rfl rfl dX12_init_99 ?_
  refine zr_aload_n 0 dX12_init_102 rfl ?_
  refine zr_sipush 300 dX12_init_103 (by decide) ?_
  refine zr_newa (t := 0) (N := 300) (atype := .int) (by decide) rfl zl_3 (by decide) (by decide) (by decide) (Nat.le_of_ble_eq_true rfl) (Nat.le_of_ble_eq_true rfl) dX12_init_106 ?_
  replace hf := zb1_s hf
  obtain ⟨m49, h50, hf⟩ := hf
  obtain rfl := Option.some.inj h50
  replace hf := zb1_s hf
  obtain ⟨m51, h52, hf⟩ := hf
  refine zr_putF h52 hin rfl zk12 (by decide) zl_876 rfl rfl rfl dX12_init_108 ?_
  refine zr_aload_n 0 dX12_init_111 rfl ?_
  refine zr_bipush 6 dX12_init_112 (by decide) ?_
  refine zr_newa (t := 0) (N := 6) (atype := .int) (by decide) rfl zl_3 (by decide) (by decide) (by decide) (Nat.le_of_ble_eq_true rfl) (Nat.le_of_ble_eq_true rfl) dX12_init_114 ?_
  replace hf := zb1_s hf
  obtain ⟨m53, h54, hf⟩ := hf
  obtain rfl := Option.some.inj h54
  replace hf := zb1_s hf
  obtain ⟨m55, h56, hf⟩ := hf
  refine zr_putF h56 hin rfl zk12 (by decide) zl_877 rfl rfl rfl dX12_init_116 ?_
  refine zr_aload_n 0 dX12_init_119 rfl ?_
  refine zr_bipush 6 dX12_init_120 (by decide) ?_
  refine zr_newa (t := 0) (N := 6) (atype := .int) (by decide) rfl zl_3 (by decide) (by decide) (by decide) (Nat.le_of_ble_eq_true rfl) (Nat.le_of_ble_eq_true rfl) dX12_init_122 ?_
  replace hf := zb1_s hf
  obtain ⟨m57, h58, hf⟩ := hf
  obtain rfl := Option.some.inj h58
  replace hf := zb1_s hf
  obtain ⟨m59, h60, hf⟩ := hf
  refine zr_putF h60 hin rfl zk12 (by decide) zl_878 rfl rfl rfl dX12_init_124 ?_
  refine zr_aload_n 0 dX12_init_127 rfl ?_
  refine zr_bipush 6 dX12_init_128 (by decide) ?_
  refine zr_newa (t := 0) (N := 6) (atype := .int) (by decide) rfl zl_3 (by decide) (by decide) (by decide) (Nat.le_of_ble_eq_true rfl) (Nat.le_of_ble_eq_true rfl) dX12_init_130 ?_
  replace hf := zb1_s hf
  obtain ⟨m61, h62, hf⟩ := hf
  obtain rfl := Option.some.inj h62
  replace hf := zb1_s hf
  obtain ⟨m63, h64, hf⟩ := hf
  refine zr_putF h64 hin rfl zk12 (by decide) zl_879 rfl rfl rfl dX12_init_132 ?_
  refine zr_aload_n 0 dX12_init_135 rfl ?_
  refine zr_bipush 6 dX12_init_136 (by decide) ?_
  refine zr_newa (t := 0) (N := 6) (atype := .int) (by decide) rfl zl_3 (by decide) (by decide) (by decide) (Nat.le_of_ble_eq_true rfl) (Nat.le_of_ble_eq_true rfl) dX12_init_138 ?_
  replace hf := zb1_s hf
  obtain ⟨m65, h66, hf⟩ := hf
  obtain rfl := Option.some.inj h66
  replace hf := zb1_s hf
  obtain ⟨m67, h68, hf⟩ := hf
  refine zr_putF h68 hin rfl zk12 (by decide) zl_880 rfl rfl rfl dX12_init_140 ?_
  refine zr_aload_n 0 dX12_init_143 rfl ?_
  refine zr_bipush 6 dX12_init_144 (by decide) ?_
  refine zr_newa (t := 0) (N := 6) (atype := .int) (by decide) rfl zl_3 (by decide) (by decide) (by decide) (Nat.le_of_ble_eq_true rfl) (Nat.le_of_ble_eq_true rfl) dX12_init_146 ?_
  replace hf := zb1_s hf
  obtain ⟨m69, h70, hf⟩ := hf
  obtain rfl := Option.some.inj h70
  replace hf := zb1_s hf
  obtain ⟨m71, h72, hf⟩ := hf
  refine zr_putF h72 hin rfl zk12 (by decide) zl_881 rfl rfl rfl dX12_init_148 ?_
  refine zr_aload_n 0 dX12_init_151 rfl ?_
  refine zr_bipush 100 dX12_init_152 (by decide) ?_
  refine zr_newa (t := 0) (N := 100) (atype := .int) (by decide) rfl zl_3 (by decide) (by decide) (by decide) (Nat.le_of_ble_eq_true rfl) (Nat.le_of_ble_eq_true rfl) dX12_init_154 ?_
  replace hf := zb1_s hf
  obtain ⟨m73, h74, hf⟩ := hf
  obtain rfl := Option.some.inj h74
  replace hf := zb1_s hf
  obtain ⟨m75, h76, hf⟩ := hf
  refine zr_putF h76 hin rfl zk12 (by decide) zl_882 rfl rfl rfl dX12_init_156 ?_
  refine zr_aload_n 0 dX12_init_159 rfl ?_
  refine zr_bipush 100 dX12_init_160 (by decide) ?_
  refine zr_newa (t := 0) (N := 100) (atype := .int) (by decide) rfl zl_3 (by decide) (by decide) (by decide) (Nat.le_of_ble_eq_true rfl) (Nat.le_of_ble_eq_true rfl) dX12_init_162 ?_
  replace hf := zb1_s hf
  obtain ⟨m77, h78, hf⟩ := hf
  obtain rfl := Option.some.inj h78
  replace hf := zb1_s hf
  obtain ⟨m79, h80, hf⟩ := hf
  refine zr_putF h80 hin rfl zk12 (by decide) zl_883 rfl rfl rfl dX12_init_164 ?_
  refine zr_aload_n 0 dX12_init_167 rfl ?_
  refine zr_sipush 1161 dX12_init_168 (by decide) ?_
  refine zr_newa (t := 0) (N := 1161) (atype := .int) (by decide) rfl zl_3 (by decide) (by decide) (by decide) (Nat.le_of_ble_eq_true rfl) (Nat.le_of_ble_eq_true rfl) dX12_init_171 ?_
  replace hf := zb1_s hf
  obtain ⟨m81, h82, hf⟩ := hf
  obtain rfl := Option.some.inj h82
  replace hf := zb1_s hf
  obtain ⟨m83, h84, hf⟩ := hf
  refine zr_putF h84 hin rfl zk12 (by decide) zl_884 rfl rfl rfl dX12_init_173 ?_
  refine zr_aload_n 0 dX12_init_176 rfl ?_
  refine zr_bipush 8 dX12_init_177 (by decide) ?_
  refine zr_newa (t := 0) (N := 8) (atype := .int) (by decide) rfl zl_3 (by decide) (by decide) (by decide) (Nat.le_of_ble_eq_true rfl) (Nat.le_of_ble_eq_true rfl) dX12_init_179 ?_
  replace hf := zb1_s hf
  obtain ⟨m85, h86, hf⟩ := hf
  obtain rfl := Option.some.inj h86
  replace hf := zb1_s hf
  obtain ⟨m87, h88, hf⟩ := hf
  refine zr_putF h88 hin rfl zk12 (by decide) zl_885 rfl rfl rfl dX12_init_181 ?_
  refine zr_aload_n 0 dX12_init_184 rfl ?_
  refine zr_sipush 3100 dX12_init_185 (by decide) ?_
  refine zr_newa (t := 0) (N := 3100) (atype := .int) (by decide) rfl zl_3 (by decide) (by decide) (by decide) (Nat.le_of_ble_eq_true rfl) (Nat.le_of_ble_eq_true rfl) dX12_init_188 ?_
  replace hf := zb1_s hf
  obtain ⟨m89, h90, hf⟩ := hf
  obtain rfl := Option.some.inj h90
  replace hf := zb1_s hf
  obtain ⟨m91, h92, hf⟩ := hf
  refine zr_putF h92 hin rfl zk12 (by decide) zl_886 rfl rfl rfl dX12_init_190 ?_
  refine zr_aload_n 0 dX12_init_193 rfl ?_
  refine zr_bipush 6 dX12_init_194 (by decide) ?_
  refine zr_newa (t := 0) (N := 6) (atype := .int) (by decide) rfl zl_3 (by decide) (by decide) (by decide) (Nat.le_of_ble_eq_true rfl) (Nat.le_of_ble_eq_true rfl) dX12_init_196 ?_
  replace hf := zb1_s hf
  obtain ⟨m93, h94, hf⟩ := hf
  obtain rfl := Option.some.inj h94
  replace hf := zb1_s hf
  obtain ⟨m95, h96, hf⟩ := hf
  refine zr_putF h96 hin rfl zk12 (by decide) zl_887 rfl rfl rfl dX12_init_198 ?_
  refine zr_aload_n 0 dX12_init_201 rfl ?_
  refine zr_bipush 6 dX12_init_202 (by decide) ?_
  refine zr_newa (t := 0) (N := 6) (atype := .int) (by decide) rfl zl_3 (by decide) (by decide) (by decide) (Nat.le_of_ble_eq_true rfl) (Nat.le_of_ble_eq_true rfl) dX12_init_204 ?_
  replace hf := zb1_s hf
  obtain ⟨m97, h98, hf⟩ := hf
  obtain rfl := Option.some.inj h98
  replace hf := zb1_s hf
  obtain ⟨m99, h100, hf⟩ := hf
  refine zr_putF h100 hin rfl zk12 (by decide) zl_888 rfl rfl rfl dX12_init_206 ?_
  refine zr_aload_n 0 dX12_init_209 rfl ?_
  refine zr_bipush 6 dX12_init_210 (by decide) ?_
  refine zr_newa (t := 0) (N := 6) (atype := .int) (by decide) rfl zl_3 (by decide) (by decide) (by decide) (Nat.le_of_ble_eq_true rfl) (Nat.le_of_ble_eq_true rfl) dX12_init_212 ?_
  replace hf := zb1_s hf
  obtain ⟨m101, h102, hf⟩ := hf
  obtain rfl := Option.some.inj h102
  replace hf := zb1_s hf
  obtain ⟨m103, h104, hf⟩ := hf
  refine zr_putF h104 hin rfl zk12 (by decide) zl_889 rfl rfl rfl dX12_init_214 ?_
  refine zr_aload_n 0 dX12_init_217 rfl ?_
  refine zr_iconst 3 dX12_init_218 (by decide) ?_
  refine zr_newa (t := 2) (N := 3) (atype := .boolean) (by decide) rfl zl_890 (by decide) (by decide) (by decide) (Nat.le_of_ble_eq_true rfl) (Nat.le_of_ble_eq_true rfl) dX12_init_219 ?_
  replace hf := zb1_s hf
  obtain ⟨m105, h106, hf⟩ := hf
  obtain rfl := Option.some.inj h106
  replace hf := zb1_s hf
  obtain ⟨m107, h108, hf⟩ := hf
  refine zr_putF h108 hin rfl zk12 (by decide) zl_891 rfl rfl rfl dX12_init_221 ?_
  refine zr_aload_n 0 dX12_init_224 rfl ?_
  replace hf := zb1_s hf
  obtain ⟨v109, h110, hf⟩ := hf
  refine zr_get (zm_gR_g h110) zk12 (by decide) zl_867 dX12_init_225 ?_
  refine zr_iconst 0 dX12_init_228 (by decide) ?_
  refine zr_iconst (-1) dX12_init_229 (by decide) ?_
  replace hf := zb1_s hf
  obtain ⟨m111, h112, hf⟩ := hf
  refine zr_iast h112 dX12_init_230 ?_
  cases hf
  exact zr_vret dX12_init_231
theorem dX12_in_0 : decode cX12_in 0 = .ok (.iload_n 0, 1) := by decide +kernel
theorem dX12_in_1 : decode cX12_in 1 = .ok (.iload_n 1, 1) := by decide +kernel
theorem dX12_in_2 : decode cX12_in 2 = .ok (.if_icmp .lt 12, 3) := by decide +kernel
theorem dX12_in_5 : decode cX12_in 5 = .ok (.iload_n 0, 1) := by decide +kernel
theorem dX12_in_6 : decode cX12_in 6 = .ok (.iload_n 2, 1) := by decide +kernel
theorem dX12_in_7 : decode cX12_in 7 = .ok (.if_icmp .gt 7, 3) := by decide +kernel
theorem dX12_in_10 : decode cX12_in 10 = .ok (.iconst 1, 1) := by decide +kernel
theorem dX12_in_11 : decode cX12_in 11 = .ok (.goto 4, 3) := by decide +kernel
theorem dX12_in_14 : decode cX12_in 14 = .ok (.iconst 0, 1) := by decide +kernel
theorem dX12_in_15 : decode cX12_in 15 = .ok (.ireturn, 1) := by decide +kernel
noncomputable def fX12_in (μ : zM) (x0 : Int32) (x1 : Int32) (x2 : Int32) : Option (Int32) :=
  zb1 (if x0 < x1 then (
  some 0)
  else (
  if x2 < x0 then (
  some 0)
  else (
  some 1)) : Option (Int32)) fun (s1 : Int32) =>
  zb1 (zbz s1) fun v3 =>
  some v3
set_option maxHeartbeats 4000000 in
set_option maxRecDepth 100000 in
theorem cX12_in_ok {μ : zM} {x0 : Int32} {x1 : Int32} {x2 : Int32} {r : Int32} (hf : fX12_in μ x0 x1 x2 = some r) : zC yX12_in cX12_in 3 (some .boolean) 0 0 0 [.int x0, .int x1, .int x2] μ (some (.int r)) μ := by
  unfold fX12_in at hf
  refine zC.of (by decide) (Nat.le_of_ble_eq_true rfl) (fun K hin => ?_)
  clear hin
  show zz K cX12_in (3, RX12, some .boolean, 0, 0, 0, some (.int r), μ) 0 0 0 [(0, .int x0), (1, .int x1), (2, .int x2)] [] μ
  refine zr_iload_n 0 dX12_in_0 rfl ?_
  refine zr_iload_n 1 dX12_in_1 rfl ?_
  replace hf := zb1_s hf
  obtain ⟨s1, hg, hf⟩ := hf
  have hj2 : zz K cX12_in (3, RX12, some .boolean, 0, 0, 0, some (.int r), μ) 0 0 15 [] [.int s1] μ := by
    replace hf := zb1_s hf
    obtain ⟨v3, hn4, hf⟩ := hf
    replace hn4 := zbz_s hn4
    obtain ⟨hn4, rfl⟩ := hn4
    cases hf
    exact zr_zret hn4 dX12_in_15
  clear hf
  have hf := hg
  clear hg
  refine zr_icmp_lt 14 dX12_in_2 (by decide) (fun hc => ?_) (fun hc => ?_)
  · rw [if_pos hc] at hf
    refine zr_iconst 0 dX12_in_14 (by decide) ?_
    cases hf
    exact zr_lv [] rfl hj2
  · rw [if_neg hc] at hf
    refine zr_iload_n 0 dX12_in_5 rfl ?_
    refine zr_iload_n 2 dX12_in_6 rfl ?_
    refine zr_icmp_gt 14 dX12_in_7 (by decide) (fun hc => ?_) (fun hc => ?_)
    · rw [if_pos hc] at hf
      refine zr_iconst 0 dX12_in_14 (by decide) ?_
      cases hf
      exact zr_lv [] rfl hj2
    · rw [if_neg hc] at hf
      refine zr_iconst 1 dX12_in_10 (by decide) ?_
      refine zr_goto 15 dX12_in_11 (by decide) ?_
      cases hf
      exact zr_lv [] rfl hj2
theorem dX12_has_0 : decode cX12_has 0 = .ok (.iload_n 0, 1) := by decide +kernel
theorem dX12_has_1 : decode cX12_has 1 = .ok (.iload_n 1, 1) := by decide +kernel
theorem dX12_has_2 : decode cX12_has 2 = .ok (.ishr, 1) := by decide +kernel
theorem dX12_has_3 : decode cX12_has 3 = .ok (.iconst 1, 1) := by decide +kernel
theorem dX12_has_4 : decode cX12_has 4 = .ok (.iand, 1) := by decide +kernel
theorem dX12_has_5 : decode cX12_has 5 = .ok (.iconst 1, 1) := by decide +kernel
theorem dX12_has_6 : decode cX12_has 6 = .ok (.if_icmp .ne 7, 3) := by decide +kernel
theorem dX12_has_9 : decode cX12_has 9 = .ok (.iconst 1, 1) := by decide +kernel
theorem dX12_has_10 : decode cX12_has 10 = .ok (.goto 4, 3) := by decide +kernel
theorem dX12_has_13 : decode cX12_has 13 = .ok (.iconst 0, 1) := by decide +kernel
theorem dX12_has_14 : decode cX12_has 14 = .ok (.ireturn, 1) := by decide +kernel
noncomputable def fX12_has (μ : zM) (x0 : Int32) (x1 : Int32) : Option (Int32) :=
  zb1 (if ((x0 >>> (x1 &&& 31)) &&& 1) = 1 then (
  some 1)
  else (
  some 0) : Option (Int32)) fun (s1 : Int32) =>
  zb1 (zbz s1) fun v3 =>
  some v3
set_option maxHeartbeats 4000000 in
set_option maxRecDepth 100000 in
theorem cX12_has_ok {μ : zM} {x0 : Int32} {x1 : Int32} {r : Int32} (hf : fX12_has μ x0 x1 = some r) : zC yX12_has cX12_has 2 (some .boolean) 0 0 0 [.int x0, .int x1] μ (some (.int r)) μ := by
  unfold fX12_has at hf
  refine zC.of (by decide) (Nat.le_of_ble_eq_true rfl) (fun K hin => ?_)
  clear hin
  show zz K cX12_has (2, RX12, some .boolean, 0, 0, 0, some (.int r), μ) 0 0 0 [(0, .int x0), (1, .int x1)] [] μ
  refine zr_iload_n 0 dX12_has_0 rfl ?_
  refine zr_iload_n 1 dX12_has_1 rfl ?_
  refine zr_ishr dX12_has_2 ?_
  refine zr_iconst 1 dX12_has_3 (by decide) ?_
  refine zr_iand dX12_has_4 ?_
  refine zr_iconst 1 dX12_has_5 (by decide) ?_
  replace hf := zb1_s hf
  obtain ⟨s1, hg, hf⟩ := hf
  have hj2 : zz K cX12_has (2, RX12, some .boolean, 0, 0, 0, some (.int r), μ) 0 0 14 [] [.int s1] μ := by
    replace hf := zb1_s hf
    obtain ⟨v3, hn4, hf⟩ := hf
    replace hn4 := zbz_s hn4
    obtain ⟨hn4, rfl⟩ := hn4
    cases hf
    exact zr_zret hn4 dX12_has_14
  clear hf
  have hf := hg
  clear hg
  refine zr_icmp_ne 13 dX12_has_6 (by decide) (fun hc => ?_) (fun hc => ?_)
  · rw [if_neg hc] at hf
    refine zr_iconst 0 dX12_has_13 (by decide) ?_
    cases hf
    exact zr_lv [] rfl hj2
  · rw [if_pos hc] at hf
    refine zr_iconst 1 dX12_has_9 (by decide) ?_
    refine zr_goto 14 dX12_has_10 (by decide) ?_
    cases hf
    exact zr_lv [] rfl hj2
theorem dX12_greater_0 : decode cX12_greater 0 = .ok (.iload_n 0, 1) := by decide +kernel
theorem dX12_greater_1 : decode cX12_greater 1 = .ok (.iload_n 1, 1) := by decide +kernel
theorem dX12_greater_2 : decode cX12_greater 2 = .ok (.if_icmp .le 7, 3) := by decide +kernel
theorem dX12_greater_5 : decode cX12_greater 5 = .ok (.iload_n 0, 1) := by decide +kernel
theorem dX12_greater_6 : decode cX12_greater 6 = .ok (.goto 4, 3) := by decide +kernel
theorem dX12_greater_9 : decode cX12_greater 9 = .ok (.iload_n 1, 1) := by decide +kernel
theorem dX12_greater_10 : decode cX12_greater 10 = .ok (.ireturn, 1) := by decide +kernel
noncomputable def fX12_greater (μ : zM) (x0 : Int32) (x1 : Int32) : Option (Int32) :=
  zb1 (if x0 ≤ x1 then (
  some x1)
  else (
  some x0) : Option (Int32)) fun (s1 : Int32) =>
  some s1
set_option maxHeartbeats 4000000 in
set_option maxRecDepth 100000 in
theorem cX12_greater_ok {μ : zM} {x0 : Int32} {x1 : Int32} {r : Int32} (hf : fX12_greater μ x0 x1 = some r) : zC yX12_greater cX12_greater 2 (some .int) 0 0 0 [.int x0, .int x1] μ (some (.int r)) μ := by
  unfold fX12_greater at hf
  refine zC.of (by decide) (Nat.le_of_ble_eq_true rfl) (fun K hin => ?_)
  clear hin
  show zz K cX12_greater (2, RX12, some .int, 0, 0, 0, some (.int r), μ) 0 0 0 [(0, .int x0), (1, .int x1)] [] μ
  refine zr_iload_n 0 dX12_greater_0 rfl ?_
  refine zr_iload_n 1 dX12_greater_1 rfl ?_
  replace hf := zb1_s hf
  obtain ⟨s1, hg, hf⟩ := hf
  have hj2 : zz K cX12_greater (2, RX12, some .int, 0, 0, 0, some (.int r), μ) 0 0 10 [] [.int s1] μ := by
    cases hf
    exact zr_iret dX12_greater_10
  clear hf
  have hf := hg
  clear hg
  refine zr_icmp_le 9 dX12_greater_2 (by decide) (fun hc => ?_) (fun hc => ?_)
  · rw [if_pos hc] at hf
    refine zr_iload_n 1 dX12_greater_9 rfl ?_
    cases hf
    exact zr_lv [] rfl hj2
  · rw [if_neg hc] at hf
    refine zr_iload_n 0 dX12_greater_5 rfl ?_
    refine zr_goto 10 dX12_greater_6 (by decide) ?_
    cases hf
    exact zr_lv [] rfl hj2
theorem dX12_lesser_0 : decode cX12_lesser 0 = .ok (.iload_n 0, 1) := by decide +kernel
theorem dX12_lesser_1 : decode cX12_lesser 1 = .ok (.iload_n 1, 1) := by decide +kernel
theorem dX12_lesser_2 : decode cX12_lesser 2 = .ok (.if_icmp .ge 7, 3) := by decide +kernel
theorem dX12_lesser_5 : decode cX12_lesser 5 = .ok (.iload_n 0, 1) := by decide +kernel
theorem dX12_lesser_6 : decode cX12_lesser 6 = .ok (.goto 4, 3) := by decide +kernel
theorem dX12_lesser_9 : decode cX12_lesser 9 = .ok (.iload_n 1, 1) := by decide +kernel
theorem dX12_lesser_10 : decode cX12_lesser 10 = .ok (.ireturn, 1) := by decide +kernel
noncomputable def fX12_lesser (μ : zM) (x0 : Int32) (x1 : Int32) : Option (Int32) :=
  zb1 (if x1 ≤ x0 then (
  some x1)
  else (
  some x0) : Option (Int32)) fun (s1 : Int32) =>
  some s1
set_option maxHeartbeats 4000000 in
set_option maxRecDepth 100000 in
theorem cX12_lesser_ok {μ : zM} {x0 : Int32} {x1 : Int32} {r : Int32} (hf : fX12_lesser μ x0 x1 = some r) : zC yX12_lesser cX12_lesser 2 (some .int) 0 0 0 [.int x0, .int x1] μ (some (.int r)) μ := by
  unfold fX12_lesser at hf
  refine zC.of (by decide) (Nat.le_of_ble_eq_true rfl) (fun K hin => ?_)
  clear hin
  show zz K cX12_lesser (2, RX12, some .int, 0, 0, 0, some (.int r), μ) 0 0 0 [(0, .int x0), (1, .int x1)] [] μ
  refine zr_iload_n 0 dX12_lesser_0 rfl ?_
  refine zr_iload_n 1 dX12_lesser_1 rfl ?_
  replace hf := zb1_s hf
  obtain ⟨s1, hg, hf⟩ := hf
  have hj2 : zz K cX12_lesser (2, RX12, some .int, 0, 0, 0, some (.int r), μ) 0 0 10 [] [.int s1] μ := by
    cases hf
    exact zr_iret dX12_lesser_10
  clear hf
  have hf := hg
  clear hg
  refine zr_icmp_ge 9 dX12_lesser_2 (by decide) (fun hc => ?_) (fun hc => ?_)
  · rw [if_pos hc] at hf
    refine zr_iload_n 1 dX12_lesser_9 rfl ?_
    cases hf
    exact zr_lv [] rfl hj2
  · rw [if_neg hc] at hf
    refine zr_iload_n 0 dX12_lesser_5 rfl ?_
    refine zr_goto 10 dX12_lesser_6 (by decide) ?_
    cases hf
    exact zr_lv [] rfl hj2
theorem dX12_apart_0 : decode cX12_apart 0 = .ok (.iload_n 0, 1) := by decide +kernel
theorem dX12_apart_1 : decode cX12_apart 1 = .ok (.iload_n 1, 1) := by decide +kernel
theorem dX12_apart_2 : decode cX12_apart 2 = .ok (.if_icmp .ge 9, 3) := by decide +kernel
theorem dX12_apart_5 : decode cX12_apart 5 = .ok (.iload_n 1, 1) := by decide +kernel
theorem dX12_apart_6 : decode cX12_apart 6 = .ok (.iload_n 0, 1) := by decide +kernel
theorem dX12_apart_7 : decode cX12_apart 7 = .ok (.isub, 1) := by decide +kernel
theorem dX12_apart_8 : decode cX12_apart 8 = .ok (.goto 6, 3) := by decide +kernel
theorem dX12_apart_11 : decode cX12_apart 11 = .ok (.iload_n 0, 1) := by decide +kernel
theorem dX12_apart_12 : decode cX12_apart 12 = .ok (.iload_n 1, 1) := by decide +kernel
theorem dX12_apart_13 : decode cX12_apart 13 = .ok (.isub, 1) := by decide +kernel
theorem dX12_apart_14 : decode cX12_apart 14 = .ok (.ireturn, 1) := by decide +kernel
noncomputable def fX12_apart (μ : zM) (x0 : Int32) (x1 : Int32) : Option (Int32) :=
  zb1 (if x1 ≤ x0 then (
  some (x0 - x1))
  else (
  some (x1 - x0)) : Option (Int32)) fun (s1 : Int32) =>
  some s1
set_option maxHeartbeats 4000000 in
set_option maxRecDepth 100000 in
theorem cX12_apart_ok {μ : zM} {x0 : Int32} {x1 : Int32} {r : Int32} (hf : fX12_apart μ x0 x1 = some r) : zC yX12_apart cX12_apart 2 (some .int) 0 0 0 [.int x0, .int x1] μ (some (.int r)) μ := by
  unfold fX12_apart at hf
  refine zC.of (by decide) (Nat.le_of_ble_eq_true rfl) (fun K hin => ?_)
  clear hin
  show zz K cX12_apart (2, RX12, some .int, 0, 0, 0, some (.int r), μ) 0 0 0 [(0, .int x0), (1, .int x1)] [] μ
  refine zr_iload_n 0 dX12_apart_0 rfl ?_
  refine zr_iload_n 1 dX12_apart_1 rfl ?_
  replace hf := zb1_s hf
  obtain ⟨s1, hg, hf⟩ := hf
  have hj2 : zz K cX12_apart (2, RX12, some .int, 0, 0, 0, some (.int r), μ) 0 0 14 [] [.int s1] μ := by
    cases hf
    exact zr_iret dX12_apart_14
  clear hf
  have hf := hg
  clear hg
  refine zr_icmp_ge 11 dX12_apart_2 (by decide) (fun hc => ?_) (fun hc => ?_)
  · rw [if_pos hc] at hf
    refine zr_iload_n 0 dX12_apart_11 rfl ?_
    refine zr_iload_n 1 dX12_apart_12 rfl ?_
    refine zr_isub dX12_apart_13 ?_
    cases hf
    exact zr_lv [] rfl hj2
  · rw [if_neg hc] at hf
    refine zr_iload_n 1 dX12_apart_5 rfl ?_
    refine zr_iload_n 0 dX12_apart_6 rfl ?_
    refine zr_isub dX12_apart_7 ?_
    refine zr_goto 14 dX12_apart_8 (by decide) ?_
    cases hf
    exact zr_lv [] rfl hj2
theorem dX12_copyRow_0 : decode cX12_copyRow 0 = .ok (.iconst 0, 1) := by decide +kernel
theorem dX12_copyRow_1 : decode cX12_copyRow 1 = .ok (.istore 4, 2) := by decide +kernel
theorem dX12_copyRow_3 : decode cX12_copyRow 3 = .ok (.iload 4, 2) := by decide +kernel
theorem dX12_copyRow_5 : decode cX12_copyRow 5 = .ok (.iload_n 1, 1) := by decide +kernel
theorem dX12_copyRow_6 : decode cX12_copyRow 6 = .ok (.if_icmp .ge 25, 3) := by decide +kernel
theorem dX12_copyRow_9 : decode cX12_copyRow 9 = .ok (.aload_n 0, 1) := by decide +kernel
theorem dX12_copyRow_10 : decode cX12_copyRow 10 = .ok (.iload_n 1, 1) := by decide +kernel
theorem dX12_copyRow_11 : decode cX12_copyRow 11 = .ok (.iload_n 3, 1) := by decide +kernel
theorem dX12_copyRow_12 : decode cX12_copyRow 12 = .ok (.imul, 1) := by decide +kernel
theorem dX12_copyRow_13 : decode cX12_copyRow 13 = .ok (.iload 4, 2) := by decide +kernel
theorem dX12_copyRow_15 : decode cX12_copyRow 15 = .ok (.iadd, 1) := by decide +kernel
theorem dX12_copyRow_16 : decode cX12_copyRow 16 = .ok (.aload_n 0, 1) := by decide +kernel
theorem dX12_copyRow_17 : decode cX12_copyRow 17 = .ok (.iload_n 1, 1) := by decide +kernel
theorem dX12_copyRow_18 : decode cX12_copyRow 18 = .ok (.iload_n 2, 1) := by decide +kernel
theorem dX12_copyRow_19 : decode cX12_copyRow 19 = .ok (.imul, 1) := by decide +kernel
theorem dX12_copyRow_20 : decode cX12_copyRow 20 = .ok (.iload 4, 2) := by decide +kernel
theorem dX12_copyRow_22 : decode cX12_copyRow 22 = .ok (.iadd, 1) := by decide +kernel
theorem dX12_copyRow_23 : decode cX12_copyRow 23 = .ok (.iaload, 1) := by decide +kernel
theorem dX12_copyRow_24 : decode cX12_copyRow 24 = .ok (.iastore, 1) := by decide +kernel
theorem dX12_copyRow_25 : decode cX12_copyRow 25 = .ok (.iinc 4 1, 3) := by decide +kernel
theorem dX12_copyRow_28 : decode cX12_copyRow 28 = .ok (.goto (-25), 3) := by decide +kernel
theorem dX12_copyRow_31 : decode cX12_copyRow 31 = .ok (.return_, 1) := by decide +kernel
noncomputable def fX12_copyRow_l3 (x1 : Int32) (x0 : Nat) (x2 : Int32) (x3 : Int32) (F3 : Int32 → zM → Option (zM)) (x4_1 : Int32) (m2 : zM) : Option (zM) :=
  if x1 ≤ x4_1 then (
  some m2)
  else (
  zb1 (zm_aI m2 0 x0 ((x1 * x2) + x4_1)) fun v7 =>
  zb1 (zm_sI m2 0 x0 ((x1 * x3) + x4_1) v7) fun m9 =>
  F3 (x4_1 + 1) m9)
noncomputable def fX12_copyRow (μ : zM) (x0 : Nat) (x1 : Int32) (x2 : Int32) (x3 : Int32) : Option (zM) :=
  zb1 (zf2 (fX12_copyRow_l3 x1 x0 x2 x3) zfu 0 μ : Option (zM)) fun (m5 : zM) =>
  some m5
set_option maxHeartbeats 4000000 in
set_option maxRecDepth 100000 in
theorem cX12_copyRow_ok {μ : zM} {x0 : Nat} {x1 : Int32} {x2 : Int32} {x3 : Int32} {mo : zM} (hf : fX12_copyRow μ x0 x1 x2 x3 = some mo) : zC yX12_copyRow cX12_copyRow 5 (none) 0 0 0 [.ref x0, .int x1, .int x2, .int x3] μ (none) mo := by
  unfold fX12_copyRow at hf
  refine zC.of (by decide) (Nat.le_of_ble_eq_true rfl) (fun K hin => ?_)
  clear hin
  show zz K cX12_copyRow (5, RX12, none, 0, 0, 0, none, mo) 0 0 0 [(0, .ref x0), (1, .int x1), (2, .int x2), (3, .int x3)] [] μ
  refine zr_iconst 0 dX12_copyRow_0 (by decide) ?_
  refine zr_istore [(4, .int 0), (0, .ref x0), (1, .int x1), (2, .int x2), (3, .int x3)] dX12_copyRow_1 (Nat.le_of_ble_eq_true rfl) rfl ?_
  replace hf := zb1_s hf
  obtain ⟨m5, hg, hf⟩ := hf
  have hj6 : zz K cX12_copyRow (5, RX12, none, 0, 0, 0, none, mo) 0 0 31 [] [] m5 := by
    cases hf
    exact zr_vret dX12_copyRow_31
  clear hf
  have hf := hg
  clear hg
  have hL11 : ∀ (n : Nat) (x4_1 : Int32) (m2 : zM), zf2 (fX12_copyRow_l3 x1 x0 x2 x3) n x4_1 m2 = some m5 → zz K cX12_copyRow (5, RX12, none, 0, 0, 0, none, mo) 0 0 3 [(0, .ref x0), (1, .int x1), (2, .int x2), (3, .int x3), (4, .int x4_1)] [] m2 := by
    intro n
    induction n with
    | zero => intro x4_1 m2 hf; cases hf
    | succ n ih4 =>
      intro x4_1 m2 hf
      replace hf := zf2_s hf
      generalize zf2 (fX12_copyRow_l3 x1 x0 x2 x3) n = F3 at hf ih4
      unfold fX12_copyRow_l3 at hf
      refine zr_iload 4 dX12_copyRow_3 rfl ?_
      refine zr_iload_n 1 dX12_copyRow_5 rfl ?_
      refine zr_icmp_ge 31 dX12_copyRow_6 (by decide) (fun hc => ?_) (fun hc => ?_)
      · rw [if_pos hc] at hf
        cases hf
        exact zr_lv [] rfl hj6
      · rw [if_neg hc] at hf
        refine zr_aload_n 0 dX12_copyRow_9 rfl ?_
        refine zr_iload_n 1 dX12_copyRow_10 rfl ?_
        refine zr_iload_n 3 dX12_copyRow_11 rfl ?_
        refine zr_imul dX12_copyRow_12 ?_
        refine zr_iload 4 dX12_copyRow_13 rfl ?_
        refine zr_iadd dX12_copyRow_15 ?_
        refine zr_aload_n 0 dX12_copyRow_16 rfl ?_
        refine zr_iload_n 1 dX12_copyRow_17 rfl ?_
        refine zr_iload_n 2 dX12_copyRow_18 rfl ?_
        refine zr_imul dX12_copyRow_19 ?_
        refine zr_iload 4 dX12_copyRow_20 rfl ?_
        refine zr_iadd dX12_copyRow_22 ?_
        replace hf := zb1_s hf
        obtain ⟨v7, h8, hf⟩ := hf
        refine zr_iald h8 dX12_copyRow_23 ?_
        replace hf := zb1_s hf
        obtain ⟨m9, h10, hf⟩ := hf
        refine zr_iast h10 dX12_copyRow_24 ?_
        refine zr_iinc (j := 4) (x4_1 + 1) [(4, .int (x4_1 + 1)), (0, .ref x0), (1, .int x1), (2, .int x2), (3, .int x3)] dX12_copyRow_25 rfl rfl (Nat.le_of_ble_eq_true rfl) rfl ?_
        refine zr_goto 3 dX12_copyRow_28 (by decide) ?_
        exact zr_lv [1, 2, 3, 4, 0] rfl (ih4 (x4_1 + 1) m9 hf)
  exact zr_lv [1, 2, 3, 4, 0] rfl (hL11 _ 0 μ hf)
theorem zl_892 : Cond.code yX12_copyRow cX12_copyRow 5 (none) ∈ zt := zt_at 2028 (by decide +kernel)
theorem zl_893 : Cond.initialized RX12 ∈ zt := zt_at 140 (by decide +kernel)
theorem zvs_X12_copyRow : zvS yX12_copyRow cX12_copyRow 5 (none) 4 := ⟨zl_892, zl_893, ⟨by decide +kernel, by decide +kernel, by decide +kernel⟩, by decide⟩
theorem zl_894 : Cond.methodLink RX12 97 yX12_copyRow ∈ zt := zt_at 2026 (by decide +kernel)
theorem zl_895 : Cond.static yX12_copyRow ∈ zt := zt_at 2027 (by decide +kernel)
theorem dX12_copyAll_0 : decode cX12_copyAll 0 = .ok (.iconst 0, 1) := by decide +kernel
theorem dX12_copyAll_1 : decode cX12_copyAll 1 = .ok (.istore_n 3, 1) := by decide +kernel
theorem dX12_copyAll_2 : decode cX12_copyAll 2 = .ok (.iload_n 3, 1) := by decide +kernel
theorem dX12_copyAll_3 : decode cX12_copyAll 3 = .ok (.sipush 600, 3) := by decide +kernel
theorem dX12_copyAll_6 : decode cX12_copyAll 6 = .ok (.if_icmp .ge 33, 3) := by decide +kernel
theorem dX12_copyAll_9 : decode cX12_copyAll 9 = .ok (.aload_n 0, 1) := by decide +kernel
theorem dX12_copyAll_10 : decode cX12_copyAll 10 = .ok (.getfield 7, 3) := by decide +kernel
theorem dX12_copyAll_13 : decode cX12_copyAll 13 = .ok (.sipush 600, 3) := by decide +kernel
theorem dX12_copyAll_16 : decode cX12_copyAll 16 = .ok (.iload_n 2, 1) := by decide +kernel
theorem dX12_copyAll_17 : decode cX12_copyAll 17 = .ok (.imul, 1) := by decide +kernel
theorem dX12_copyAll_18 : decode cX12_copyAll 18 = .ok (.iload_n 3, 1) := by decide +kernel
theorem dX12_copyAll_19 : decode cX12_copyAll 19 = .ok (.iadd, 1) := by decide +kernel
theorem dX12_copyAll_20 : decode cX12_copyAll 20 = .ok (.aload_n 0, 1) := by decide +kernel
theorem dX12_copyAll_21 : decode cX12_copyAll 21 = .ok (.getfield 7, 3) := by decide +kernel
theorem dX12_copyAll_24 : decode cX12_copyAll 24 = .ok (.sipush 600, 3) := by decide +kernel
theorem dX12_copyAll_27 : decode cX12_copyAll 27 = .ok (.iload_n 1, 1) := by decide +kernel
theorem dX12_copyAll_28 : decode cX12_copyAll 28 = .ok (.imul, 1) := by decide +kernel
theorem dX12_copyAll_29 : decode cX12_copyAll 29 = .ok (.iload_n 3, 1) := by decide +kernel
theorem dX12_copyAll_30 : decode cX12_copyAll 30 = .ok (.iadd, 1) := by decide +kernel
theorem dX12_copyAll_31 : decode cX12_copyAll 31 = .ok (.baload, 1) := by decide +kernel
theorem dX12_copyAll_32 : decode cX12_copyAll 32 = .ok (.bastore, 1) := by decide +kernel
theorem dX12_copyAll_33 : decode cX12_copyAll 33 = .ok (.iinc 3 1, 3) := by decide +kernel
theorem dX12_copyAll_36 : decode cX12_copyAll 36 = .ok (.goto (-34), 3) := by decide +kernel
theorem dX12_copyAll_39 : decode cX12_copyAll 39 = .ok (.aload_n 0, 1) := by decide +kernel
theorem dX12_copyAll_40 : decode cX12_copyAll 40 = .ok (.getfield 13, 3) := by decide +kernel
theorem dX12_copyAll_43 : decode cX12_copyAll 43 = .ok (.iconst 1, 1) := by decide +kernel
theorem dX12_copyAll_44 : decode cX12_copyAll 44 = .ok (.iload_n 1, 1) := by decide +kernel
theorem dX12_copyAll_45 : decode cX12_copyAll 45 = .ok (.iload_n 2, 1) := by decide +kernel
theorem dX12_copyAll_46 : decode cX12_copyAll 46 = .ok (.invokestatic 97, 3) := by decide +kernel
theorem dX12_copyAll_49 : decode cX12_copyAll 49 = .ok (.aload_n 0, 1) := by decide +kernel
theorem dX12_copyAll_50 : decode cX12_copyAll 50 = .ok (.getfield 17, 3) := by decide +kernel
theorem dX12_copyAll_53 : decode cX12_copyAll 53 = .ok (.iconst 1, 1) := by decide +kernel
theorem dX12_copyAll_54 : decode cX12_copyAll 54 = .ok (.iload_n 1, 1) := by decide +kernel
theorem dX12_copyAll_55 : decode cX12_copyAll 55 = .ok (.iload_n 2, 1) := by decide +kernel
theorem dX12_copyAll_56 : decode cX12_copyAll 56 = .ok (.invokestatic 97, 3) := by decide +kernel
theorem dX12_copyAll_59 : decode cX12_copyAll 59 = .ok (.aload_n 0, 1) := by decide +kernel
theorem dX12_copyAll_60 : decode cX12_copyAll 60 = .ok (.getfield 20, 3) := by decide +kernel
theorem dX12_copyAll_63 : decode cX12_copyAll 63 = .ok (.iconst 1, 1) := by decide +kernel
theorem dX12_copyAll_64 : decode cX12_copyAll 64 = .ok (.iload_n 1, 1) := by decide +kernel
theorem dX12_copyAll_65 : decode cX12_copyAll 65 = .ok (.iload_n 2, 1) := by decide +kernel
theorem dX12_copyAll_66 : decode cX12_copyAll 66 = .ok (.invokestatic 97, 3) := by decide +kernel
theorem dX12_copyAll_69 : decode cX12_copyAll 69 = .ok (.aload_n 0, 1) := by decide +kernel
theorem dX12_copyAll_70 : decode cX12_copyAll 70 = .ok (.getfield 23, 3) := by decide +kernel
theorem dX12_copyAll_73 : decode cX12_copyAll 73 = .ok (.iconst 4, 1) := by decide +kernel
theorem dX12_copyAll_74 : decode cX12_copyAll 74 = .ok (.iload_n 1, 1) := by decide +kernel
theorem dX12_copyAll_75 : decode cX12_copyAll 75 = .ok (.iload_n 2, 1) := by decide +kernel
theorem dX12_copyAll_76 : decode cX12_copyAll 76 = .ok (.invokestatic 97, 3) := by decide +kernel
theorem dX12_copyAll_79 : decode cX12_copyAll 79 = .ok (.aload_n 0, 1) := by decide +kernel
theorem dX12_copyAll_80 : decode cX12_copyAll 80 = .ok (.getfield 26, 3) := by decide +kernel
theorem dX12_copyAll_83 : decode cX12_copyAll 83 = .ok (.bipush 114, 2) := by decide +kernel
theorem dX12_copyAll_85 : decode cX12_copyAll 85 = .ok (.iload_n 1, 1) := by decide +kernel
theorem dX12_copyAll_86 : decode cX12_copyAll 86 = .ok (.iload_n 2, 1) := by decide +kernel
theorem dX12_copyAll_87 : decode cX12_copyAll 87 = .ok (.invokestatic 97, 3) := by decide +kernel
theorem dX12_copyAll_90 : decode cX12_copyAll 90 = .ok (.aload_n 0, 1) := by decide +kernel
theorem dX12_copyAll_91 : decode cX12_copyAll 91 = .ok (.getfield 29, 3) := by decide +kernel
theorem dX12_copyAll_94 : decode cX12_copyAll 94 = .ok (.sipush 242, 3) := by decide +kernel
theorem dX12_copyAll_97 : decode cX12_copyAll 97 = .ok (.iload_n 1, 1) := by decide +kernel
theorem dX12_copyAll_98 : decode cX12_copyAll 98 = .ok (.iload_n 2, 1) := by decide +kernel
theorem dX12_copyAll_99 : decode cX12_copyAll 99 = .ok (.invokestatic 97, 3) := by decide +kernel
theorem dX12_copyAll_102 : decode cX12_copyAll 102 = .ok (.aload_n 0, 1) := by decide +kernel
theorem dX12_copyAll_103 : decode cX12_copyAll 103 = .ok (.getfield 32, 3) := by decide +kernel
theorem dX12_copyAll_106 : decode cX12_copyAll 106 = .ok (.bipush 44, 2) := by decide +kernel
theorem dX12_copyAll_108 : decode cX12_copyAll 108 = .ok (.iload_n 1, 1) := by decide +kernel
theorem dX12_copyAll_109 : decode cX12_copyAll 109 = .ok (.iload_n 2, 1) := by decide +kernel
theorem dX12_copyAll_110 : decode cX12_copyAll 110 = .ok (.invokestatic 97, 3) := by decide +kernel
theorem dX12_copyAll_113 : decode cX12_copyAll 113 = .ok (.aload_n 0, 1) := by decide +kernel
theorem dX12_copyAll_114 : decode cX12_copyAll 114 = .ok (.getfield 35, 3) := by decide +kernel
theorem dX12_copyAll_117 : decode cX12_copyAll 117 = .ok (.bipush 66, 2) := by decide +kernel
theorem dX12_copyAll_119 : decode cX12_copyAll 119 = .ok (.iload_n 1, 1) := by decide +kernel
theorem dX12_copyAll_120 : decode cX12_copyAll 120 = .ok (.iload_n 2, 1) := by decide +kernel
theorem dX12_copyAll_121 : decode cX12_copyAll 121 = .ok (.invokestatic 97, 3) := by decide +kernel
theorem dX12_copyAll_124 : decode cX12_copyAll 124 = .ok (.return_, 1) := by decide +kernel
noncomputable def fX12_copyAll_l2 (x0 : Nat) (x1 : Int32) (x2 : Int32) (F3 : Int32 → zM → Option (zM)) (x3_1 : Int32) (m2 : zM) : Option (zM) :=
  if 600 ≤ x3_1 then (
  some m2)
  else (
  zb1 (zm_gR m2 12 x0 1) fun v7 =>
  zb1 (zm_gR m2 12 x0 1) fun v9 =>
  zb1 (zm_aI m2 1 v9 ((600 * x1) + x3_1)) fun v11 =>
  zb1 (zm_sI m2 1 v7 ((600 * x2) + x3_1) (vp_nar .byte v11)) fun m13 =>
  F3 (x3_1 + 1) m13)
noncomputable def fX12_copyAll (μ : zM) (x0 : Nat) (x1 : Int32) (x2 : Int32) : Option (zM) := zgd (zm_ck μ 12 x0) <|
  zb1 (zf2 (fX12_copyAll_l2 x0 x1 x2) zfu 0 μ : Option (zM)) fun (m5 : zM) =>
  zb1 (zm_gR m5 12 x0 2) fun v16 =>
  zb1 (fX12_copyRow m5 v16 1 x1 x2) fun m19 =>
  zb1 (zm_gR m19 12 x0 3) fun v20 =>
  zb1 (fX12_copyRow m19 v20 1 x1 x2) fun m23 =>
  zb1 (zm_gR m23 12 x0 4) fun v24 =>
  zb1 (fX12_copyRow m23 v24 1 x1 x2) fun m27 =>
  zb1 (zm_gR m27 12 x0 5) fun v28 =>
  zb1 (fX12_copyRow m27 v28 4 x1 x2) fun m31 =>
  zb1 (zm_gR m31 12 x0 6) fun v32 =>
  zb1 (fX12_copyRow m31 v32 114 x1 x2) fun m35 =>
  zb1 (zm_gR m35 12 x0 7) fun v36 =>
  zb1 (fX12_copyRow m35 v36 242 x1 x2) fun m39 =>
  zb1 (zm_gR m39 12 x0 8) fun v40 =>
  zb1 (fX12_copyRow m39 v40 44 x1 x2) fun m43 =>
  zb1 (zm_gR m43 12 x0 9) fun v44 =>
  zb1 (fX12_copyRow m43 v44 66 x1 x2) fun m47 =>
  some m47
theorem fX12_copyAll_ck {μ : zM} {x0 : Nat} {x1 : Int32} {x2 : Int32} {z : zM} (h : fX12_copyAll μ x0 x1 x2 = some z) : zm_ck μ 12 x0 = true := (zgd_s h).1
set_option maxHeartbeats 4000000 in
set_option maxRecDepth 100000 in
theorem cX12_copyAll_ok {μ : zM} {x0 : Nat} {x1 : Int32} {x2 : Int32} {mo : zM} (hf : fX12_copyAll μ x0 x1 x2 = some mo) : zC yX12_copyAll cX12_copyAll 4 (none) 1 0 0 [.ref x0, .int x1, .int x2] μ (none) mo := by
  replace hf := (zgd_s hf).2
  refine zC.of (by decide) (Nat.le_of_ble_eq_true rfl) (fun K hin => ?_)
  clear hin
  show zz K cX12_copyAll (4, RX12, none, 1, 0, 0, none, mo) 0 0 0 [(0, .ref x0), (1, .int x1), (2, .int x2)] [] μ
  refine zr_iconst 0 dX12_copyAll_0 (by decide) ?_
  refine zr_istore_n [(3, .int 0), (0, .ref x0), (1, .int x1), (2, .int x2)] dX12_copyAll_1 (Nat.le_of_ble_eq_true rfl) rfl ?_
  replace hf := zb1_s hf
  obtain ⟨m5, hg, hf⟩ := hf
  have hj6 : zz K cX12_copyAll (4, RX12, none, 1, 0, 0, none, mo) 0 0 39 [(0, .ref x0), (1, .int x1), (2, .int x2)] [] m5 := by
    refine zr_aload_n 0 dX12_copyAll_39 rfl ?_
    replace hf := zb1_s hf
    obtain ⟨v16, h17, hf⟩ := hf
    refine zr_get (zm_gR_g h17) zk12 (by decide) zl_865 dX12_copyAll_40 ?_
    refine zr_iconst 1 dX12_copyAll_43 (by decide) ?_
    refine zr_iload_n 1 dX12_copyAll_44 rfl ?_
    refine zr_iload_n 2 dX12_copyAll_45 rfl ?_
    replace hf := zb1_s hf
    obtain ⟨m19, h18, hf⟩ := hf
    refine zr_callS [.ref v16, .int 1, .int x1, .int x2] (cX12_copyRow_ok h18) zvs_X12_copyRow zl_895 zl_894 rfl (Nat.le_of_ble_eq_true rfl) (Nat.le_of_ble_eq_true rfl) (Nat.le_of_ble_eq_true rfl) (Nat.le_of_ble_eq_true rfl) dX12_copyAll_46 rfl ?_
    refine zr_aload_n 0 dX12_copyAll_49 rfl ?_
    replace hf := zb1_s hf
    obtain ⟨v20, h21, hf⟩ := hf
    refine zr_get (zm_gR_g h21) zk12 (by decide) zl_866 dX12_copyAll_50 ?_
    refine zr_iconst 1 dX12_copyAll_53 (by decide) ?_
    refine zr_iload_n 1 dX12_copyAll_54 rfl ?_
    refine zr_iload_n 2 dX12_copyAll_55 rfl ?_
    replace hf := zb1_s hf
    obtain ⟨m23, h22, hf⟩ := hf
    refine zr_callS [.ref v20, .int 1, .int x1, .int x2] (cX12_copyRow_ok h22) zvs_X12_copyRow zl_895 zl_894 rfl (Nat.le_of_ble_eq_true rfl) (Nat.le_of_ble_eq_true rfl) (Nat.le_of_ble_eq_true rfl) (Nat.le_of_ble_eq_true rfl) dX12_copyAll_56 rfl ?_
    refine zr_aload_n 0 dX12_copyAll_59 rfl ?_
    replace hf := zb1_s hf
    obtain ⟨v24, h25, hf⟩ := hf
    refine zr_get (zm_gR_g h25) zk12 (by decide) zl_867 dX12_copyAll_60 ?_
    refine zr_iconst 1 dX12_copyAll_63 (by decide) ?_
    refine zr_iload_n 1 dX12_copyAll_64 rfl ?_
    refine zr_iload_n 2 dX12_copyAll_65 rfl ?_
    replace hf := zb1_s hf
    obtain ⟨m27, h26, hf⟩ := hf
    refine zr_callS [.ref v24, .int 1, .int x1, .int x2] (cX12_copyRow_ok h26) zvs_X12_copyRow zl_895 zl_894 rfl (Nat.le_of_ble_eq_true rfl) (Nat.le_of_ble_eq_true rfl) (Nat.le_of_ble_eq_true rfl) (Nat.le_of_ble_eq_true rfl) dX12_copyAll_66 rfl ?_
    refine zr_aload_n 0 dX12_copyAll_69 rfl ?_
    replace hf := zb1_s hf
    obtain ⟨v28, h29, hf⟩ := hf
    refine zr_get (zm_gR_g h29) zk12 (by decide) zl_868 dX12_copyAll_70 ?_
    refine zr_iconst 4 dX12_copyAll_73 (by decide) ?_
    refine zr_iload_n 1 dX12_copyAll_74 rfl ?_
    refine zr_iload_n 2 dX12_copyAll_75 rfl ?_
    replace hf := zb1_s hf
    obtain ⟨m31, h30, hf⟩ := hf
    refine zr_callS [.ref v28, .int 4, .int x1, .int x2] (cX12_copyRow_ok h30) zvs_X12_copyRow zl_895 zl_894 rfl (Nat.le_of_ble_eq_true rfl) (Nat.le_of_ble_eq_true rfl) (Nat.le_of_ble_eq_true rfl) (Nat.le_of_ble_eq_true rfl) dX12_copyAll_76 rfl ?_
    refine zr_aload_n 0 dX12_copyAll_79 rfl ?_
    replace hf := zb1_s hf
    obtain ⟨v32, h33, hf⟩ := hf
    refine zr_get (zm_gR_g h33) zk12 (by decide) zl_869 dX12_copyAll_80 ?_
    refine zr_bipush 114 dX12_copyAll_83 (by decide) ?_
    refine zr_iload_n 1 dX12_copyAll_85 rfl ?_
    refine zr_iload_n 2 dX12_copyAll_86 rfl ?_
    replace hf := zb1_s hf
    obtain ⟨m35, h34, hf⟩ := hf
    refine zr_callS [.ref v32, .int 114, .int x1, .int x2] (cX12_copyRow_ok h34) zvs_X12_copyRow zl_895 zl_894 rfl (Nat.le_of_ble_eq_true rfl) (Nat.le_of_ble_eq_true rfl) (Nat.le_of_ble_eq_true rfl) (Nat.le_of_ble_eq_true rfl) dX12_copyAll_87 rfl ?_
    refine zr_aload_n 0 dX12_copyAll_90 rfl ?_
    replace hf := zb1_s hf
    obtain ⟨v36, h37, hf⟩ := hf
    refine zr_get (zm_gR_g h37) zk12 (by decide) zl_870 dX12_copyAll_91 ?_
    refine zr_sipush 242 dX12_copyAll_94 (by decide) ?_
    refine zr_iload_n 1 dX12_copyAll_97 rfl ?_
    refine zr_iload_n 2 dX12_copyAll_98 rfl ?_
    replace hf := zb1_s hf
    obtain ⟨m39, h38, hf⟩ := hf
    refine zr_callS [.ref v36, .int 242, .int x1, .int x2] (cX12_copyRow_ok h38) zvs_X12_copyRow zl_895 zl_894 rfl (Nat.le_of_ble_eq_true rfl) (Nat.le_of_ble_eq_true rfl) (Nat.le_of_ble_eq_true rfl) (Nat.le_of_ble_eq_true rfl) dX12_copyAll_99 rfl ?_
    refine zr_aload_n 0 dX12_copyAll_102 rfl ?_
    replace hf := zb1_s hf
    obtain ⟨v40, h41, hf⟩ := hf
    refine zr_get (zm_gR_g h41) zk12 (by decide) zl_871 dX12_copyAll_103 ?_
    refine zr_bipush 44 dX12_copyAll_106 (by decide) ?_
    refine zr_iload_n 1 dX12_copyAll_108 rfl ?_
    refine zr_iload_n 2 dX12_copyAll_109 rfl ?_
    replace hf := zb1_s hf
    obtain ⟨m43, h42, hf⟩ := hf
    refine zr_callS [.ref v40, .int 44, .int x1, .int x2] (cX12_copyRow_ok h42) zvs_X12_copyRow zl_895 zl_894 rfl (Nat.le_of_ble_eq_true rfl) (Nat.le_of_ble_eq_true rfl) (Nat.le_of_ble_eq_true rfl) (Nat.le_of_ble_eq_true rfl) dX12_copyAll_110 rfl ?_
    refine zr_aload_n 0 dX12_copyAll_113 rfl ?_
    replace hf := zb1_s hf
    obtain ⟨v44, h45, hf⟩ := hf
    refine zr_get (zm_gR_g h45) zk12 (by decide) zl_872 dX12_copyAll_114 ?_
    refine zr_bipush 66 dX12_copyAll_117 (by decide) ?_
    refine zr_iload_n 1 dX12_copyAll_119 rfl ?_
    refine zr_iload_n 2 dX12_copyAll_120 rfl ?_
    replace hf := zb1_s hf
    obtain ⟨m47, h46, hf⟩ := hf
    refine zr_callS [.ref v44, .int 66, .int x1, .int x2] (cX12_copyRow_ok h46) zvs_X12_copyRow zl_895 zl_894 rfl (Nat.le_of_ble_eq_true rfl) (Nat.le_of_ble_eq_true rfl) (Nat.le_of_ble_eq_true rfl) (Nat.le_of_ble_eq_true rfl) dX12_copyAll_121 rfl ?_
    cases hf
    exact zr_vret dX12_copyAll_124
  clear hf
  have hf := hg
  clear hg
  have hL15 : ∀ (n : Nat) (x3_1 : Int32) (m2 : zM), zf2 (fX12_copyAll_l2 x0 x1 x2) n x3_1 m2 = some m5 → zz K cX12_copyAll (4, RX12, none, 1, 0, 0, none, mo) 0 0 2 [(0, .ref x0), (1, .int x1), (2, .int x2), (3, .int x3_1)] [] m2 := by
    intro n
    induction n with
    | zero => intro x3_1 m2 hf; cases hf
    | succ n ih4 =>
      intro x3_1 m2 hf
      replace hf := zf2_s hf
      generalize zf2 (fX12_copyAll_l2 x0 x1 x2) n = F3 at hf ih4
      unfold fX12_copyAll_l2 at hf
      refine zr_iload_n 3 dX12_copyAll_2 rfl ?_
      refine zr_sipush 600 dX12_copyAll_3 (by decide) ?_
      refine zr_icmp_ge 39 dX12_copyAll_6 (by decide) (fun hc => ?_) (fun hc => ?_)
      · rw [if_pos hc] at hf
        cases hf
        exact zr_lv [0, 1, 2] rfl hj6
      · rw [if_neg hc] at hf
        refine zr_aload_n 0 dX12_copyAll_9 rfl ?_
        replace hf := zb1_s hf
        obtain ⟨v7, h8, hf⟩ := hf
        refine zr_get (zm_gR_g h8) zk12 (by decide) zl_864 dX12_copyAll_10 ?_
        refine zr_sipush 600 dX12_copyAll_13 (by decide) ?_
        refine zr_iload_n 2 dX12_copyAll_16 rfl ?_
        refine zr_imul dX12_copyAll_17 ?_
        refine zr_iload_n 3 dX12_copyAll_18 rfl ?_
        refine zr_iadd dX12_copyAll_19 ?_
        refine zr_aload_n 0 dX12_copyAll_20 rfl ?_
        replace hf := zb1_s hf
        obtain ⟨v9, h10, hf⟩ := hf
        refine zr_get (zm_gR_g h10) zk12 (by decide) zl_864 dX12_copyAll_21 ?_
        refine zr_sipush 600 dX12_copyAll_24 (by decide) ?_
        refine zr_iload_n 1 dX12_copyAll_27 rfl ?_
        refine zr_imul dX12_copyAll_28 ?_
        refine zr_iload_n 3 dX12_copyAll_29 rfl ?_
        refine zr_iadd dX12_copyAll_30 ?_
        replace hf := zb1_s hf
        obtain ⟨v11, h12, hf⟩ := hf
        refine zr_bald h12 dX12_copyAll_31 ?_
        replace hf := zb1_s hf
        obtain ⟨m13, h14, hf⟩ := hf
        refine zr_bast h14 dX12_copyAll_32 ?_
        refine zr_iinc (j := 3) (x3_1 + 1) [(3, .int (x3_1 + 1)), (0, .ref x0), (1, .int x1), (2, .int x2)] dX12_copyAll_33 rfl rfl (Nat.le_of_ble_eq_true rfl) rfl ?_
        refine zr_goto 2 dX12_copyAll_36 (by decide) ?_
        exact zr_lv [1, 2, 3, 0] rfl (ih4 (x3_1 + 1) m13 hf)
  exact zr_lv [1, 2, 3, 0] rfl (hL15 _ 0 μ hf)
theorem zl_896 : Cond.code yX12_in cX12_in 3 (some .boolean) ∈ zt := zt_at 1519 (by decide +kernel)
theorem zvs_X12_in : zvS yX12_in cX12_in 3 (some .boolean) 3 := ⟨zl_896, zl_893, ⟨by decide +kernel, by decide +kernel, by decide +kernel⟩, by decide⟩
theorem zl_897 : Cond.methodLink RX12 101 yX12_in ∈ zt := zt_at 1517 (by decide +kernel)
theorem zl_898 : Cond.static yX12_in ∈ zt := zt_at 1518 (by decide +kernel)
theorem dX12_is_0 : decode cX12_is 0 = .ok (.iload_n 2, 1) := by decide +kernel
theorem dX12_is_1 : decode cX12_is 1 = .ok (.iconst 0, 1) := by decide +kernel
theorem dX12_is_2 : decode cX12_is 2 = .ok (.aload_n 0, 1) := by decide +kernel
theorem dX12_is_3 : decode cX12_is 3 = .ok (.getfield 23, 3) := by decide +kernel
theorem dX12_is_6 : decode cX12_is 6 = .ok (.iload_n 1, 1) := by decide +kernel
theorem dX12_is_7 : decode cX12_is 7 = .ok (.iaload, 1) := by decide +kernel
theorem dX12_is_8 : decode cX12_is 8 = .ok (.iconst 1, 1) := by decide +kernel
theorem dX12_is_9 : decode cX12_is 9 = .ok (.isub, 1) := by decide +kernel
theorem dX12_is_10 : decode cX12_is 10 = .ok (.invokestatic 101, 3) := by decide +kernel
theorem dX12_is_13 : decode cX12_is 13 = .ok (.ireturn, 1) := by decide +kernel
noncomputable def fX12_is (μ : zM) (x0 : Nat) (x1 : Int32) (x2 : Int32) : Option (Int32) := zgd (zm_ck μ 12 x0) <|
  zb1 (zm_gR μ 12 x0 5) fun v1 =>
  zb1 (zm_aI μ 0 v1 x1) fun v3 =>
  zb1 (fX12_in μ x2 0 (v3 - 1)) fun v6 =>
  zb1 (zbz v6) fun v7 =>
  some v7
theorem fX12_is_ck {μ : zM} {x0 : Nat} {x1 : Int32} {x2 : Int32} {z : Int32} (h : fX12_is μ x0 x1 x2 = some z) : zm_ck μ 12 x0 = true := (zgd_s h).1
set_option maxHeartbeats 4000000 in
set_option maxRecDepth 100000 in
theorem cX12_is_ok {μ : zM} {x0 : Nat} {x1 : Int32} {x2 : Int32} {r : Int32} (hf : fX12_is μ x0 x1 x2 = some r) : zC yX12_is cX12_is 3 (some .boolean) 1 0 0 [.ref x0, .int x1, .int x2] μ (some (.int r)) μ := by
  replace hf := (zgd_s hf).2
  refine zC.of (by decide) (Nat.le_of_ble_eq_true rfl) (fun K hin => ?_)
  clear hin
  show zz K cX12_is (3, RX12, some .boolean, 1, 0, 0, some (.int r), μ) 0 0 0 [(0, .ref x0), (1, .int x1), (2, .int x2)] [] μ
  refine zr_iload_n 2 dX12_is_0 rfl ?_
  refine zr_iconst 0 dX12_is_1 (by decide) ?_
  refine zr_aload_n 0 dX12_is_2 rfl ?_
  replace hf := zb1_s hf
  obtain ⟨v1, h2, hf⟩ := hf
  refine zr_get (zm_gR_g h2) zk12 (by decide) zl_868 dX12_is_3 ?_
  refine zr_iload_n 1 dX12_is_6 rfl ?_
  replace hf := zb1_s hf
  obtain ⟨v3, h4, hf⟩ := hf
  refine zr_iald h4 dX12_is_7 ?_
  refine zr_iconst 1 dX12_is_8 (by decide) ?_
  refine zr_isub dX12_is_9 ?_
  replace hf := zb1_s hf
  obtain ⟨v6, h5, hf⟩ := hf
  refine zr_callS [.int x2, .int 0, .int (v3 - 1)] (cX12_in_ok h5) zvs_X12_in zl_898 zl_897 rfl (Nat.le_of_ble_eq_true rfl) (Nat.le_of_ble_eq_true rfl) (Nat.le_of_ble_eq_true rfl) (Nat.le_of_ble_eq_true rfl) dX12_is_10 rfl ?_
  replace hf := zb1_s hf
  obtain ⟨v7, hn8, hf⟩ := hf
  replace hn8 := zbz_s hn8
  obtain ⟨hn8, rfl⟩ := hn8
  cases hf
  exact zr_zret hn8 dX12_is_13
theorem dX12_four_0 : decode cX12_four 0 = .ok (.bipush 24, 2) := by decide +kernel
theorem dX12_four_2 : decode cX12_four 2 = .ok (.istore_n 2, 1) := by decide +kernel
theorem dX12_four_3 : decode cX12_four 3 = .ok (.iload_n 2, 1) := by decide +kernel
theorem dX12_four_4 : decode cX12_four 4 = .ok (.ifCond .lt 34, 3) := by decide +kernel
theorem dX12_four_7 : decode cX12_four 7 = .ok (.aload_n 0, 1) := by decide +kernel
theorem dX12_four_8 : decode cX12_four 8 = .ok (.getfield 7, 3) := by decide +kernel
theorem dX12_four_11 : decode cX12_four 11 = .ok (.aload_n 0, 1) := by decide +kernel
theorem dX12_four_12 : decode cX12_four 12 = .ok (.getfield 13, 3) := by decide +kernel
theorem dX12_four_15 : decode cX12_four 15 = .ok (.iconst 0, 1) := by decide +kernel
theorem dX12_four_16 : decode cX12_four 16 = .ok (.iaload, 1) := by decide +kernel
theorem dX12_four_17 : decode cX12_four 17 = .ok (.iload_n 1, 1) := by decide +kernel
theorem dX12_four_18 : decode cX12_four 18 = .ok (.iload_n 2, 1) := by decide +kernel
theorem dX12_four_19 : decode cX12_four 19 = .ok (.ishr, 1) := by decide +kernel
theorem dX12_four_20 : decode cX12_four 20 = .ok (.i2b, 1) := by decide +kernel
theorem dX12_four_21 : decode cX12_four 21 = .ok (.bastore, 1) := by decide +kernel
theorem dX12_four_22 : decode cX12_four 22 = .ok (.aload_n 0, 1) := by decide +kernel
theorem dX12_four_23 : decode cX12_four 23 = .ok (.getfield 13, 3) := by decide +kernel
theorem dX12_four_26 : decode cX12_four 26 = .ok (.iconst 0, 1) := by decide +kernel
theorem dX12_four_27 : decode cX12_four 27 = .ok (.dup2, 1) := by decide +kernel
theorem dX12_four_28 : decode cX12_four 28 = .ok (.iaload, 1) := by decide +kernel
theorem dX12_four_29 : decode cX12_four 29 = .ok (.iconst 1, 1) := by decide +kernel
theorem dX12_four_30 : decode cX12_four 30 = .ok (.iadd, 1) := by decide +kernel
theorem dX12_four_31 : decode cX12_four 31 = .ok (.iastore, 1) := by decide +kernel
theorem dX12_four_32 : decode cX12_four 32 = .ok (.iinc 2 (-8), 3) := by decide +kernel
theorem dX12_four_35 : decode cX12_four 35 = .ok (.goto (-32), 3) := by decide +kernel
theorem dX12_four_38 : decode cX12_four 38 = .ok (.return_, 1) := by decide +kernel
noncomputable def fX12_four_l3 (x0 : Nat) (x1 : Int32) (F3 : Int32 → zM → Option (zM)) (x2_1 : Int32) (m2 : zM) : Option (zM) :=
  if x2_1 < 0 then (
  some m2)
  else (
  zb1 (zm_gR m2 12 x0 1) fun v7 =>
  zb1 (zm_gR m2 12 x0 2) fun v9 =>
  zb1 (zm_aI m2 0 v9 0) fun v11 =>
  zb1 (zm_sI m2 1 v7 v11 (vp_nar .byte ((x1 >>> (x2_1 &&& 31) : Int32).toInt8.toInt32))) fun m13 =>
  zb1 (zm_gR m13 12 x0 2) fun v15 =>
  zb1 (zm_aI m13 0 v15 0) fun v17 =>
  zb1 (zm_sI m13 0 v15 0 (v17 + 1)) fun m19 =>
  F3 (x2_1 + (-8)) m19)
noncomputable def fX12_four (μ : zM) (x0 : Nat) (x1 : Int32) : Option (zM) := zgd (zm_ck μ 12 x0) <|
  zb1 (zf2 (fX12_four_l3 x0 x1) zfu 24 μ : Option (zM)) fun (m5 : zM) =>
  some m5
theorem fX12_four_ck {μ : zM} {x0 : Nat} {x1 : Int32} {z : zM} (h : fX12_four μ x0 x1 = some z) : zm_ck μ 12 x0 = true := (zgd_s h).1
set_option maxHeartbeats 4000000 in
set_option maxRecDepth 100000 in
theorem cX12_four_ok {μ : zM} {x0 : Nat} {x1 : Int32} {mo : zM} (hf : fX12_four μ x0 x1 = some mo) : zC yX12_four cX12_four 3 (none) 0 0 0 [.ref x0, .int x1] μ (none) mo := by
  replace hf := (zgd_s hf).2
  refine zC.of (by decide) (Nat.le_of_ble_eq_true rfl) (fun K hin => ?_)
  clear hin
  show zz K cX12_four (3, RX12, none, 0, 0, 0, none, mo) 0 0 0 [(0, .ref x0), (1, .int x1)] [] μ
  refine zr_bipush 24 dX12_four_0 (by decide) ?_
  refine zr_istore_n [(2, .int 24), (0, .ref x0), (1, .int x1)] dX12_four_2 (Nat.le_of_ble_eq_true rfl) rfl ?_
  replace hf := zb1_s hf
  obtain ⟨m5, hg, hf⟩ := hf
  have hj6 : zz K cX12_four (3, RX12, none, 0, 0, 0, none, mo) 0 0 38 [] [] m5 := by
    cases hf
    exact zr_vret dX12_four_38
  clear hf
  have hf := hg
  clear hg
  have hL21 : ∀ (n : Nat) (x2_1 : Int32) (m2 : zM), zf2 (fX12_four_l3 x0 x1) n x2_1 m2 = some m5 → zz K cX12_four (3, RX12, none, 0, 0, 0, none, mo) 0 0 3 [(0, .ref x0), (1, .int x1), (2, .int x2_1)] [] m2 := by
    intro n
    induction n with
    | zero => intro x2_1 m2 hf; cases hf
    | succ n ih4 =>
      intro x2_1 m2 hf
      replace hf := zf2_s hf
      generalize zf2 (fX12_four_l3 x0 x1) n = F3 at hf ih4
      unfold fX12_four_l3 at hf
      refine zr_iload_n 2 dX12_four_3 rfl ?_
      refine zr_if_lt 38 dX12_four_4 (by decide) (fun hc => ?_) (fun hc => ?_)
      · rw [if_pos hc] at hf
        cases hf
        exact zr_lv [] rfl hj6
      · rw [if_neg hc] at hf
        refine zr_aload_n 0 dX12_four_7 rfl ?_
        replace hf := zb1_s hf
        obtain ⟨v7, h8, hf⟩ := hf
        refine zr_get (zm_gR_g h8) zk12 (by decide) zl_864 dX12_four_8 ?_
        refine zr_aload_n 0 dX12_four_11 rfl ?_
        replace hf := zb1_s hf
        obtain ⟨v9, h10, hf⟩ := hf
        refine zr_get (zm_gR_g h10) zk12 (by decide) zl_865 dX12_four_12 ?_
        refine zr_iconst 0 dX12_four_15 (by decide) ?_
        replace hf := zb1_s hf
        obtain ⟨v11, h12, hf⟩ := hf
        refine zr_iald h12 dX12_four_16 ?_
        refine zr_iload_n 1 dX12_four_17 rfl ?_
        refine zr_iload_n 2 dX12_four_18 rfl ?_
        refine zr_ishr dX12_four_19 ?_
        refine zr_i2b dX12_four_20 ?_
        replace hf := zb1_s hf
        obtain ⟨m13, h14, hf⟩ := hf
        refine zr_bast h14 dX12_four_21 ?_
        refine zr_aload_n 0 dX12_four_22 rfl ?_
        replace hf := zb1_s hf
        obtain ⟨v15, h16, hf⟩ := hf
        refine zr_get (zm_gR_g h16) zk12 (by decide) zl_865 dX12_four_23 ?_
        refine zr_iconst 0 dX12_four_26 (by decide) ?_
        refine zr_dup2 dX12_four_27 rfl rfl ?_
        replace hf := zb1_s hf
        obtain ⟨v17, h18, hf⟩ := hf
        refine zr_iald h18 dX12_four_28 ?_
        refine zr_iconst 1 dX12_four_29 (by decide) ?_
        refine zr_iadd dX12_four_30 ?_
        replace hf := zb1_s hf
        obtain ⟨m19, h20, hf⟩ := hf
        refine zr_iast h20 dX12_four_31 ?_
        refine zr_iinc (j := 2) (x2_1 + (-8)) [(2, .int (x2_1 + (-8))), (0, .ref x0), (1, .int x1)] dX12_four_32 rfl rfl (Nat.le_of_ble_eq_true rfl) rfl ?_
        refine zr_goto 3 dX12_four_35 (by decide) ?_
        exact zr_lv [1, 2, 0] rfl (ih4 (x2_1 + (-8)) m19 hf)
  exact zr_lv [1, 2, 0] rfl (hL21 _ 24 μ hf)
theorem zl_899 : Cond.fieldLink RX12 93 "TwoEchoesModel" "code" "I" ∈ zt := zt_at 1341 (by decide +kernel)
theorem zl_900 : Cond.code yX12_four cX12_four 3 (none) ∈ zt := zt_at 1512 (by decide +kernel)
theorem zvs_X12_four : zvS yX12_four cX12_four 3 (none) 1 := ⟨zl_900, zl_893, ⟨by decide +kernel, by decide +kernel, by decide +kernel⟩, by decide⟩
theorem zl_901 : Cond.methodLink RX12 105 yX12_four ∈ zt := zt_at 1509 (by decide +kernel)
theorem zl_902 : Cond.instanceMethod yX12_four ∈ zt := zt_at 1511 (by decide +kernel)
theorem zl_903 : Cond.selects RX12 yX12_four yX12_four ∈ zt := zt_at 47 (by decide +kernel)
theorem dX12_feed_0 : decode cX12_feed 0 = .ok (.aload_n 0, 1) := by decide +kernel
theorem dX12_feed_1 : decode cX12_feed 1 = .ok (.iconst 0, 1) := by decide +kernel
theorem dX12_feed_2 : decode cX12_feed 2 = .ok (.putfield 93, 3) := by decide +kernel
theorem dX12_feed_5 : decode cX12_feed 5 = .ok (.aload_n 0, 1) := by decide +kernel
theorem dX12_feed_6 : decode cX12_feed 6 = .ok (.getfield 13, 3) := by decide +kernel
theorem dX12_feed_9 : decode cX12_feed 9 = .ok (.iconst 0, 1) := by decide +kernel
theorem dX12_feed_10 : decode cX12_feed 10 = .ok (.iaload, 1) := by decide +kernel
theorem dX12_feed_11 : decode cX12_feed 11 = .ok (.bipush 20, 2) := by decide +kernel
theorem dX12_feed_13 : decode cX12_feed 13 = .ok (.iadd, 1) := by decide +kernel
theorem dX12_feed_14 : decode cX12_feed 14 = .ok (.sipush 600, 3) := by decide +kernel
theorem dX12_feed_17 : decode cX12_feed 17 = .ok (.if_icmp .le 5, 3) := by decide +kernel
theorem dX12_feed_20 : decode cX12_feed 20 = .ok (.iconst (-1), 1) := by decide +kernel
theorem dX12_feed_21 : decode cX12_feed 21 = .ok (.ireturn, 1) := by decide +kernel
theorem dX12_feed_22 : decode cX12_feed 22 = .ok (.aload_n 0, 1) := by decide +kernel
theorem dX12_feed_23 : decode cX12_feed 23 = .ok (.iload_n 1, 1) := by decide +kernel
theorem dX12_feed_24 : decode cX12_feed 24 = .ok (.invokevirtual 105, 3) := by decide +kernel
theorem dX12_feed_27 : decode cX12_feed 27 = .ok (.aload_n 0, 1) := by decide +kernel
theorem dX12_feed_28 : decode cX12_feed 28 = .ok (.iload_n 2, 1) := by decide +kernel
theorem dX12_feed_29 : decode cX12_feed 29 = .ok (.invokevirtual 105, 3) := by decide +kernel
theorem dX12_feed_32 : decode cX12_feed 32 = .ok (.aload_n 0, 1) := by decide +kernel
theorem dX12_feed_33 : decode cX12_feed 33 = .ok (.iload_n 3, 1) := by decide +kernel
theorem dX12_feed_34 : decode cX12_feed 34 = .ok (.invokevirtual 105, 3) := by decide +kernel
theorem dX12_feed_37 : decode cX12_feed 37 = .ok (.aload_n 0, 1) := by decide +kernel
theorem dX12_feed_38 : decode cX12_feed 38 = .ok (.iload 4, 2) := by decide +kernel
theorem dX12_feed_40 : decode cX12_feed 40 = .ok (.invokevirtual 105, 3) := by decide +kernel
theorem dX12_feed_43 : decode cX12_feed 43 = .ok (.aload_n 0, 1) := by decide +kernel
theorem dX12_feed_44 : decode cX12_feed 44 = .ok (.iload 5, 2) := by decide +kernel
theorem dX12_feed_46 : decode cX12_feed 46 = .ok (.invokevirtual 105, 3) := by decide +kernel
theorem dX12_feed_49 : decode cX12_feed 49 = .ok (.aload_n 0, 1) := by decide +kernel
theorem dX12_feed_50 : decode cX12_feed 50 = .ok (.getfield 13, 3) := by decide +kernel
theorem dX12_feed_53 : decode cX12_feed 53 = .ok (.iconst 0, 1) := by decide +kernel
theorem dX12_feed_54 : decode cX12_feed 54 = .ok (.iaload, 1) := by decide +kernel
theorem dX12_feed_55 : decode cX12_feed 55 = .ok (.ireturn, 1) := by decide +kernel
noncomputable def fX12_feed (μ : zM) (x0 : Nat) (x1 : Int32) (x2 : Int32) (x3 : Int32) (x4 : Int32) (x5 : Int32) : Option (Int32 × zM) := zgd (zm_ck μ 12 x0) <|
  zb1 (zm_p μ 12 x0 0 (.int 0)) fun m1 =>
  zb1 (zm_gR m1 12 x0 2) fun v3 =>
  zb1 (zm_aI m1 0 v3 0) fun v5 =>
  if (v5 + 20) ≤ 600 then (
  zb1 (fX12_four m1 x0 x1) fun m8 =>
  zb1 (fX12_four m8 x0 x2) fun m10 =>
  zb1 (fX12_four m10 x0 x3) fun m12 =>
  zb1 (fX12_four m12 x0 x4) fun m14 =>
  zb1 (fX12_four m14 x0 x5) fun m16 =>
  zb1 (zm_gR m16 12 x0 2) fun v17 =>
  zb1 (zm_aI m16 0 v17 0) fun v19 =>
  some (v19, m16))
  else (
  some ((-1), m1))
theorem fX12_feed_ck {μ : zM} {x0 : Nat} {x1 : Int32} {x2 : Int32} {x3 : Int32} {x4 : Int32} {x5 : Int32} {z : Int32 × zM} (h : fX12_feed μ x0 x1 x2 x3 x4 x5 = some z) : zm_ck μ 12 x0 = true := (zgd_s h).1
set_option maxHeartbeats 4000000 in
set_option maxRecDepth 100000 in
theorem cX12_feed_ok {μ : zM} {x0 : Nat} {x1 : Int32} {x2 : Int32} {x3 : Int32} {x4 : Int32} {x5 : Int32} {r : Int32} {mo : zM} (hf : fX12_feed μ x0 x1 x2 x3 x4 x5 = some (r, mo)) : zC yX12_feed cX12_feed 6 (some .int) 1 0 0 [.ref x0, .int x1, .int x2, .int x3, .int x4, .int x5] μ (some (.int r)) mo := by
  replace hf := (zgd_s hf).2
  refine zC.of (by decide) (Nat.le_of_ble_eq_true rfl) (fun K hin => ?_)
  clear hin
  show zz K cX12_feed (6, RX12, some .int, 1, 0, 0, some (.int r), mo) 0 0 0 [(0, .ref x0), (1, .int x1), (2, .int x2), (3, .int x3), (4, .int x4), (5, .int x5)] [] μ
  refine zr_aload_n 0 dX12_feed_0 rfl ?_
  refine zr_iconst 0 dX12_feed_1 (by decide) ?_
  replace hf := zb1_s hf
  obtain ⟨m1, h2, hf⟩ := hf
  refine zr_put h2 zk12 (by decide) zl_899 rfl rfl rfl dX12_feed_2 ?_
  refine zr_aload_n 0 dX12_feed_5 rfl ?_
  replace hf := zb1_s hf
  obtain ⟨v3, h4, hf⟩ := hf
  refine zr_get (zm_gR_g h4) zk12 (by decide) zl_865 dX12_feed_6 ?_
  refine zr_iconst 0 dX12_feed_9 (by decide) ?_
  replace hf := zb1_s hf
  obtain ⟨v5, h6, hf⟩ := hf
  refine zr_iald h6 dX12_feed_10 ?_
  refine zr_bipush 20 dX12_feed_11 (by decide) ?_
  refine zr_iadd dX12_feed_13 ?_
  refine zr_sipush 600 dX12_feed_14 (by decide) ?_
  refine zr_icmp_le 22 dX12_feed_17 (by decide) (fun hc => ?_) (fun hc => ?_)
  · rw [if_pos hc] at hf
    refine zr_aload_n 0 dX12_feed_22 rfl ?_
    refine zr_iload_n 1 dX12_feed_23 rfl ?_
    replace hf := zb1_s hf
    obtain ⟨m8, h7, hf⟩ := hf
    refine zr_callV (ci := 12) [.int x1] (cX12_four_ok h7) zvs_X12_four zl_902 zl_903 (fX12_four_ck h7) rfl rfl zl_901 rfl (Nat.le_of_ble_eq_true rfl) (Nat.le_of_ble_eq_true rfl) (Nat.le_of_ble_eq_true rfl) (Nat.le_of_ble_eq_true rfl) dX12_feed_24 rfl ?_
    refine zr_aload_n 0 dX12_feed_27 rfl ?_
    refine zr_iload_n 2 dX12_feed_28 rfl ?_
    replace hf := zb1_s hf
    obtain ⟨m10, h9, hf⟩ := hf
    refine zr_callV (ci := 12) [.int x2] (cX12_four_ok h9) zvs_X12_four zl_902 zl_903 (fX12_four_ck h9) rfl rfl zl_901 rfl (Nat.le_of_ble_eq_true rfl) (Nat.le_of_ble_eq_true rfl) (Nat.le_of_ble_eq_true rfl) (Nat.le_of_ble_eq_true rfl) dX12_feed_29 rfl ?_
    refine zr_aload_n 0 dX12_feed_32 rfl ?_
    refine zr_iload_n 3 dX12_feed_33 rfl ?_
    replace hf := zb1_s hf
    obtain ⟨m12, h11, hf⟩ := hf
    refine zr_callV (ci := 12) [.int x3] (cX12_four_ok h11) zvs_X12_four zl_902 zl_903 (fX12_four_ck h11) rfl rfl zl_901 rfl (Nat.le_of_ble_eq_true rfl) (Nat.le_of_ble_eq_true rfl) (Nat.le_of_ble_eq_true rfl) (Nat.le_of_ble_eq_true rfl) dX12_feed_34 rfl ?_
    refine zr_aload_n 0 dX12_feed_37 rfl ?_
    refine zr_iload 4 dX12_feed_38 rfl ?_
    replace hf := zb1_s hf
    obtain ⟨m14, h13, hf⟩ := hf
    refine zr_callV (ci := 12) [.int x4] (cX12_four_ok h13) zvs_X12_four zl_902 zl_903 (fX12_four_ck h13) rfl rfl zl_901 rfl (Nat.le_of_ble_eq_true rfl) (Nat.le_of_ble_eq_true rfl) (Nat.le_of_ble_eq_true rfl) (Nat.le_of_ble_eq_true rfl) dX12_feed_40 rfl ?_
    refine zr_aload_n 0 dX12_feed_43 rfl ?_
    refine zr_iload 5 dX12_feed_44 rfl ?_
    replace hf := zb1_s hf
    obtain ⟨m16, h15, hf⟩ := hf
    refine zr_callV (ci := 12) [.int x5] (cX12_four_ok h15) zvs_X12_four zl_902 zl_903 (fX12_four_ck h15) rfl rfl zl_901 rfl (Nat.le_of_ble_eq_true rfl) (Nat.le_of_ble_eq_true rfl) (Nat.le_of_ble_eq_true rfl) (Nat.le_of_ble_eq_true rfl) dX12_feed_46 rfl ?_
    refine zr_aload_n 0 dX12_feed_49 rfl ?_
    replace hf := zb1_s hf
    obtain ⟨v17, h18, hf⟩ := hf
    refine zr_get (zm_gR_g h18) zk12 (by decide) zl_865 dX12_feed_50 ?_
    refine zr_iconst 0 dX12_feed_53 (by decide) ?_
    replace hf := zb1_s hf
    obtain ⟨v19, h20, hf⟩ := hf
    refine zr_iald h20 dX12_feed_54 ?_
    cases hf
    exact zr_iret dX12_feed_55
  · rw [if_neg hc] at hf
    refine zr_iconst (-1) dX12_feed_20 (by decide) ?_
    cases hf
    exact zr_iret dX12_feed_21
theorem dX12_end_0 : decode cX12_end 0 = .ok (.aload_n 0, 1) := by decide +kernel
theorem dX12_end_1 : decode cX12_end 1 = .ok (.iconst 0, 1) := by decide +kernel
theorem dX12_end_2 : decode cX12_end 2 = .ok (.putfield 93, 3) := by decide +kernel
theorem dX12_end_5 : decode cX12_end 5 = .ok (.iload_n 1, 1) := by decide +kernel
theorem dX12_end_6 : decode cX12_end 6 = .ok (.iconst 0, 1) := by decide +kernel
theorem dX12_end_7 : decode cX12_end 7 = .ok (.aload_n 0, 1) := by decide +kernel
theorem dX12_end_8 : decode cX12_end 8 = .ok (.getfield 13, 3) := by decide +kernel
theorem dX12_end_11 : decode cX12_end 11 = .ok (.iconst 0, 1) := by decide +kernel
theorem dX12_end_12 : decode cX12_end 12 = .ok (.iaload, 1) := by decide +kernel
theorem dX12_end_13 : decode cX12_end 13 = .ok (.invokestatic 101, 3) := by decide +kernel
theorem dX12_end_16 : decode cX12_end 16 = .ok (.ifCond .ne 5, 3) := by decide +kernel
theorem dX12_end_19 : decode cX12_end 19 = .ok (.iconst (-1), 1) := by decide +kernel
theorem dX12_end_20 : decode cX12_end 20 = .ok (.ireturn, 1) := by decide +kernel
theorem dX12_end_21 : decode cX12_end 21 = .ok (.aload_n 0, 1) := by decide +kernel
theorem dX12_end_22 : decode cX12_end 22 = .ok (.getfield 13, 3) := by decide +kernel
theorem dX12_end_25 : decode cX12_end 25 = .ok (.iconst 0, 1) := by decide +kernel
theorem dX12_end_26 : decode cX12_end 26 = .ok (.iload_n 1, 1) := by decide +kernel
theorem dX12_end_27 : decode cX12_end 27 = .ok (.iastore, 1) := by decide +kernel
theorem dX12_end_28 : decode cX12_end 28 = .ok (.iload_n 1, 1) := by decide +kernel
theorem dX12_end_29 : decode cX12_end 29 = .ok (.ireturn, 1) := by decide +kernel
noncomputable def fX12_end (μ : zM) (x0 : Nat) (x1 : Int32) : Option (Int32 × zM) := zgd (zm_ck μ 12 x0) <|
  zb1 (zm_p μ 12 x0 0 (.int 0)) fun m1 =>
  zb1 (zm_gR m1 12 x0 2) fun v3 =>
  zb1 (zm_aI m1 0 v3 0) fun v5 =>
  zb1 (fX12_in m1 x1 0 v5) fun v8 =>
  if v8 = 0 then (
  some ((-1), m1))
  else (
  zb1 (zm_gR m1 12 x0 2) fun v9 =>
  zb1 (zm_sI m1 0 v9 0 x1) fun m11 =>
  some (x1, m11))
theorem fX12_end_ck {μ : zM} {x0 : Nat} {x1 : Int32} {z : Int32 × zM} (h : fX12_end μ x0 x1 = some z) : zm_ck μ 12 x0 = true := (zgd_s h).1
set_option maxHeartbeats 4000000 in
set_option maxRecDepth 100000 in
theorem cX12_end_ok {μ : zM} {x0 : Nat} {x1 : Int32} {r : Int32} {mo : zM} (hf : fX12_end μ x0 x1 = some (r, mo)) : zC yX12_end cX12_end 2 (some .int) 1 0 0 [.ref x0, .int x1] μ (some (.int r)) mo := by
  replace hf := (zgd_s hf).2
  refine zC.of (by decide) (Nat.le_of_ble_eq_true rfl) (fun K hin => ?_)
  clear hin
  show zz K cX12_end (2, RX12, some .int, 1, 0, 0, some (.int r), mo) 0 0 0 [(0, .ref x0), (1, .int x1)] [] μ
  refine zr_aload_n 0 dX12_end_0 rfl ?_
  refine zr_iconst 0 dX12_end_1 (by decide) ?_
  replace hf := zb1_s hf
  obtain ⟨m1, h2, hf⟩ := hf
  refine zr_put h2 zk12 (by decide) zl_899 rfl rfl rfl dX12_end_2 ?_
  refine zr_iload_n 1 dX12_end_5 rfl ?_
  refine zr_iconst 0 dX12_end_6 (by decide) ?_
  refine zr_aload_n 0 dX12_end_7 rfl ?_
  replace hf := zb1_s hf
  obtain ⟨v3, h4, hf⟩ := hf
  refine zr_get (zm_gR_g h4) zk12 (by decide) zl_865 dX12_end_8 ?_
  refine zr_iconst 0 dX12_end_11 (by decide) ?_
  replace hf := zb1_s hf
  obtain ⟨v5, h6, hf⟩ := hf
  refine zr_iald h6 dX12_end_12 ?_
  replace hf := zb1_s hf
  obtain ⟨v8, h7, hf⟩ := hf
  refine zr_callS [.int x1, .int 0, .int v5] (cX12_in_ok h7) zvs_X12_in zl_898 zl_897 rfl (Nat.le_of_ble_eq_true rfl) (Nat.le_of_ble_eq_true rfl) (Nat.le_of_ble_eq_true rfl) (Nat.le_of_ble_eq_true rfl) dX12_end_13 rfl ?_
  refine zr_if_ne 21 dX12_end_16 (by decide) (fun hc => ?_) (fun hc => ?_)
  · rw [if_neg hc] at hf
    refine zr_aload_n 0 dX12_end_21 rfl ?_
    replace hf := zb1_s hf
    obtain ⟨v9, h10, hf⟩ := hf
    refine zr_get (zm_gR_g h10) zk12 (by decide) zl_865 dX12_end_22 ?_
    refine zr_iconst 0 dX12_end_25 (by decide) ?_
    refine zr_iload_n 1 dX12_end_26 rfl ?_
    replace hf := zb1_s hf
    obtain ⟨m11, h12, hf⟩ := hf
    refine zr_iast h12 dX12_end_27 ?_
    refine zr_iload_n 1 dX12_end_28 rfl ?_
    cases hf
    exact zr_iret dX12_end_29
  · rw [if_pos hc] at hf
    refine zr_iconst (-1) dX12_end_19 (by decide) ?_
    cases hf
    exact zr_iret dX12_end_20
theorem zl_904 : Cond.fieldLink RX12 109 "TwoEchoesModel" "reached" "I" ∈ zt := zt_at 1351 (by decide +kernel)
theorem zl_905 : Cond.fieldLink RX12 112 "TwoEchoesModel" "length" "I" ∈ zt := zt_at 1352 (by decide +kernel)
theorem dX12_see_0 : decode cX12_see 0 = .ok (.aload_n 0, 1) := by decide +kernel
theorem dX12_see_1 : decode cX12_see 1 = .ok (.getfield 109, 3) := by decide +kernel
theorem dX12_see_4 : decode cX12_see 4 = .ok (.aload_n 0, 1) := by decide +kernel
theorem dX12_see_5 : decode cX12_see 5 = .ok (.getfield 112, 3) := by decide +kernel
theorem dX12_see_8 : decode cX12_see 8 = .ok (.if_icmp .ge 19, 3) := by decide +kernel
theorem dX12_see_11 : decode cX12_see 11 = .ok (.aload_n 0, 1) := by decide +kernel
theorem dX12_see_12 : decode cX12_see 12 = .ok (.getfield 7, 3) := by decide +kernel
theorem dX12_see_15 : decode cX12_see 15 = .ok (.aload_n 0, 1) := by decide +kernel
theorem dX12_see_16 : decode cX12_see 16 = .ok (.getfield 109, 3) := by decide +kernel
theorem dX12_see_19 : decode cX12_see 19 = .ok (.baload, 1) := by decide +kernel
theorem dX12_see_20 : decode cX12_see 20 = .ok (.sipush 255, 3) := by decide +kernel
theorem dX12_see_23 : decode cX12_see 23 = .ok (.iand, 1) := by decide +kernel
theorem dX12_see_24 : decode cX12_see 24 = .ok (.goto 4, 3) := by decide +kernel
theorem dX12_see_27 : decode cX12_see 27 = .ok (.iconst (-1), 1) := by decide +kernel
theorem dX12_see_28 : decode cX12_see 28 = .ok (.ireturn, 1) := by decide +kernel
noncomputable def fX12_see (μ : zM) (x0 : Nat) : Option (Int32) := zgd (zm_ck μ 12 x0) <|
  zb1 (zm_gI μ 12 x0 10) fun v1 =>
  zb1 (zm_gI μ 12 x0 11) fun v3 =>
  zb1 (if v3 ≤ v1 then (
  some (-1))
  else (
  zb1 (zm_gR μ 12 x0 1) fun v7 =>
  zb1 (zm_gI μ 12 x0 10) fun v9 =>
  zb1 (zm_aI μ 1 v7 v9) fun v11 =>
  some (v11 &&& 255)) : Option (Int32)) fun (s5 : Int32) =>
  some s5
theorem fX12_see_ck {μ : zM} {x0 : Nat} {z : Int32} (h : fX12_see μ x0 = some z) : zm_ck μ 12 x0 = true := (zgd_s h).1
set_option maxHeartbeats 4000000 in
set_option maxRecDepth 100000 in
theorem cX12_see_ok {μ : zM} {x0 : Nat} {r : Int32} (hf : fX12_see μ x0 = some r) : zC yX12_see cX12_see 1 (some .int) 0 0 0 [.ref x0] μ (some (.int r)) μ := by
  replace hf := (zgd_s hf).2
  refine zC.of (by decide) (Nat.le_of_ble_eq_true rfl) (fun K hin => ?_)
  clear hin
  show zz K cX12_see (1, RX12, some .int, 0, 0, 0, some (.int r), μ) 0 0 0 [(0, .ref x0)] [] μ
  refine zr_aload_n 0 dX12_see_0 rfl ?_
  replace hf := zb1_s hf
  obtain ⟨v1, h2, hf⟩ := hf
  refine zr_get (zm_gI_g h2) zk12 (by decide) zl_904 dX12_see_1 ?_
  refine zr_aload_n 0 dX12_see_4 rfl ?_
  replace hf := zb1_s hf
  obtain ⟨v3, h4, hf⟩ := hf
  refine zr_get (zm_gI_g h4) zk12 (by decide) zl_905 dX12_see_5 ?_
  replace hf := zb1_s hf
  obtain ⟨s5, hg, hf⟩ := hf
  have hj6 : zz K cX12_see (1, RX12, some .int, 0, 0, 0, some (.int r), μ) 0 0 28 [] [.int s5] μ := by
    cases hf
    exact zr_iret dX12_see_28
  clear hf
  have hf := hg
  clear hg
  refine zr_icmp_ge 27 dX12_see_8 (by decide) (fun hc => ?_) (fun hc => ?_)
  · rw [if_pos hc] at hf
    refine zr_iconst (-1) dX12_see_27 (by decide) ?_
    cases hf
    exact zr_lv [] rfl hj6
  · rw [if_neg hc] at hf
    refine zr_aload_n 0 dX12_see_11 rfl ?_
    replace hf := zb1_s hf
    obtain ⟨v7, h8, hf⟩ := hf
    refine zr_get (zm_gR_g h8) zk12 (by decide) zl_864 dX12_see_12 ?_
    refine zr_aload_n 0 dX12_see_15 rfl ?_
    replace hf := zb1_s hf
    obtain ⟨v9, h10, hf⟩ := hf
    refine zr_get (zm_gI_g h10) zk12 (by decide) zl_904 dX12_see_16 ?_
    replace hf := zb1_s hf
    obtain ⟨v11, h12, hf⟩ := hf
    refine zr_bald h12 dX12_see_19 ?_
    refine zr_sipush 255 dX12_see_20 (by decide) ?_
    refine zr_iand dX12_see_23 ?_
    refine zr_goto 28 dX12_see_24 (by decide) ?_
    cases hf
    exact zr_lv [] rfl hj6
theorem zl_906 : Cond.code yX12_see cX12_see 1 (some .int) ∈ zt := zt_at 1543 (by decide +kernel)
theorem zvs_X12_see : zvS yX12_see cX12_see 1 (some .int) 0 := ⟨zl_906, zl_893, ⟨by decide +kernel, by decide +kernel, by decide +kernel⟩, by decide⟩
theorem zl_907 : Cond.methodLink RX12 115 yX12_see ∈ zt := zt_at 1540 (by decide +kernel)
theorem zl_908 : Cond.instanceMethod yX12_see ∈ zt := zt_at 1542 (by decide +kernel)
theorem zl_909 : Cond.selects RX12 yX12_see yX12_see ∈ zt := zt_at 52 (by decide +kernel)
theorem zl_910 : Cond.fieldLink RX12 119 "TwoEchoesModel" "begins" "I" ∈ zt := zt_at 1353 (by decide +kernel)
theorem zl_911 : Cond.fieldLink RX12 122 "TwoEchoesModel" "word" "J" ∈ zt := zt_at 1356 (by decide +kernel)
theorem zl_912 : Cond.fieldLink RX12 126 "TwoEchoesModel" "sort" "I" ∈ zt := zt_at 1354 (by decide +kernel)
theorem zl_913 : Cond.fieldLink RX12 129 "TwoEchoesModel" "value" "I" ∈ zt := zt_at 1355 (by decide +kernel)
theorem dX12_token_0 : decode cX12_token 0 = .ok (.aload_n 0, 1) := by decide +kernel
theorem dX12_token_1 : decode cX12_token 1 = .ok (.invokevirtual 115, 3) := by decide +kernel
theorem dX12_token_4 : decode cX12_token 4 = .ok (.bipush 10, 2) := by decide +kernel
theorem dX12_token_6 : decode cX12_token 6 = .ok (.if_icmp .eq 12, 3) := by decide +kernel
theorem dX12_token_9 : decode cX12_token 9 = .ok (.aload_n 0, 1) := by decide +kernel
theorem dX12_token_10 : decode cX12_token 10 = .ok (.invokevirtual 115, 3) := by decide +kernel
theorem dX12_token_13 : decode cX12_token 13 = .ok (.bipush 32, 2) := by decide +kernel
theorem dX12_token_15 : decode cX12_token 15 = .ok (.if_icmp .ne 16, 3) := by decide +kernel
theorem dX12_token_18 : decode cX12_token 18 = .ok (.aload_n 0, 1) := by decide +kernel
theorem dX12_token_19 : decode cX12_token 19 = .ok (.dup, 1) := by decide +kernel
theorem dX12_token_20 : decode cX12_token 20 = .ok (.getfield 109, 3) := by decide +kernel
theorem dX12_token_23 : decode cX12_token 23 = .ok (.iconst 1, 1) := by decide +kernel
theorem dX12_token_24 : decode cX12_token 24 = .ok (.iadd, 1) := by decide +kernel
theorem dX12_token_25 : decode cX12_token 25 = .ok (.putfield 109, 3) := by decide +kernel
theorem dX12_token_28 : decode cX12_token 28 = .ok (.goto (-28), 3) := by decide +kernel
theorem dX12_token_31 : decode cX12_token 31 = .ok (.aload_n 0, 1) := by decide +kernel
theorem dX12_token_32 : decode cX12_token 32 = .ok (.aload_n 0, 1) := by decide +kernel
theorem dX12_token_33 : decode cX12_token 33 = .ok (.getfield 109, 3) := by decide +kernel
theorem dX12_token_36 : decode cX12_token 36 = .ok (.putfield 119, 3) := by decide +kernel
theorem dX12_token_39 : decode cX12_token 39 = .ok (.aload_n 0, 1) := by decide +kernel
theorem dX12_token_40 : decode cX12_token 40 = .ok (.invokevirtual 115, 3) := by decide +kernel
theorem dX12_token_43 : decode cX12_token 43 = .ok (.istore_n 1, 1) := by decide +kernel
theorem dX12_token_44 : decode cX12_token 44 = .ok (.aload_n 0, 1) := by decide +kernel
theorem dX12_token_45 : decode cX12_token 45 = .ok (.lconst 0, 1) := by decide +kernel
theorem dX12_token_46 : decode cX12_token 46 = .ok (.putfield 122, 3) := by decide +kernel
theorem dX12_token_49 : decode cX12_token 49 = .ok (.iconst 0, 1) := by decide +kernel
theorem dX12_token_50 : decode cX12_token 50 = .ok (.istore_n 2, 1) := by decide +kernel
theorem dX12_token_51 : decode cX12_token 51 = .ok (.iload_n 1, 1) := by decide +kernel
theorem dX12_token_52 : decode cX12_token 52 = .ok (.ifCond .ge 11, 3) := by decide +kernel
theorem dX12_token_55 : decode cX12_token 55 = .ok (.aload_n 0, 1) := by decide +kernel
theorem dX12_token_56 : decode cX12_token 56 = .ok (.iconst 0, 1) := by decide +kernel
theorem dX12_token_57 : decode cX12_token 57 = .ok (.putfield 126, 3) := by decide +kernel
theorem dX12_token_60 : decode cX12_token 60 = .ok (.goto 206, 3) := by decide +kernel
theorem dX12_token_63 : decode cX12_token 63 = .ok (.iload_n 1, 1) := by decide +kernel
theorem dX12_token_64 : decode cX12_token 64 = .ok (.bipush 97, 2) := by decide +kernel
theorem dX12_token_66 : decode cX12_token 66 = .ok (.bipush 122, 2) := by decide +kernel
theorem dX12_token_68 : decode cX12_token 68 = .ok (.invokestatic 101, 3) := by decide +kernel
theorem dX12_token_71 : decode cX12_token 71 = .ok (.ifCond .eq 76, 3) := by decide +kernel
theorem dX12_token_74 : decode cX12_token 74 = .ok (.aload_n 0, 1) := by decide +kernel
theorem dX12_token_75 : decode cX12_token 75 = .ok (.invokevirtual 115, 3) := by decide +kernel
theorem dX12_token_78 : decode cX12_token 78 = .ok (.bipush 97, 2) := by decide +kernel
theorem dX12_token_80 : decode cX12_token 80 = .ok (.bipush 122, 2) := by decide +kernel
theorem dX12_token_82 : decode cX12_token 82 = .ok (.invokestatic 101, 3) := by decide +kernel
theorem dX12_token_85 : decode cX12_token 85 = .ok (.ifCond .eq 36, 3) := by decide +kernel
theorem dX12_token_88 : decode cX12_token 88 = .ok (.aload_n 0, 1) := by decide +kernel
theorem dX12_token_89 : decode cX12_token 89 = .ok (.aload_n 0, 1) := by decide +kernel
theorem dX12_token_90 : decode cX12_token 90 = .ok (.getfield 122, 3) := by decide +kernel
theorem dX12_token_93 : decode cX12_token 93 = .ok (.bipush 8, 2) := by decide +kernel
theorem dX12_token_95 : decode cX12_token 95 = .ok (.lshl, 1) := by decide +kernel
theorem dX12_token_96 : decode cX12_token 96 = .ok (.aload_n 0, 1) := by decide +kernel
theorem dX12_token_97 : decode cX12_token 97 = .ok (.invokevirtual 115, 3) := by decide +kernel
theorem dX12_token_100 : decode cX12_token 100 = .ok (.i2l, 1) := by decide +kernel
theorem dX12_token_101 : decode cX12_token 101 = .ok (.lor, 1) := by decide +kernel
theorem dX12_token_102 : decode cX12_token 102 = .ok (.putfield 122, 3) := by decide +kernel
theorem dX12_token_105 : decode cX12_token 105 = .ok (.aload_n 0, 1) := by decide +kernel
theorem dX12_token_106 : decode cX12_token 106 = .ok (.dup, 1) := by decide +kernel
theorem dX12_token_107 : decode cX12_token 107 = .ok (.getfield 109, 3) := by decide +kernel
theorem dX12_token_110 : decode cX12_token 110 = .ok (.iconst 1, 1) := by decide +kernel
theorem dX12_token_111 : decode cX12_token 111 = .ok (.iadd, 1) := by decide +kernel
theorem dX12_token_112 : decode cX12_token 112 = .ok (.putfield 109, 3) := by decide +kernel
theorem dX12_token_115 : decode cX12_token 115 = .ok (.iinc 2 1, 3) := by decide +kernel
theorem dX12_token_118 : decode cX12_token 118 = .ok (.goto (-44), 3) := by decide +kernel
theorem dX12_token_121 : decode cX12_token 121 = .ok (.aload_n 0, 1) := by decide +kernel
theorem dX12_token_122 : decode cX12_token 122 = .ok (.iload_n 2, 1) := by decide +kernel
theorem dX12_token_123 : decode cX12_token 123 = .ok (.bipush 8, 2) := by decide +kernel
theorem dX12_token_125 : decode cX12_token 125 = .ok (.if_icmp .le 7, 3) := by decide +kernel
theorem dX12_token_128 : decode cX12_token 128 = .ok (.lconst 0, 1) := by decide +kernel
theorem dX12_token_129 : decode cX12_token 129 = .ok (.goto 7, 3) := by decide +kernel
theorem dX12_token_132 : decode cX12_token 132 = .ok (.aload_n 0, 1) := by decide +kernel
theorem dX12_token_133 : decode cX12_token 133 = .ok (.getfield 122, 3) := by decide +kernel
theorem dX12_token_136 : decode cX12_token 136 = .ok (.putfield 122, 3) := by decide +kernel
theorem dX12_token_139 : decode cX12_token 139 = .ok (.aload_n 0, 1) := by decide +kernel
theorem dX12_token_140 : decode cX12_token 140 = .ok (.iconst 2, 1) := by decide +kernel
theorem dX12_token_141 : decode cX12_token 141 = .ok (.putfield 126, 3) := by decide +kernel
theorem dX12_token_144 : decode cX12_token 144 = .ok (.goto 122, 3) := by decide +kernel
theorem dX12_token_147 : decode cX12_token 147 = .ok (.iload_n 1, 1) := by decide +kernel
theorem dX12_token_148 : decode cX12_token 148 = .ok (.bipush 48, 2) := by decide +kernel
theorem dX12_token_150 : decode cX12_token 150 = .ok (.bipush 57, 2) := by decide +kernel
theorem dX12_token_152 : decode cX12_token 152 = .ok (.invokestatic 101, 3) := by decide +kernel
theorem dX12_token_155 : decode cX12_token 155 = .ok (.ifCond .eq 86, 3) := by decide +kernel
theorem dX12_token_158 : decode cX12_token 158 = .ok (.aload_n 0, 1) := by decide +kernel
theorem dX12_token_159 : decode cX12_token 159 = .ok (.iconst 0, 1) := by decide +kernel
theorem dX12_token_160 : decode cX12_token 160 = .ok (.putfield 129, 3) := by decide +kernel
theorem dX12_token_163 : decode cX12_token 163 = .ok (.aload_n 0, 1) := by decide +kernel
theorem dX12_token_164 : decode cX12_token 164 = .ok (.invokevirtual 115, 3) := by decide +kernel
theorem dX12_token_167 : decode cX12_token 167 = .ok (.bipush 48, 2) := by decide +kernel
theorem dX12_token_169 : decode cX12_token 169 = .ok (.bipush 57, 2) := by decide +kernel
theorem dX12_token_171 : decode cX12_token 171 = .ok (.invokestatic 101, 3) := by decide +kernel
theorem dX12_token_174 : decode cX12_token 174 = .ok (.ifCond .eq 50, 3) := by decide +kernel
theorem dX12_token_177 : decode cX12_token 177 = .ok (.aload_n 0, 1) := by decide +kernel
theorem dX12_token_178 : decode cX12_token 178 = .ok (.iload_n 2, 1) := by decide +kernel
theorem dX12_token_179 : decode cX12_token 179 = .ok (.iconst 2, 1) := by decide +kernel
theorem dX12_token_180 : decode cX12_token 180 = .ok (.if_icmp .ge 21, 3) := by decide +kernel
theorem dX12_token_183 : decode cX12_token 183 = .ok (.bipush 10, 2) := by decide +kernel
theorem dX12_token_185 : decode cX12_token 185 = .ok (.aload_n 0, 1) := by decide +kernel
theorem dX12_token_186 : decode cX12_token 186 = .ok (.getfield 129, 3) := by decide +kernel
theorem dX12_token_189 : decode cX12_token 189 = .ok (.imul, 1) := by decide +kernel
theorem dX12_token_190 : decode cX12_token 190 = .ok (.aload_n 0, 1) := by decide +kernel
theorem dX12_token_191 : decode cX12_token 191 = .ok (.invokevirtual 115, 3) := by decide +kernel
theorem dX12_token_194 : decode cX12_token 194 = .ok (.iadd, 1) := by decide +kernel
theorem dX12_token_195 : decode cX12_token 195 = .ok (.bipush 48, 2) := by decide +kernel
theorem dX12_token_197 : decode cX12_token 197 = .ok (.isub, 1) := by decide +kernel
theorem dX12_token_198 : decode cX12_token 198 = .ok (.goto 7, 3) := by decide +kernel
theorem dX12_token_201 : decode cX12_token 201 = .ok (.aload_n 0, 1) := by decide +kernel
theorem dX12_token_202 : decode cX12_token 202 = .ok (.getfield 129, 3) := by decide +kernel
theorem dX12_token_205 : decode cX12_token 205 = .ok (.putfield 129, 3) := by decide +kernel
theorem dX12_token_208 : decode cX12_token 208 = .ok (.aload_n 0, 1) := by decide +kernel
theorem dX12_token_209 : decode cX12_token 209 = .ok (.dup, 1) := by decide +kernel
theorem dX12_token_210 : decode cX12_token 210 = .ok (.getfield 109, 3) := by decide +kernel
theorem dX12_token_213 : decode cX12_token 213 = .ok (.iconst 1, 1) := by decide +kernel
theorem dX12_token_214 : decode cX12_token 214 = .ok (.iadd, 1) := by decide +kernel
theorem dX12_token_215 : decode cX12_token 215 = .ok (.putfield 109, 3) := by decide +kernel
theorem dX12_token_218 : decode cX12_token 218 = .ok (.iinc 2 1, 3) := by decide +kernel
theorem dX12_token_221 : decode cX12_token 221 = .ok (.goto (-58), 3) := by decide +kernel
theorem dX12_token_224 : decode cX12_token 224 = .ok (.aload_n 0, 1) := by decide +kernel
theorem dX12_token_225 : decode cX12_token 225 = .ok (.iload_n 2, 1) := by decide +kernel
theorem dX12_token_226 : decode cX12_token 226 = .ok (.iconst 2, 1) := by decide +kernel
theorem dX12_token_227 : decode cX12_token 227 = .ok (.if_icmp .le 7, 3) := by decide +kernel
theorem dX12_token_230 : decode cX12_token 230 = .ok (.iconst 1, 1) := by decide +kernel
theorem dX12_token_231 : decode cX12_token 231 = .ok (.goto 4, 3) := by decide +kernel
theorem dX12_token_234 : decode cX12_token 234 = .ok (.iconst 3, 1) := by decide +kernel
theorem dX12_token_235 : decode cX12_token 235 = .ok (.putfield 126, 3) := by decide +kernel
theorem dX12_token_238 : decode cX12_token 238 = .ok (.goto 28, 3) := by decide +kernel
theorem dX12_token_241 : decode cX12_token 241 = .ok (.aload_n 0, 1) := by decide +kernel
theorem dX12_token_242 : decode cX12_token 242 = .ok (.dup, 1) := by decide +kernel
theorem dX12_token_243 : decode cX12_token 243 = .ok (.getfield 109, 3) := by decide +kernel
theorem dX12_token_246 : decode cX12_token 246 = .ok (.iconst 1, 1) := by decide +kernel
theorem dX12_token_247 : decode cX12_token 247 = .ok (.iadd, 1) := by decide +kernel
theorem dX12_token_248 : decode cX12_token 248 = .ok (.putfield 109, 3) := by decide +kernel
theorem dX12_token_251 : decode cX12_token 251 = .ok (.aload_n 0, 1) := by decide +kernel
theorem dX12_token_252 : decode cX12_token 252 = .ok (.iload_n 1, 1) := by decide +kernel
theorem dX12_token_253 : decode cX12_token 253 = .ok (.bipush 59, 2) := by decide +kernel
theorem dX12_token_255 : decode cX12_token 255 = .ok (.if_icmp .ne 7, 3) := by decide +kernel
theorem dX12_token_258 : decode cX12_token 258 = .ok (.iconst 4, 1) := by decide +kernel
theorem dX12_token_259 : decode cX12_token 259 = .ok (.goto 4, 3) := by decide +kernel
theorem dX12_token_262 : decode cX12_token 262 = .ok (.iconst 1, 1) := by decide +kernel
theorem dX12_token_263 : decode cX12_token 263 = .ok (.putfield 126, 3) := by decide +kernel
theorem dX12_token_266 : decode cX12_token 266 = .ok (.return_, 1) := by decide +kernel
noncomputable def fX12_token_b18 (m1 : zM) (x0 : Nat) (F2 : zM → Option (zM)) : Option (zM) :=
  zb1 (zm_gI m1 12 x0 10) fun v8 =>
  zb1 (zm_p m1 12 x0 10 (.int (v8 + 1))) fun m10 =>
  F2 m10
noncomputable def fX12_token_l0 (x0 : Nat) (F2 : zM → Option (zM)) (m1 : zM) : Option (zM) :=
  zb1 (fX12_see m1 x0) fun v7 =>
  if v7 = 10 then (
  fX12_token_b18 m1 x0 F2)
  else (
  zb1 (fX12_see m1 x0) fun v14 =>
  if v14 = 32 then (
  fX12_token_b18 m1 x0 F2)
  else (
  some m1))
noncomputable def fX12_token_l163 (x0 : Nat) (F42 : Int32 → zM → Option (Int32 × zM)) (x2_40 : Int32) (m41 : zM) : Option (Int32 × zM) :=
  zb1 (fX12_see m41 x0) fun v48 =>
  zb1 (fX12_in m41 v48 48 57) fun v50 =>
  if v50 = 0 then (
  some (x2_40, m41))
  else (
  zb1 (if 2 ≤ x2_40 then (
  zb1 (zm_gI m41 12 x0 14) fun v59 =>
  some v59)
  else (
  zb1 (zm_gI m41 12 x0 14) fun v61 =>
  zb1 (fX12_see m41 x0) fun v64 =>
  some (((10 * v61) + v64) - 48)) : Option (Int32)) fun (s51 : Int32) =>
  zb1 (zm_p m41 12 x0 14 (.int s51)) fun m53 =>
  zb1 (zm_gI m53 12 x0 10) fun v55 =>
  zb1 (zm_p m53 12 x0 10 (.int (v55 + 1))) fun m57 =>
  F42 (x2_40 + 1) m57)
noncomputable def fX12_token_l74 (x0 : Nat) (F72 : Int32 → zM → Option (Int32 × zM)) (x2_70 : Int32) (m71 : zM) : Option (Int32 × zM) :=
  zb1 (fX12_see m71 x0) fun v78 =>
  zb1 (fX12_in m71 v78 97 122) fun v80 =>
  if v80 = 0 then (
  some (x2_70, m71))
  else (
  zb1 (zm_gL m71 12 x0 15) fun v81 =>
  zb1 (fX12_see m71 x0) fun v84 =>
  zb1 (zm_p m71 12 x0 15 (.long ((v81 <<< ((8 : Int32).toInt64 &&& 63)) ||| ((v84 : Int32).toInt64)))) fun m85 =>
  zb1 (zm_gI m85 12 x0 10) fun v87 =>
  zb1 (zm_p m85 12 x0 10 (.int (v87 + 1))) fun m89 =>
  F72 (x2_70 + 1) m89)
noncomputable def fX12_token (μ : zM) (x0 : Nat) : Option (zM) := zgd (zm_ck μ 12 x0) <|
  zb1 (zf1 (fX12_token_l0 x0) zfu μ : Option (zM)) fun (m4 : zM) =>
  zb1 (zm_gI m4 12 x0 10) fun v16 =>
  zb1 (zm_p m4 12 x0 12 (.int v16)) fun m18 =>
  zb1 (fX12_see m18 x0) fun v21 =>
  zb1 (zm_p m18 12 x0 15 (.long 0)) fun m22 =>
  zc1 (if 0 ≤ v21 then (
  zb1 (fX12_in m22 v21 97 122) fun v27 =>
  if v27 = 0 then (
  zb1 (fX12_in m22 v21 48 57) fun v29 =>
  if v29 = 0 then (
  zb1 (zm_gI m22 12 x0 10) fun v30 =>
  zb1 (zm_p m22 12 x0 10 (.int (v30 + 1))) fun m32 =>
  zb1 (if v21 = 59 then (
  some 4)
  else (
  some 1) : Option (Int32)) fun (s34 : Int32) =>
  zb1 (zm_p m32 12 x0 13 (.int s34)) fun m36 =>
  some m36)
  else (
  zb1 (zm_p m22 12 x0 14 (.int 0)) fun m38 =>
  zb2 (zf2 (fX12_token_l163 x0) zfu 0 m38 : Option (Int32 × zM)) fun (x2_44 : Int32) (m45 : zM) =>
  zb1 (if x2_44 ≤ 2 then (
  some 3)
  else (
  some 1) : Option (Int32)) fun (s66 : Int32) =>
  zb1 (zm_p m45 12 x0 13 (.int s66)) fun m68 =>
  some m68))
  else (
  zb2 (zf2 (fX12_token_l74 x0) zfu 0 m22 : Option (Int32 × zM)) fun (x2_74 : Int32) (m75 : zM) =>
  zb1 (if x2_74 ≤ 8 then (
  zb1 (zm_gL m75 12 x0 15) fun v98 =>
  some v98)
  else (
  some 0) : Option (Int64)) fun (s92 : Int64) =>
  zb1 (zm_p m75 12 x0 15 (.long s92)) fun m94 =>
  zb1 (zm_p m94 12 x0 13 (.int 2)) fun m96 =>
  some m96))
  else (
  zb1 (zm_p m22 12 x0 13 (.int 0)) fun m100 =>
  some m100) : Option (zM)) fun (m24 : zM) =>
  some m24
theorem fX12_token_ck {μ : zM} {x0 : Nat} {z : zM} (h : fX12_token μ x0 = some z) : zm_ck μ 12 x0 = true := (zgd_s h).1
set_option maxHeartbeats 4000000 in
set_option maxRecDepth 100000 in
theorem cX12_token_ok {μ : zM} {x0 : Nat} {mo : zM} (hf : fX12_token μ x0 = some mo) : zC yX12_token cX12_token 3 (none) 1 0 0 [.ref x0] μ (none) mo := by
  replace hf := (zgd_s hf).2
  refine zC.of (by decide) (Nat.le_of_ble_eq_true rfl) (fun K hin => ?_)
  clear hin
  show zz K cX12_token (3, RX12, none, 1, 0, 0, none, mo) 0 0 0 [(0, .ref x0)] [] μ
  replace hf := zb1_s hf
  obtain ⟨m4, hg, hf⟩ := hf
  have hj5 : zz K cX12_token (3, RX12, none, 1, 0, 0, none, mo) 0 0 31 [(0, .ref x0)] [] m4 := by
    refine zr_aload_n 0 dX12_token_31 rfl ?_
    refine zr_aload_n 0 dX12_token_32 rfl ?_
    replace hf := zb1_s hf
    obtain ⟨v16, h17, hf⟩ := hf
    refine zr_get (zm_gI_g h17) zk12 (by decide) zl_904 dX12_token_33 ?_
    replace hf := zb1_s hf
    obtain ⟨m18, h19, hf⟩ := hf
    refine zr_put h19 zk12 (by decide) zl_910 rfl rfl rfl dX12_token_36 ?_
    refine zr_aload_n 0 dX12_token_39 rfl ?_
    replace hf := zb1_s hf
    obtain ⟨v21, h20, hf⟩ := hf
    refine zr_callV (ci := 12) [] (cX12_see_ok h20) zvs_X12_see zl_908 zl_909 (fX12_see_ck h20) rfl rfl zl_907 rfl (Nat.le_of_ble_eq_true rfl) (Nat.le_of_ble_eq_true rfl) (Nat.le_of_ble_eq_true rfl) (Nat.le_of_ble_eq_true rfl) dX12_token_40 rfl ?_
    refine zr_istore_n [(1, .int v21), (0, .ref x0)] dX12_token_43 (Nat.le_of_ble_eq_true rfl) rfl ?_
    refine zr_aload_n 1 dX12_token_44 rfl ?_
    refine zr_lconst 0 dX12_token_45 (by decide) ?_
    replace hf := zb1_s hf
    obtain ⟨m22, h23, hf⟩ := hf
    refine zr_put h23 zk12 (by decide) zl_911 rfl rfl rfl dX12_token_46 ?_
    refine zr_iconst 0 dX12_token_49 (by decide) ?_
    refine zr_istore_n [(2, .int 0), (1, .int v21), (0, .ref x0)] dX12_token_50 (Nat.le_of_ble_eq_true rfl) rfl ?_
    refine zr_iload_n 1 dX12_token_51 rfl ?_
    replace hf := zc1_s hf
    obtain ⟨m24, hg, hf⟩ := hf
    have hj25 : zz K cX12_token (3, RX12, none, 1, 0, 0, none, mo) 0 0 266 [] [] m24 := by
      cases hf
      exact zr_vret dX12_token_266
    clear hf
    have hf := hg
    clear hg
    refine zr_if_ge 63 dX12_token_52 (by decide) (fun hc => ?_) (fun hc => ?_)
    · rw [if_pos hc] at hf
      refine zr_iload_n 1 dX12_token_63 rfl ?_
      refine zr_bipush 97 dX12_token_64 (by decide) ?_
      refine zr_bipush 122 dX12_token_66 (by decide) ?_
      replace hf := zb1_s hf
      obtain ⟨v27, h26, hf⟩ := hf
      refine zr_callS [.int v21, .int 97, .int 122] (cX12_in_ok h26) zvs_X12_in zl_898 zl_897 rfl (Nat.le_of_ble_eq_true rfl) (Nat.le_of_ble_eq_true rfl) (Nat.le_of_ble_eq_true rfl) (Nat.le_of_ble_eq_true rfl) dX12_token_68 rfl ?_
      refine zr_if_eq 147 dX12_token_71 (by decide) (fun hc => ?_) (fun hc => ?_)
      · rw [if_pos hc] at hf
        refine zr_iload_n 1 dX12_token_147 rfl ?_
        refine zr_bipush 48 dX12_token_148 (by decide) ?_
        refine zr_bipush 57 dX12_token_150 (by decide) ?_
        replace hf := zb1_s hf
        obtain ⟨v29, h28, hf⟩ := hf
        refine zr_callS [.int v21, .int 48, .int 57] (cX12_in_ok h28) zvs_X12_in zl_898 zl_897 rfl (Nat.le_of_ble_eq_true rfl) (Nat.le_of_ble_eq_true rfl) (Nat.le_of_ble_eq_true rfl) (Nat.le_of_ble_eq_true rfl) dX12_token_152 rfl ?_
        refine zr_if_eq 241 dX12_token_155 (by decide) (fun hc => ?_) (fun hc => ?_)
        · rw [if_pos hc] at hf
          refine zr_aload_n 2 dX12_token_241 rfl ?_
          refine zr_dup dX12_token_242 rfl ?_
          replace hf := zb1_s hf
          obtain ⟨v30, h31, hf⟩ := hf
          refine zr_get (zm_gI_g h31) zk12 (by decide) zl_904 dX12_token_243 ?_
          refine zr_iconst 1 dX12_token_246 (by decide) ?_
          refine zr_iadd dX12_token_247 ?_
          replace hf := zb1_s hf
          obtain ⟨m32, h33, hf⟩ := hf
          refine zr_put h33 zk12 (by decide) zl_904 rfl rfl rfl dX12_token_248 ?_
          refine zr_aload_n 2 dX12_token_251 rfl ?_
          refine zr_iload_n 1 dX12_token_252 rfl ?_
          refine zr_bipush 59 dX12_token_253 (by decide) ?_
          replace hf := zb1_s hf
          obtain ⟨s34, hg, hf⟩ := hf
          have hj35 : zz K cX12_token (3, RX12, none, 1, 0, 0, none, mo) 0 0 263 [] [.int s34, .ref x0] m32 := by
            replace hf := zb1_s hf
            obtain ⟨m36, h37, hf⟩ := hf
            refine zr_put h37 zk12 (by decide) zl_912 rfl rfl rfl dX12_token_263 ?_
            cases hf
            exact zr_lv [] rfl hj25
          clear hf
          have hf := hg
          clear hg
          refine zr_icmp_ne 262 dX12_token_255 (by decide) (fun hc => ?_) (fun hc => ?_)
          · rw [if_neg hc] at hf
            refine zr_iconst 1 dX12_token_262 (by decide) ?_
            cases hf
            exact zr_lv [] rfl hj35
          · rw [if_pos hc] at hf
            refine zr_iconst 4 dX12_token_258 (by decide) ?_
            refine zr_goto 263 dX12_token_259 (by decide) ?_
            cases hf
            exact zr_lv [] rfl hj35
        · rw [if_neg hc] at hf
          refine zr_aload_n 2 dX12_token_158 rfl ?_
          refine zr_iconst 0 dX12_token_159 (by decide) ?_
          replace hf := zb1_s hf
          obtain ⟨m38, h39, hf⟩ := hf
          refine zr_put h39 zk12 (by decide) zl_913 rfl rfl rfl dX12_token_160 ?_
          replace hf := zb2_s hf
          obtain ⟨x2_44, m45, hg, hf⟩ := hf
          have hj46 : zz K cX12_token (3, RX12, none, 1, 0, 0, none, mo) 0 0 224 [(0, .ref x0), (2, .int x2_44)] [] m45 := by
            refine zr_aload_n 0 dX12_token_224 rfl ?_
            refine zr_iload_n 1 dX12_token_225 rfl ?_
            refine zr_iconst 2 dX12_token_226 (by decide) ?_
            replace hf := zb1_s hf
            obtain ⟨s66, hg, hf⟩ := hf
            have hj67 : zz K cX12_token (3, RX12, none, 1, 0, 0, none, mo) 0 0 235 [] [.int s66, .ref x0] m45 := by
              replace hf := zb1_s hf
              obtain ⟨m68, h69, hf⟩ := hf
              refine zr_put h69 zk12 (by decide) zl_912 rfl rfl rfl dX12_token_235 ?_
              refine zr_goto 266 dX12_token_238 (by decide) ?_
              cases hf
              exact zr_lv [] rfl hj25
            clear hf
            have hf := hg
            clear hg
            refine zr_icmp_le 234 dX12_token_227 (by decide) (fun hc => ?_) (fun hc => ?_)
            · rw [if_pos hc] at hf
              refine zr_iconst 3 dX12_token_234 (by decide) ?_
              cases hf
              exact zr_lv [] rfl hj67
            · rw [if_neg hc] at hf
              refine zr_iconst 1 dX12_token_230 (by decide) ?_
              refine zr_goto 235 dX12_token_231 (by decide) ?_
              cases hf
              exact zr_lv [] rfl hj67
          clear hf
          have hf := hg
          clear hg
          have hL65 : ∀ (n : Nat) (x2_40 : Int32) (m41 : zM), zf2 (fX12_token_l163 x0) n x2_40 m41 = some (x2_44, m45) → zz K cX12_token (3, RX12, none, 1, 0, 0, none, mo) 0 0 163 [(0, .ref x0), (2, .int x2_40)] [] m41 := by
            intro n
            induction n with
            | zero => intro x2_40 m41 hf; cases hf
            | succ n ih43 =>
              intro x2_40 m41 hf
              replace hf := zf2_s hf
              generalize zf2 (fX12_token_l163 x0) n = F42 at hf ih43
              unfold fX12_token_l163 at hf
              refine zr_aload_n 0 dX12_token_163 rfl ?_
              replace hf := zb1_s hf
              obtain ⟨v48, h47, hf⟩ := hf
              refine zr_callV (ci := 12) [] (cX12_see_ok h47) zvs_X12_see zl_908 zl_909 (fX12_see_ck h47) rfl rfl zl_907 rfl (Nat.le_of_ble_eq_true rfl) (Nat.le_of_ble_eq_true rfl) (Nat.le_of_ble_eq_true rfl) (Nat.le_of_ble_eq_true rfl) dX12_token_164 rfl ?_
              refine zr_bipush 48 dX12_token_167 (by decide) ?_
              refine zr_bipush 57 dX12_token_169 (by decide) ?_
              replace hf := zb1_s hf
              obtain ⟨v50, h49, hf⟩ := hf
              refine zr_callS [.int v48, .int 48, .int 57] (cX12_in_ok h49) zvs_X12_in zl_898 zl_897 rfl (Nat.le_of_ble_eq_true rfl) (Nat.le_of_ble_eq_true rfl) (Nat.le_of_ble_eq_true rfl) (Nat.le_of_ble_eq_true rfl) dX12_token_171 rfl ?_
              refine zr_if_eq 224 dX12_token_174 (by decide) (fun hc => ?_) (fun hc => ?_)
              · rw [if_pos hc] at hf
                cases hf
                exact zr_lv [0, 1] rfl hj46
              · rw [if_neg hc] at hf
                refine zr_aload_n 0 dX12_token_177 rfl ?_
                refine zr_iload_n 1 dX12_token_178 rfl ?_
                refine zr_iconst 2 dX12_token_179 (by decide) ?_
                replace hf := zb1_s hf
                obtain ⟨s51, hg, hf⟩ := hf
                have hj52 : zz K cX12_token (3, RX12, none, 1, 0, 0, none, mo) 0 0 205 [(0, .ref x0), (2, .int x2_40)] [.int s51, .ref x0] m41 := by
                  replace hf := zb1_s hf
                  obtain ⟨m53, h54, hf⟩ := hf
                  refine zr_put h54 zk12 (by decide) zl_913 rfl rfl rfl dX12_token_205 ?_
                  refine zr_aload_n 0 dX12_token_208 rfl ?_
                  refine zr_dup dX12_token_209 rfl ?_
                  replace hf := zb1_s hf
                  obtain ⟨v55, h56, hf⟩ := hf
                  refine zr_get (zm_gI_g h56) zk12 (by decide) zl_904 dX12_token_210 ?_
                  refine zr_iconst 1 dX12_token_213 (by decide) ?_
                  refine zr_iadd dX12_token_214 ?_
                  replace hf := zb1_s hf
                  obtain ⟨m57, h58, hf⟩ := hf
                  refine zr_put h58 zk12 (by decide) zl_904 rfl rfl rfl dX12_token_215 ?_
                  refine zr_iinc (j := 1) (x2_40 + 1) [(2, .int (x2_40 + 1)), (0, .ref x0)] dX12_token_218 rfl rfl (Nat.le_of_ble_eq_true rfl) rfl ?_
                  refine zr_goto 163 dX12_token_221 (by decide) ?_
                  exact zr_lv [1, 0] rfl (ih43 (x2_40 + 1) m57 hf)
                clear hf
                have hf := hg
                clear hg
                refine zr_icmp_ge 201 dX12_token_180 (by decide) (fun hc => ?_) (fun hc => ?_)
                · rw [if_pos hc] at hf
                  refine zr_aload_n 0 dX12_token_201 rfl ?_
                  replace hf := zb1_s hf
                  obtain ⟨v59, h60, hf⟩ := hf
                  refine zr_get (zm_gI_g h60) zk12 (by decide) zl_913 dX12_token_202 ?_
                  cases hf
                  exact zr_lv [0, 1] rfl hj52
                · rw [if_neg hc] at hf
                  refine zr_bipush 10 dX12_token_183 (by decide) ?_
                  refine zr_aload_n 0 dX12_token_185 rfl ?_
                  replace hf := zb1_s hf
                  obtain ⟨v61, h62, hf⟩ := hf
                  refine zr_get (zm_gI_g h62) zk12 (by decide) zl_913 dX12_token_186 ?_
                  refine zr_imul dX12_token_189 ?_
                  refine zr_aload_n 0 dX12_token_190 rfl ?_
                  replace hf := zb1_s hf
                  obtain ⟨v64, h63, hf⟩ := hf
                  refine zr_callV (ci := 12) [] (cX12_see_ok h63) zvs_X12_see zl_908 zl_909 (fX12_see_ck h63) rfl rfl zl_907 rfl (Nat.le_of_ble_eq_true rfl) (Nat.le_of_ble_eq_true rfl) (Nat.le_of_ble_eq_true rfl) (Nat.le_of_ble_eq_true rfl) dX12_token_191 rfl ?_
                  refine zr_iadd dX12_token_194 ?_
                  refine zr_bipush 48 dX12_token_195 (by decide) ?_
                  refine zr_isub dX12_token_197 ?_
                  refine zr_goto 205 dX12_token_198 (by decide) ?_
                  cases hf
                  exact zr_lv [0, 1] rfl hj52
          exact zr_lv [2, 0] rfl (hL65 _ 0 m38 hf)
      · rw [if_neg hc] at hf
        replace hf := zb2_s hf
        obtain ⟨x2_74, m75, hg, hf⟩ := hf
        have hj76 : zz K cX12_token (3, RX12, none, 1, 0, 0, none, mo) 0 0 121 [(0, .ref x0), (2, .int x2_74)] [] m75 := by
          refine zr_aload_n 0 dX12_token_121 rfl ?_
          refine zr_iload_n 1 dX12_token_122 rfl ?_
          refine zr_bipush 8 dX12_token_123 (by decide) ?_
          replace hf := zb1_s hf
          obtain ⟨s92, hg, hf⟩ := hf
          have hj93 : zz K cX12_token (3, RX12, none, 1, 0, 0, none, mo) 0 0 136 [(0, .ref x0)] [.long s92, .ref x0] m75 := by
            replace hf := zb1_s hf
            obtain ⟨m94, h95, hf⟩ := hf
            refine zr_put h95 zk12 (by decide) zl_911 rfl rfl rfl dX12_token_136 ?_
            refine zr_aload_n 0 dX12_token_139 rfl ?_
            refine zr_iconst 2 dX12_token_140 (by decide) ?_
            replace hf := zb1_s hf
            obtain ⟨m96, h97, hf⟩ := hf
            refine zr_put h97 zk12 (by decide) zl_912 rfl rfl rfl dX12_token_141 ?_
            refine zr_goto 266 dX12_token_144 (by decide) ?_
            cases hf
            exact zr_lv [] rfl hj25
          clear hf
          have hf := hg
          clear hg
          refine zr_icmp_le 132 dX12_token_125 (by decide) (fun hc => ?_) (fun hc => ?_)
          · rw [if_pos hc] at hf
            refine zr_aload_n 0 dX12_token_132 rfl ?_
            replace hf := zb1_s hf
            obtain ⟨v98, h99, hf⟩ := hf
            refine zr_get (zm_gL_g h99) zk12 (by decide) zl_911 dX12_token_133 ?_
            cases hf
            exact zr_lv [0] rfl hj93
          · rw [if_neg hc] at hf
            refine zr_lconst 0 dX12_token_128 (by decide) ?_
            refine zr_goto 136 dX12_token_129 (by decide) ?_
            cases hf
            exact zr_lv [0] rfl hj93
        clear hf
        have hf := hg
        clear hg
        have hL91 : ∀ (n : Nat) (x2_70 : Int32) (m71 : zM), zf2 (fX12_token_l74 x0) n x2_70 m71 = some (x2_74, m75) → zz K cX12_token (3, RX12, none, 1, 0, 0, none, mo) 0 0 74 [(0, .ref x0), (2, .int x2_70)] [] m71 := by
          intro n
          induction n with
          | zero => intro x2_70 m71 hf; cases hf
          | succ n ih73 =>
            intro x2_70 m71 hf
            replace hf := zf2_s hf
            generalize zf2 (fX12_token_l74 x0) n = F72 at hf ih73
            unfold fX12_token_l74 at hf
            refine zr_aload_n 0 dX12_token_74 rfl ?_
            replace hf := zb1_s hf
            obtain ⟨v78, h77, hf⟩ := hf
            refine zr_callV (ci := 12) [] (cX12_see_ok h77) zvs_X12_see zl_908 zl_909 (fX12_see_ck h77) rfl rfl zl_907 rfl (Nat.le_of_ble_eq_true rfl) (Nat.le_of_ble_eq_true rfl) (Nat.le_of_ble_eq_true rfl) (Nat.le_of_ble_eq_true rfl) dX12_token_75 rfl ?_
            refine zr_bipush 97 dX12_token_78 (by decide) ?_
            refine zr_bipush 122 dX12_token_80 (by decide) ?_
            replace hf := zb1_s hf
            obtain ⟨v80, h79, hf⟩ := hf
            refine zr_callS [.int v78, .int 97, .int 122] (cX12_in_ok h79) zvs_X12_in zl_898 zl_897 rfl (Nat.le_of_ble_eq_true rfl) (Nat.le_of_ble_eq_true rfl) (Nat.le_of_ble_eq_true rfl) (Nat.le_of_ble_eq_true rfl) dX12_token_82 rfl ?_
            refine zr_if_eq 121 dX12_token_85 (by decide) (fun hc => ?_) (fun hc => ?_)
            · rw [if_pos hc] at hf
              cases hf
              exact zr_lv [0, 1] rfl hj76
            · rw [if_neg hc] at hf
              refine zr_aload_n 0 dX12_token_88 rfl ?_
              refine zr_aload_n 0 dX12_token_89 rfl ?_
              replace hf := zb1_s hf
              obtain ⟨v81, h82, hf⟩ := hf
              refine zr_get (zm_gL_g h82) zk12 (by decide) zl_911 dX12_token_90 ?_
              refine zr_bipush 8 dX12_token_93 (by decide) ?_
              refine zr_lshl dX12_token_95 ?_
              refine zr_aload_n 0 dX12_token_96 rfl ?_
              replace hf := zb1_s hf
              obtain ⟨v84, h83, hf⟩ := hf
              refine zr_callV (ci := 12) [] (cX12_see_ok h83) zvs_X12_see zl_908 zl_909 (fX12_see_ck h83) rfl rfl zl_907 rfl (Nat.le_of_ble_eq_true rfl) (Nat.le_of_ble_eq_true rfl) (Nat.le_of_ble_eq_true rfl) (Nat.le_of_ble_eq_true rfl) dX12_token_97 rfl ?_
              refine zr_i2l dX12_token_100 ?_
              refine zr_lor dX12_token_101 ?_
              replace hf := zb1_s hf
              obtain ⟨m85, h86, hf⟩ := hf
              refine zr_put h86 zk12 (by decide) zl_911 rfl rfl rfl dX12_token_102 ?_
              refine zr_aload_n 0 dX12_token_105 rfl ?_
              refine zr_dup dX12_token_106 rfl ?_
              replace hf := zb1_s hf
              obtain ⟨v87, h88, hf⟩ := hf
              refine zr_get (zm_gI_g h88) zk12 (by decide) zl_904 dX12_token_107 ?_
              refine zr_iconst 1 dX12_token_110 (by decide) ?_
              refine zr_iadd dX12_token_111 ?_
              replace hf := zb1_s hf
              obtain ⟨m89, h90, hf⟩ := hf
              refine zr_put h90 zk12 (by decide) zl_904 rfl rfl rfl dX12_token_112 ?_
              refine zr_iinc (j := 1) (x2_70 + 1) [(2, .int (x2_70 + 1)), (0, .ref x0)] dX12_token_115 rfl rfl (Nat.le_of_ble_eq_true rfl) rfl ?_
              refine zr_goto 74 dX12_token_118 (by decide) ?_
              exact zr_lv [1, 0] rfl (ih73 (x2_70 + 1) m89 hf)
        exact zr_lv [2, 0] rfl (hL91 _ 0 m22 hf)
    · rw [if_neg hc] at hf
      refine zr_aload_n 2 dX12_token_55 rfl ?_
      refine zr_iconst 0 dX12_token_56 (by decide) ?_
      replace hf := zb1_s hf
      obtain ⟨m100, h101, hf⟩ := hf
      refine zr_put h101 zk12 (by decide) zl_912 rfl rfl rfl dX12_token_57 ?_
      refine zr_goto 266 dX12_token_60 (by decide) ?_
      cases hf
      exact zr_lv [] rfl hj25
  clear hf
  have hf := hg
  clear hg
  have hL15 : ∀ (n : Nat) (m1 : zM), zf1 (fX12_token_l0 x0) n m1 = some m4 → zz K cX12_token (3, RX12, none, 1, 0, 0, none, mo) 0 0 0 [(0, .ref x0)] [] m1 := by
    intro n
    induction n with
    | zero => intro m1 hf; cases hf
    | succ n ih3 =>
      intro m1 hf
      replace hf := zf1_s hf
      generalize zf1 (fX12_token_l0 x0) n = F2 at hf ih3
      unfold fX12_token_l0 at hf
      refine zr_aload_n 0 dX12_token_0 rfl ?_
      replace hf := zb1_s hf
      obtain ⟨v7, h6, hf⟩ := hf
      refine zr_callV (ci := 12) [] (cX12_see_ok h6) zvs_X12_see zl_908 zl_909 (fX12_see_ck h6) rfl rfl zl_907 rfl (Nat.le_of_ble_eq_true rfl) (Nat.le_of_ble_eq_true rfl) (Nat.le_of_ble_eq_true rfl) (Nat.le_of_ble_eq_true rfl) dX12_token_1 rfl ?_
      refine zr_bipush 10 dX12_token_4 (by decide) ?_
      have hb12 : ∀ (_ : Unit), fX12_token_b18 m1 x0 F2 = some m4 → zz K cX12_token (3, RX12, none, 1, 0, 0, none, mo) 0 0 18 [(0, .ref x0)] [] m1 := by
        intro _ hf
        unfold fX12_token_b18 at hf
        refine zr_aload_n 0 dX12_token_18 rfl ?_
        refine zr_dup dX12_token_19 rfl ?_
        replace hf := zb1_s hf
        obtain ⟨v8, h9, hf⟩ := hf
        refine zr_get (zm_gI_g h9) zk12 (by decide) zl_904 dX12_token_20 ?_
        refine zr_iconst 1 dX12_token_23 (by decide) ?_
        refine zr_iadd dX12_token_24 ?_
        replace hf := zb1_s hf
        obtain ⟨m10, h11, hf⟩ := hf
        refine zr_put h11 zk12 (by decide) zl_904 rfl rfl rfl dX12_token_25 ?_
        refine zr_goto 0 dX12_token_28 (by decide) ?_
        exact zr_lv [0] rfl (ih3 m10 hf)
      refine zr_icmp_eq 18 dX12_token_6 (by decide) (fun hc => ?_) (fun hc => ?_)
      · rw [if_pos hc] at hf
        exact zr_lv [0] rfl (hb12 () hf)
      · rw [if_neg hc] at hf
        refine zr_aload_n 0 dX12_token_9 rfl ?_
        replace hf := zb1_s hf
        obtain ⟨v14, h13, hf⟩ := hf
        refine zr_callV (ci := 12) [] (cX12_see_ok h13) zvs_X12_see zl_908 zl_909 (fX12_see_ck h13) rfl rfl zl_907 rfl (Nat.le_of_ble_eq_true rfl) (Nat.le_of_ble_eq_true rfl) (Nat.le_of_ble_eq_true rfl) (Nat.le_of_ble_eq_true rfl) dX12_token_10 rfl ?_
        refine zr_bipush 32 dX12_token_13 (by decide) ?_
        refine zr_icmp_ne 31 dX12_token_15 (by decide) (fun hc => ?_) (fun hc => ?_)
        · rw [if_neg hc] at hf
          cases hf
          exact zr_lv [0] rfl hj5
        · rw [if_pos hc] at hf
          exact zr_lv [0] rfl (hb12 () hf)
  exact zr_lv [0] rfl (hL15 _ μ hf)
