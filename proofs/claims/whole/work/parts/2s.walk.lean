theorem dX12_isNearer_0 : decode cX12_isNearer 0 = .ok (.aload_n 0, 1) := by decide +kernel
theorem dX12_isNearer_1 : decode cX12_isNearer 1 = .ok (.bipush 33, 2) := by decide +kernel
theorem dX12_isNearer_3 : decode cX12_isNearer 3 = .ok (.iload_n 1, 1) := by decide +kernel
theorem dX12_isNearer_4 : decode cX12_isNearer 4 = .ok (.iadd, 1) := by decide +kernel
theorem dX12_isNearer_5 : decode cX12_isNearer 5 = .ok (.invokevirtual 269, 3) := by decide +kernel
theorem dX12_isNearer_8 : decode cX12_isNearer 8 = .ok (.aload_n 0, 1) := by decide +kernel
theorem dX12_isNearer_9 : decode cX12_isNearer 9 = .ok (.bipush 33, 2) := by decide +kernel
theorem dX12_isNearer_11 : decode cX12_isNearer 11 = .ok (.iload_n 2, 1) := by decide +kernel
theorem dX12_isNearer_12 : decode cX12_isNearer 12 = .ok (.iadd, 1) := by decide +kernel
theorem dX12_isNearer_13 : decode cX12_isNearer 13 = .ok (.invokevirtual 269, 3) := by decide +kernel
theorem dX12_isNearer_16 : decode cX12_isNearer 16 = .ok (.invokestatic 282, 3) := by decide +kernel
theorem dX12_isNearer_19 : decode cX12_isNearer 19 = .ok (.istore 4, 2) := by decide +kernel
theorem dX12_isNearer_21 : decode cX12_isNearer 21 = .ok (.iload_n 3, 1) := by decide +kernel
theorem dX12_isNearer_22 : decode cX12_isNearer 22 = .ok (.iconst (-1), 1) := by decide +kernel
theorem dX12_isNearer_23 : decode cX12_isNearer 23 = .ok (.if_icmp .ne 9, 3) := by decide +kernel
theorem dX12_isNearer_26 : decode cX12_isNearer 26 = .ok (.ldc_w 423, 3) := by decide +kernel
theorem dX12_isNearer_29 : decode cX12_isNearer 29 = .ok (.goto 22, 3) := by decide +kernel
theorem dX12_isNearer_32 : decode cX12_isNearer 32 = .ok (.aload_n 0, 1) := by decide +kernel
theorem dX12_isNearer_33 : decode cX12_isNearer 33 = .ok (.bipush 33, 2) := by decide +kernel
theorem dX12_isNearer_35 : decode cX12_isNearer 35 = .ok (.iload_n 1, 1) := by decide +kernel
theorem dX12_isNearer_36 : decode cX12_isNearer 36 = .ok (.iadd, 1) := by decide +kernel
theorem dX12_isNearer_37 : decode cX12_isNearer 37 = .ok (.invokevirtual 269, 3) := by decide +kernel
theorem dX12_isNearer_40 : decode cX12_isNearer 40 = .ok (.aload_n 0, 1) := by decide +kernel
theorem dX12_isNearer_41 : decode cX12_isNearer 41 = .ok (.bipush 33, 2) := by decide +kernel
theorem dX12_isNearer_43 : decode cX12_isNearer 43 = .ok (.iload_n 3, 1) := by decide +kernel
theorem dX12_isNearer_44 : decode cX12_isNearer 44 = .ok (.iadd, 1) := by decide +kernel
theorem dX12_isNearer_45 : decode cX12_isNearer 45 = .ok (.invokevirtual 269, 3) := by decide +kernel
theorem dX12_isNearer_48 : decode cX12_isNearer 48 = .ok (.invokestatic 282, 3) := by decide +kernel
theorem dX12_isNearer_51 : decode cX12_isNearer 51 = .ok (.istore 5, 2) := by decide +kernel
theorem dX12_isNearer_53 : decode cX12_isNearer 53 = .ok (.iload 4, 2) := by decide +kernel
theorem dX12_isNearer_55 : decode cX12_isNearer 55 = .ok (.iload 5, 2) := by decide +kernel
theorem dX12_isNearer_57 : decode cX12_isNearer 57 = .ok (.if_icmp .lt 15, 3) := by decide +kernel
theorem dX12_isNearer_60 : decode cX12_isNearer 60 = .ok (.iload 4, 2) := by decide +kernel
theorem dX12_isNearer_62 : decode cX12_isNearer 62 = .ok (.iload 5, 2) := by decide +kernel
theorem dX12_isNearer_64 : decode cX12_isNearer 64 = .ok (.if_icmp .ne 12, 3) := by decide +kernel
theorem dX12_isNearer_67 : decode cX12_isNearer 67 = .ok (.iload_n 2, 1) := by decide +kernel
theorem dX12_isNearer_68 : decode cX12_isNearer 68 = .ok (.iload_n 3, 1) := by decide +kernel
theorem dX12_isNearer_69 : decode cX12_isNearer 69 = .ok (.if_icmp .ge 7, 3) := by decide +kernel
theorem dX12_isNearer_72 : decode cX12_isNearer 72 = .ok (.iconst 1, 1) := by decide +kernel
theorem dX12_isNearer_73 : decode cX12_isNearer 73 = .ok (.goto 4, 3) := by decide +kernel
theorem dX12_isNearer_76 : decode cX12_isNearer 76 = .ok (.iconst 0, 1) := by decide +kernel
theorem dX12_isNearer_77 : decode cX12_isNearer 77 = .ok (.ireturn, 1) := by decide +kernel
def fX12_isNearer (μ : zM) (x0 : Nat) (x1 : Int32) (x2 : Int32) (x3 : Int32) : Option (Int32) := zgd (zm_ck μ 12 x0) <|
  zb1 (fX12_of μ x0 (33 + x1)) fun v2 =>
  zb1 (fX12_of μ x0 (33 + x2)) fun v4 =>
  zb1 (fX12_apart μ v2 v4) fun v6 =>
  zb1 (if x3 = (-1) then (
  some 1000000)
  else (
  zb1 (fX12_of μ x0 (33 + x1)) fun v14 =>
  zb1 (fX12_of μ x0 (33 + x3)) fun v16 =>
  zb1 (fX12_apart μ v14 v16) fun v18 =>
  some v18)) fun s7 =>
  zb1 (if v6 < s7 then (
  some 1)
  else (
  if v6 = s7 then (
  if x3 ≤ x2 then (
  some 0)
  else (
  some 1))
  else (
  some 0))) fun s9 =>
  zb1 (zbz s9) fun v11 =>
  some v11
theorem fX12_isNearer_ck {μ : zM} {x0 : Nat} {x1 : Int32} {x2 : Int32} {x3 : Int32} {z : Int32} (h : fX12_isNearer μ x0 x1 x2 x3 = some z) : zm_ck μ 12 x0 = true := (zgd_s h).1
set_option maxHeartbeats 4000000 in
set_option maxRecDepth 100000 in
theorem cX12_isNearer_ok {μ : zM} {x0 : Nat} {x1 : Int32} {x2 : Int32} {x3 : Int32} {r : Int32} (hf : fX12_isNearer μ x0 x1 x2 x3 = some r) : zC yX12_isNearer cX12_isNearer 6 (some .boolean) 1 0 0 [.ref x0, .int x1, .int x2, .int x3] μ (some (.int r)) μ := by
  replace hf := (zgd_s hf).2
  refine zC.of (by decide) (Nat.le_of_ble_eq_true rfl) (fun K hin => ?_)
  clear hin
  show zz K cX12_isNearer (6, RX12, some .boolean, 1, 0, 0, some (.int r), μ) 0 0 0 [(0, .ref x0), (1, .int x1), (2, .int x2), (3, .int x3)] [] μ
  refine zr_aload_n 0 dX12_isNearer_0 rfl ?_
  refine zr_bipush 33 dX12_isNearer_1 (by decide) ?_
  refine zr_iload_n 1 dX12_isNearer_3 rfl ?_
  refine zr_iadd dX12_isNearer_4 ?_
  replace hf := zb1_s hf
  obtain ⟨v2, h1, hf⟩ := hf
  refine zr_callV (ci := 12) [.int (33 + x1)] (cX12_of_ok h1) zvs_X12_of zl_918 zl_919 (fX12_of_ck h1) rfl rfl zl_917 rfl (Nat.le_of_ble_eq_true rfl) (Nat.le_of_ble_eq_true rfl) (Nat.le_of_ble_eq_true rfl) (Nat.le_of_ble_eq_true rfl) dX12_isNearer_5 rfl ?_
  refine zr_aload_n 0 dX12_isNearer_8 rfl ?_
  refine zr_bipush 33 dX12_isNearer_9 (by decide) ?_
  refine zr_iload_n 2 dX12_isNearer_11 rfl ?_
  refine zr_iadd dX12_isNearer_12 ?_
  replace hf := zb1_s hf
  obtain ⟨v4, h3, hf⟩ := hf
  refine zr_callV (ci := 12) [.int (33 + x2)] (cX12_of_ok h3) zvs_X12_of zl_918 zl_919 (fX12_of_ck h3) rfl rfl zl_917 rfl (Nat.le_of_ble_eq_true rfl) (Nat.le_of_ble_eq_true rfl) (Nat.le_of_ble_eq_true rfl) (Nat.le_of_ble_eq_true rfl) dX12_isNearer_13 rfl ?_
  replace hf := zb1_s hf
  obtain ⟨v6, h5, hf⟩ := hf
  refine zr_callS [.int v2, .int v4] (cX12_apart_ok h5) zvs_X12_apart zl_928 zl_927 rfl (Nat.le_of_ble_eq_true rfl) (Nat.le_of_ble_eq_true rfl) (Nat.le_of_ble_eq_true rfl) (Nat.le_of_ble_eq_true rfl) dX12_isNearer_16 rfl ?_
  refine zr_istore [(4, .int v6), (0, .ref x0), (1, .int x1), (2, .int x2), (3, .int x3)] dX12_isNearer_19 (Nat.le_of_ble_eq_true rfl) rfl ?_
  refine zr_iload_n 4 dX12_isNearer_21 rfl ?_
  refine zr_iconst (-1) dX12_isNearer_22 (by decide) ?_
  replace hf := zb1_s hf
  obtain ⟨s7, hg, hf⟩ := hf
  have hj8 : zz K cX12_isNearer (6, RX12, some .boolean, 1, 0, 0, some (.int r), μ) 0 0 51 [(2, .int x2), (3, .int x3), (4, .int v6)] [.int s7] μ := by
    refine zr_istore [(5, .int s7), (2, .int x2), (3, .int x3), (4, .int v6)] dX12_isNearer_51 (Nat.le_of_ble_eq_true rfl) rfl ?_
    refine zr_iload 3 dX12_isNearer_53 rfl ?_
    refine zr_iload 0 dX12_isNearer_55 rfl ?_
    replace hf := zb1_s hf
    obtain ⟨s9, hg, hf⟩ := hf
    have hj10 : zz K cX12_isNearer (6, RX12, some .boolean, 1, 0, 0, some (.int r), μ) 0 0 77 [] [.int s9] μ := by
      replace hf := zb1_s hf
      obtain ⟨v11, hn12, hf⟩ := hf
      obtain ⟨hn12, rfl⟩ := zbz_s hn12
      cases hf
      exact zr_zret hn12 dX12_isNearer_77
    clear hf
    have hf := hg
    clear hg
    refine zr_icmp_lt 72 dX12_isNearer_57 (by decide) (fun hc => ?_) (fun hc => ?_)
    · rw [if_pos hc] at hf
      refine zr_iconst 1 dX12_isNearer_72 (by decide) ?_
      refine zr_goto 77 dX12_isNearer_73 (by decide) ?_
      cases hf
      exact zr_lv [] rfl hj10
    · rw [if_neg hc] at hf
      refine zr_iload 3 dX12_isNearer_60 rfl ?_
      refine zr_iload 0 dX12_isNearer_62 rfl ?_
      refine zr_icmp_ne 76 dX12_isNearer_64 (by decide) (fun hc => ?_) (fun hc => ?_)
      · rw [if_neg hc] at hf
        refine zr_iconst 0 dX12_isNearer_76 (by decide) ?_
        cases hf
        exact zr_lv [] rfl hj10
      · rw [if_pos hc] at hf
        refine zr_iload_n 1 dX12_isNearer_67 rfl ?_
        refine zr_iload_n 2 dX12_isNearer_68 rfl ?_
        refine zr_icmp_ge 76 dX12_isNearer_69 (by decide) (fun hc => ?_) (fun hc => ?_)
        · rw [if_pos hc] at hf
          refine zr_iconst 0 dX12_isNearer_76 (by decide) ?_
          cases hf
          exact zr_lv [] rfl hj10
        · rw [if_neg hc] at hf
          refine zr_iconst 1 dX12_isNearer_72 (by decide) ?_
          refine zr_goto 77 dX12_isNearer_73 (by decide) ?_
          cases hf
          exact zr_lv [] rfl hj10
  clear hf
  have hf := hg
  clear hg
  refine zr_icmp_ne 32 dX12_isNearer_23 (by decide) (fun hc => ?_) (fun hc => ?_)
  · rw [if_neg hc] at hf
    refine zr_aload_n 1 dX12_isNearer_32 rfl ?_
    refine zr_bipush 33 dX12_isNearer_33 (by decide) ?_
    refine zr_iload_n 2 dX12_isNearer_35 rfl ?_
    refine zr_iadd dX12_isNearer_36 ?_
    replace hf := zb1_s hf
    obtain ⟨v14, h13, hf⟩ := hf
    refine zr_callV (ci := 12) [.int (33 + x1)] (cX12_of_ok h13) zvs_X12_of zl_918 zl_919 (fX12_of_ck h13) rfl rfl zl_917 rfl (Nat.le_of_ble_eq_true rfl) (Nat.le_of_ble_eq_true rfl) (Nat.le_of_ble_eq_true rfl) (Nat.le_of_ble_eq_true rfl) dX12_isNearer_37 rfl ?_
    refine zr_aload_n 1 dX12_isNearer_40 rfl ?_
    refine zr_bipush 33 dX12_isNearer_41 (by decide) ?_
    refine zr_iload_n 4 dX12_isNearer_43 rfl ?_
    refine zr_iadd dX12_isNearer_44 ?_
    replace hf := zb1_s hf
    obtain ⟨v16, h15, hf⟩ := hf
    refine zr_callV (ci := 12) [.int (33 + x3)] (cX12_of_ok h15) zvs_X12_of zl_918 zl_919 (fX12_of_ck h15) rfl rfl zl_917 rfl (Nat.le_of_ble_eq_true rfl) (Nat.le_of_ble_eq_true rfl) (Nat.le_of_ble_eq_true rfl) (Nat.le_of_ble_eq_true rfl) dX12_isNearer_45 rfl ?_
    replace hf := zb1_s hf
    obtain ⟨v18, h17, hf⟩ := hf
    refine zr_callS [.int v14, .int v16] (cX12_apart_ok h17) zvs_X12_apart zl_928 zl_927 rfl (Nat.le_of_ble_eq_true rfl) (Nat.le_of_ble_eq_true rfl) (Nat.le_of_ble_eq_true rfl) (Nat.le_of_ble_eq_true rfl) dX12_isNearer_48 rfl ?_
    cases hf
    exact zr_lv [3, 4, 0] rfl hj8
  · rw [if_pos hc] at hf
    refine zr_ldcw zl_1076 dX12_isNearer_26 ?_
    refine zr_goto 51 dX12_isNearer_29 (by decide) ?_
    cases hf
    exact zr_lv [3, 4, 0] rfl hj8
theorem zl_1181 : Cond.code yX12_isNearer cX12_isNearer 6 (some .boolean) ∈ zt := zt_at 2013 (by decide +kernel)
theorem zvs_X12_isNearer : zvS yX12_isNearer cX12_isNearer 6 (some .boolean) 3 := ⟨zl_1181, zl_782, ⟨by decide +kernel, by decide +kernel, by decide +kernel⟩, by decide⟩
theorem zl_1182 : Cond.methodLink RX12 514 yX12_isNearer ∈ zt := zt_at 2010 (by decide +kernel)
theorem zl_1183 : Cond.instanceMethod yX12_isNearer ∈ zt := zt_at 2012 (by decide +kernel)
theorem zl_1184 : Cond.selects RX12 yX12_isNearer yX12_isNearer ∈ zt := zt_at 126 (by decide +kernel)
theorem dX12_nextFor_0 : decode cX12_nextFor 0 = .ok (.iconst (-1), 1) := by decide +kernel
theorem dX12_nextFor_1 : decode cX12_nextFor 1 = .ok (.istore_n 2, 1) := by decide +kernel
theorem dX12_nextFor_2 : decode cX12_nextFor 2 = .ok (.iconst 0, 1) := by decide +kernel
theorem dX12_nextFor_3 : decode cX12_nextFor 3 = .ok (.istore_n 3, 1) := by decide +kernel
theorem dX12_nextFor_4 : decode cX12_nextFor 4 = .ok (.iload_n 3, 1) := by decide +kernel
theorem dX12_nextFor_5 : decode cX12_nextFor 5 = .ok (.aload_n 0, 1) := by decide +kernel
theorem dX12_nextFor_6 : decode cX12_nextFor 6 = .ok (.getfield 276, 3) := by decide +kernel
theorem dX12_nextFor_9 : decode cX12_nextFor 9 = .ok (.if_icmp .ge 47, 3) := by decide +kernel
theorem dX12_nextFor_12 : decode cX12_nextFor 12 = .ok (.aload_n 0, 1) := by decide +kernel
theorem dX12_nextFor_13 : decode cX12_nextFor 13 = .ok (.iload_n 3, 1) := by decide +kernel
theorem dX12_nextFor_14 : decode cX12_nextFor 14 = .ok (.iconst 1, 1) := by decide +kernel
theorem dX12_nextFor_15 : decode cX12_nextFor 15 = .ok (.invokevirtual 391, 3) := by decide +kernel
theorem dX12_nextFor_18 : decode cX12_nextFor 18 = .ok (.ifCond .eq 30, 3) := by decide +kernel
theorem dX12_nextFor_21 : decode cX12_nextFor 21 = .ok (.aload_n 0, 1) := by decide +kernel
theorem dX12_nextFor_22 : decode cX12_nextFor 22 = .ok (.getfield 86, 3) := by decide +kernel
theorem dX12_nextFor_25 : decode cX12_nextFor 25 = .ok (.iload_n 1, 1) := by decide +kernel
theorem dX12_nextFor_26 : decode cX12_nextFor 26 = .ok (.iaload, 1) := by decide +kernel
theorem dX12_nextFor_27 : decode cX12_nextFor 27 = .ok (.iload_n 3, 1) := by decide +kernel
theorem dX12_nextFor_28 : decode cX12_nextFor 28 = .ok (.invokestatic 380, 3) := by decide +kernel
theorem dX12_nextFor_31 : decode cX12_nextFor 31 = .ok (.ifCond .ne 17, 3) := by decide +kernel
theorem dX12_nextFor_34 : decode cX12_nextFor 34 = .ok (.aload_n 0, 1) := by decide +kernel
theorem dX12_nextFor_35 : decode cX12_nextFor 35 = .ok (.iload_n 1, 1) := by decide +kernel
theorem dX12_nextFor_36 : decode cX12_nextFor 36 = .ok (.iload_n 3, 1) := by decide +kernel
theorem dX12_nextFor_37 : decode cX12_nextFor 37 = .ok (.iload_n 2, 1) := by decide +kernel
theorem dX12_nextFor_38 : decode cX12_nextFor 38 = .ok (.invokevirtual 514, 3) := by decide +kernel
theorem dX12_nextFor_41 : decode cX12_nextFor 41 = .ok (.ifCond .eq 7, 3) := by decide +kernel
theorem dX12_nextFor_44 : decode cX12_nextFor 44 = .ok (.iload_n 3, 1) := by decide +kernel
theorem dX12_nextFor_45 : decode cX12_nextFor 45 = .ok (.goto 4, 3) := by decide +kernel
theorem dX12_nextFor_48 : decode cX12_nextFor 48 = .ok (.iload_n 2, 1) := by decide +kernel
theorem dX12_nextFor_49 : decode cX12_nextFor 49 = .ok (.istore_n 2, 1) := by decide +kernel
theorem dX12_nextFor_50 : decode cX12_nextFor 50 = .ok (.iinc 3 1, 3) := by decide +kernel
theorem dX12_nextFor_53 : decode cX12_nextFor 53 = .ok (.goto (-49), 3) := by decide +kernel
theorem dX12_nextFor_56 : decode cX12_nextFor 56 = .ok (.iload_n 2, 1) := by decide +kernel
theorem dX12_nextFor_57 : decode cX12_nextFor 57 = .ok (.ireturn, 1) := by decide +kernel
def fX12_nextFor_l4 (μ : zM) (x0 : Nat) (x1 : Int32) (F3 : Int32 → Int32 → Option (Int32)) (x2_1 : Int32) (x3_2 : Int32) : Option (Int32) :=
  zb1 (zm_gI μ 12 x0 25) fun v7 =>
  if v7 ≤ x3_2 then (
  some x2_1)
  else (
  zb1 (fX12_isKind μ x0 x3_2 1) fun v10 =>
  zb1 (if v10 = 0 then (
  some x2_1)
  else (
  zb1 (zm_gR μ 12 x0 52) fun v13 =>
  zb1 (zm_aI μ 0 v13 x1) fun v15 =>
  zb1 (fX12_has μ v15 x3_2) fun v18 =>
  if v18 = 0 then (
  zb1 (fX12_isNearer μ x0 x1 x3_2 x2_1) fun v20 =>
  if v20 = 0 then (
  some x2_1)
  else (
  some x3_2))
  else (
  some x2_1))) fun s11 =>
  F3 s11 (x3_2 + 1))
def fX12_nextFor (μ : zM) (x0 : Nat) (x1 : Int32) : Option (Int32) := zgd (zm_ck μ 12 x0) <|
  zb1 (zf2 (fX12_nextFor_l4 μ x0 x1) zfu (-1) 0) fun x2_5 =>
  some x2_5
theorem fX12_nextFor_ck {μ : zM} {x0 : Nat} {x1 : Int32} {z : Int32} (h : fX12_nextFor μ x0 x1 = some z) : zm_ck μ 12 x0 = true := (zgd_s h).1
set_option maxHeartbeats 4000000 in
set_option maxRecDepth 100000 in
theorem cX12_nextFor_ok {μ : zM} {x0 : Nat} {x1 : Int32} {r : Int32} (hf : fX12_nextFor μ x0 x1 = some r) : zC yX12_nextFor cX12_nextFor 4 (some .int) 3 0 0 [.ref x0, .int x1] μ (some (.int r)) μ := by
  replace hf := (zgd_s hf).2
  refine zC.of (by decide) (Nat.le_of_ble_eq_true rfl) (fun K hin => ?_)
  clear hin
  show zz K cX12_nextFor (4, RX12, some .int, 3, 0, 0, some (.int r), μ) 0 0 0 [(0, .ref x0), (1, .int x1)] [] μ
  refine zr_iconst (-1) dX12_nextFor_0 (by decide) ?_
  refine zr_istore_n [(2, .int (-1)), (0, .ref x0), (1, .int x1)] dX12_nextFor_1 (Nat.le_of_ble_eq_true rfl) rfl ?_
  refine zr_iconst 0 dX12_nextFor_2 (by decide) ?_
  refine zr_istore_n [(3, .int 0), (2, .int (-1)), (0, .ref x0), (1, .int x1)] dX12_nextFor_3 (Nat.le_of_ble_eq_true rfl) rfl ?_
  replace hf := zb1_s hf
  obtain ⟨x2_5, hg, hf⟩ := hf
  have hj6 : zz K cX12_nextFor (4, RX12, some .int, 3, 0, 0, some (.int r), μ) 0 0 56 [(2, .int x2_5)] [] μ := by
    refine zr_iload_n 0 dX12_nextFor_56 rfl ?_
    cases hf
    exact zr_iret dX12_nextFor_57
  clear hf
  have hf := hg
  clear hg
  have hL21 : ∀ (n : Nat) (x2_1 : Int32) (x3_2 : Int32), zf2 (fX12_nextFor_l4 μ x0 x1) n x2_1 x3_2 = some x2_5 → zz K cX12_nextFor (4, RX12, some .int, 3, 0, 0, some (.int r), μ) 0 0 4 [(0, .ref x0), (1, .int x1), (2, .int x2_1), (3, .int x3_2)] [] μ := by
    intro n
    induction n with
    | zero => intro x2_1 x3_2 hf; cases hf
    | succ n ih4 =>
      intro x2_1 x3_2 hf
      replace hf := zf2_s hf
      generalize zf2 (fX12_nextFor_l4 μ x0 x1) n = F3 at hf ih4
      unfold fX12_nextFor_l4 at hf
      refine zr_iload_n 3 dX12_nextFor_4 rfl ?_
      refine zr_aload_n 0 dX12_nextFor_5 rfl ?_
      replace hf := zb1_s hf
      obtain ⟨v7, h8, hf⟩ := hf
      refine zr_get (zm_gI_g h8) zk12 (by decide) zl_921 dX12_nextFor_6 ?_
      refine zr_icmp_ge 56 dX12_nextFor_9 (by decide) (fun hc => ?_) (fun hc => ?_)
      · rw [if_pos hc] at hf
        cases hf
        exact zr_lv [2] rfl hj6
      · rw [if_neg hc] at hf
        refine zr_aload_n 0 dX12_nextFor_12 rfl ?_
        refine zr_iload_n 3 dX12_nextFor_13 rfl ?_
        refine zr_iconst 1 dX12_nextFor_14 (by decide) ?_
        replace hf := zb1_s hf
        obtain ⟨v10, h9, hf⟩ := hf
        refine zr_callV (ci := 12) [.int x3_2, .int 1] (cX12_isKind_ok h9) zvs_X12_isKind zl_1046 zl_1047 (fX12_isKind_ck h9) rfl rfl zl_1045 rfl (Nat.le_of_ble_eq_true rfl) (Nat.le_of_ble_eq_true rfl) (Nat.le_of_ble_eq_true rfl) (Nat.le_of_ble_eq_true rfl) dX12_nextFor_15 rfl ?_
        replace hf := zb1_s hf
        obtain ⟨s11, hg, hf⟩ := hf
        have hj12 : zz K cX12_nextFor (4, RX12, some .int, 3, 0, 0, some (.int r), μ) 0 0 49 [(0, .ref x0), (1, .int x1), (3, .int x3_2)] [.int s11] μ := by
          refine zr_istore_n [(2, .int s11), (0, .ref x0), (1, .int x1), (3, .int x3_2)] dX12_nextFor_49 (Nat.le_of_ble_eq_true rfl) rfl ?_
          refine zr_iinc (j := 3) (x3_2 + 1) [(3, .int (x3_2 + 1)), (2, .int s11), (0, .ref x0), (1, .int x1)] dX12_nextFor_50 rfl rfl (Nat.le_of_ble_eq_true rfl) rfl ?_
          refine zr_goto 4 dX12_nextFor_53 (by decide) ?_
          exact zr_lv [2, 3, 1, 0] rfl (ih4 s11 (x3_2 + 1) hf)
        clear hf
        have hf := hg
        clear hg
        refine zr_if_eq 48 dX12_nextFor_18 (by decide) (fun hc => ?_) (fun hc => ?_)
        · rw [if_pos hc] at hf
          refine zr_iload_n 2 dX12_nextFor_48 rfl ?_
          cases hf
          exact zr_lv [0, 1, 3] rfl hj12
        · rw [if_neg hc] at hf
          refine zr_aload_n 0 dX12_nextFor_21 rfl ?_
          replace hf := zb1_s hf
          obtain ⟨v13, h14, hf⟩ := hf
          refine zr_get (zm_gR_g h14) zk12 (by decide) zl_778 dX12_nextFor_22 ?_
          refine zr_iload_n 1 dX12_nextFor_25 rfl ?_
          replace hf := zb1_s hf
          obtain ⟨v15, h16, hf⟩ := hf
          refine zr_iald h16 dX12_nextFor_26 ?_
          refine zr_iload_n 3 dX12_nextFor_27 rfl ?_
          replace hf := zb1_s hf
          obtain ⟨v18, h17, hf⟩ := hf
          refine zr_callS [.int v15, .int x3_2] (cX12_has_ok h17) zvs_X12_has zl_1035 zl_1034 rfl (Nat.le_of_ble_eq_true rfl) (Nat.le_of_ble_eq_true rfl) (Nat.le_of_ble_eq_true rfl) (Nat.le_of_ble_eq_true rfl) dX12_nextFor_28 rfl ?_
          refine zr_if_ne 48 dX12_nextFor_31 (by decide) (fun hc => ?_) (fun hc => ?_)
          · rw [if_neg hc] at hf
            refine zr_iload_n 2 dX12_nextFor_48 rfl ?_
            cases hf
            exact zr_lv [0, 1, 3] rfl hj12
          · rw [if_pos hc] at hf
            refine zr_aload_n 0 dX12_nextFor_34 rfl ?_
            refine zr_iload_n 1 dX12_nextFor_35 rfl ?_
            refine zr_iload_n 3 dX12_nextFor_36 rfl ?_
            refine zr_iload_n 2 dX12_nextFor_37 rfl ?_
            replace hf := zb1_s hf
            obtain ⟨v20, h19, hf⟩ := hf
            refine zr_callV (ci := 12) [.int x1, .int x3_2, .int x2_1] (cX12_isNearer_ok h19) zvs_X12_isNearer zl_1183 zl_1184 (fX12_isNearer_ck h19) rfl rfl zl_1182 rfl (Nat.le_of_ble_eq_true rfl) (Nat.le_of_ble_eq_true rfl) (Nat.le_of_ble_eq_true rfl) (Nat.le_of_ble_eq_true rfl) dX12_nextFor_38 rfl ?_
            refine zr_if_eq 48 dX12_nextFor_41 (by decide) (fun hc => ?_) (fun hc => ?_)
            · rw [if_pos hc] at hf
              refine zr_iload_n 2 dX12_nextFor_48 rfl ?_
              cases hf
              exact zr_lv [0, 1, 3] rfl hj12
            · rw [if_neg hc] at hf
              refine zr_iload_n 3 dX12_nextFor_44 rfl ?_
              refine zr_goto 49 dX12_nextFor_45 (by decide) ?_
              cases hf
              exact zr_lv [0, 1, 3] rfl hj12
  exact zr_lv [2, 3, 1, 0] rfl (hL21 _ (-1) 0 hf)
theorem zl_1185 : Cond.code yX12_nextFor cX12_nextFor 4 (some .int) ∈ zt := zt_at 2009 (by decide +kernel)
theorem zvs_X12_nextFor : zvS yX12_nextFor cX12_nextFor 4 (some .int) 1 := ⟨zl_1185, zl_782, ⟨by decide +kernel, by decide +kernel, by decide +kernel⟩, by decide⟩
theorem zl_1186 : Cond.methodLink RX12 517 yX12_nextFor ∈ zt := zt_at 2006 (by decide +kernel)
theorem zl_1187 : Cond.instanceMethod yX12_nextFor ∈ zt := zt_at 2008 (by decide +kernel)
theorem zl_1188 : Cond.selects RX12 yX12_nextFor yX12_nextFor ∈ zt := zt_at 125 (by decide +kernel)
theorem dX12_asksOn_0 : decode cX12_asksOn 0 = .ok (.aload_n 0, 1) := by decide +kernel
theorem dX12_asksOn_1 : decode cX12_asksOn 1 = .ok (.getfield 83, 3) := by decide +kernel
theorem dX12_asksOn_4 : decode cX12_asksOn 4 = .ok (.iload_n 1, 1) := by decide +kernel
theorem dX12_asksOn_5 : decode cX12_asksOn 5 = .ok (.iaload, 1) := by decide +kernel
theorem dX12_asksOn_6 : decode cX12_asksOn 6 = .ok (.iconst (-1), 1) := by decide +kernel
theorem dX12_asksOn_7 : decode cX12_asksOn 7 = .ok (.if_icmp .ne 11, 3) := by decide +kernel
theorem dX12_asksOn_10 : decode cX12_asksOn 10 = .ok (.aload_n 0, 1) := by decide +kernel
theorem dX12_asksOn_11 : decode cX12_asksOn 11 = .ok (.iload_n 1, 1) := by decide +kernel
theorem dX12_asksOn_12 : decode cX12_asksOn 12 = .ok (.invokevirtual 517, 3) := by decide +kernel
theorem dX12_asksOn_15 : decode cX12_asksOn 15 = .ok (.goto 4, 3) := by decide +kernel
theorem dX12_asksOn_18 : decode cX12_asksOn 18 = .ok (.iconst (-1), 1) := by decide +kernel
theorem dX12_asksOn_19 : decode cX12_asksOn 19 = .ok (.istore_n 2, 1) := by decide +kernel
theorem dX12_asksOn_20 : decode cX12_asksOn 20 = .ok (.iload_n 2, 1) := by decide +kernel
theorem dX12_asksOn_21 : decode cX12_asksOn 21 = .ok (.iconst (-1), 1) := by decide +kernel
theorem dX12_asksOn_22 : decode cX12_asksOn 22 = .ok (.if_icmp .ne 5, 3) := by decide +kernel
theorem dX12_asksOn_25 : decode cX12_asksOn 25 = .ok (.iconst 0, 1) := by decide +kernel
theorem dX12_asksOn_26 : decode cX12_asksOn 26 = .ok (.ireturn, 1) := by decide +kernel
theorem dX12_asksOn_27 : decode cX12_asksOn 27 = .ok (.aload_n 0, 1) := by decide +kernel
theorem dX12_asksOn_28 : decode cX12_asksOn 28 = .ok (.getfield 86, 3) := by decide +kernel
theorem dX12_asksOn_31 : decode cX12_asksOn 31 = .ok (.iload_n 1, 1) := by decide +kernel
theorem dX12_asksOn_32 : decode cX12_asksOn 32 = .ok (.dup2, 1) := by decide +kernel
theorem dX12_asksOn_33 : decode cX12_asksOn 33 = .ok (.iaload, 1) := by decide +kernel
theorem dX12_asksOn_34 : decode cX12_asksOn 34 = .ok (.iconst 1, 1) := by decide +kernel
theorem dX12_asksOn_35 : decode cX12_asksOn 35 = .ok (.iload_n 2, 1) := by decide +kernel
theorem dX12_asksOn_36 : decode cX12_asksOn 36 = .ok (.ishl, 1) := by decide +kernel
theorem dX12_asksOn_37 : decode cX12_asksOn 37 = .ok (.ior, 1) := by decide +kernel
theorem dX12_asksOn_38 : decode cX12_asksOn 38 = .ok (.iastore, 1) := by decide +kernel
theorem dX12_asksOn_39 : decode cX12_asksOn 39 = .ok (.aload_n 0, 1) := by decide +kernel
theorem dX12_asksOn_40 : decode cX12_asksOn 40 = .ok (.getfield 83, 3) := by decide +kernel
theorem dX12_asksOn_43 : decode cX12_asksOn 43 = .ok (.iload_n 2, 1) := by decide +kernel
theorem dX12_asksOn_44 : decode cX12_asksOn 44 = .ok (.iaload, 1) := by decide +kernel
theorem dX12_asksOn_45 : decode cX12_asksOn 45 = .ok (.iconst (-1), 1) := by decide +kernel
theorem dX12_asksOn_46 : decode cX12_asksOn 46 = .ok (.if_icmp .eq 18, 3) := by decide +kernel
theorem dX12_asksOn_49 : decode cX12_asksOn 49 = .ok (.aload_n 0, 1) := by decide +kernel
theorem dX12_asksOn_50 : decode cX12_asksOn 50 = .ok (.iload_n 2, 1) := by decide +kernel
theorem dX12_asksOn_51 : decode cX12_asksOn 51 = .ok (.iload_n 1, 1) := by decide +kernel
theorem dX12_asksOn_52 : decode cX12_asksOn 52 = .ok (.aload_n 0, 1) := by decide +kernel
theorem dX12_asksOn_53 : decode cX12_asksOn 53 = .ok (.getfield 83, 3) := by decide +kernel
theorem dX12_asksOn_56 : decode cX12_asksOn 56 = .ok (.iload_n 2, 1) := by decide +kernel
theorem dX12_asksOn_57 : decode cX12_asksOn 57 = .ok (.iaload, 1) := by decide +kernel
theorem dX12_asksOn_58 : decode cX12_asksOn 58 = .ok (.invokevirtual 514, 3) := by decide +kernel
theorem dX12_asksOn_61 : decode cX12_asksOn 61 = .ok (.ifCond .eq 39, 3) := by decide +kernel
theorem dX12_asksOn_64 : decode cX12_asksOn 64 = .ok (.aload_n 0, 1) := by decide +kernel
theorem dX12_asksOn_65 : decode cX12_asksOn 65 = .ok (.getfield 83, 3) := by decide +kernel
theorem dX12_asksOn_68 : decode cX12_asksOn 68 = .ok (.iload_n 2, 1) := by decide +kernel
theorem dX12_asksOn_69 : decode cX12_asksOn 69 = .ok (.iaload, 1) := by decide +kernel
theorem dX12_asksOn_70 : decode cX12_asksOn 70 = .ok (.iconst (-1), 1) := by decide +kernel
theorem dX12_asksOn_71 : decode cX12_asksOn 71 = .ok (.if_icmp .eq 15, 3) := by decide +kernel
theorem dX12_asksOn_74 : decode cX12_asksOn 74 = .ok (.aload_n 0, 1) := by decide +kernel
theorem dX12_asksOn_75 : decode cX12_asksOn 75 = .ok (.getfield 83, 3) := by decide +kernel
theorem dX12_asksOn_78 : decode cX12_asksOn 78 = .ok (.aload_n 0, 1) := by decide +kernel
theorem dX12_asksOn_79 : decode cX12_asksOn 79 = .ok (.getfield 83, 3) := by decide +kernel
theorem dX12_asksOn_82 : decode cX12_asksOn 82 = .ok (.iload_n 2, 1) := by decide +kernel
theorem dX12_asksOn_83 : decode cX12_asksOn 83 = .ok (.iaload, 1) := by decide +kernel
theorem dX12_asksOn_84 : decode cX12_asksOn 84 = .ok (.iconst (-1), 1) := by decide +kernel
theorem dX12_asksOn_85 : decode cX12_asksOn 85 = .ok (.iastore, 1) := by decide +kernel
theorem dX12_asksOn_86 : decode cX12_asksOn 86 = .ok (.aload_n 0, 1) := by decide +kernel
theorem dX12_asksOn_87 : decode cX12_asksOn 87 = .ok (.getfield 83, 3) := by decide +kernel
theorem dX12_asksOn_90 : decode cX12_asksOn 90 = .ok (.iload_n 2, 1) := by decide +kernel
theorem dX12_asksOn_91 : decode cX12_asksOn 91 = .ok (.iload_n 1, 1) := by decide +kernel
theorem dX12_asksOn_92 : decode cX12_asksOn 92 = .ok (.iastore, 1) := by decide +kernel
theorem dX12_asksOn_93 : decode cX12_asksOn 93 = .ok (.aload_n 0, 1) := by decide +kernel
theorem dX12_asksOn_94 : decode cX12_asksOn 94 = .ok (.getfield 83, 3) := by decide +kernel
theorem dX12_asksOn_97 : decode cX12_asksOn 97 = .ok (.iload_n 1, 1) := by decide +kernel
theorem dX12_asksOn_98 : decode cX12_asksOn 98 = .ok (.iload_n 2, 1) := by decide +kernel
theorem dX12_asksOn_99 : decode cX12_asksOn 99 = .ok (.iastore, 1) := by decide +kernel
theorem dX12_asksOn_100 : decode cX12_asksOn 100 = .ok (.iconst 1, 1) := by decide +kernel
theorem dX12_asksOn_101 : decode cX12_asksOn 101 = .ok (.ireturn, 1) := by decide +kernel
def fX12_asksOn_b64 (m11 : zM) (x0 : Nat) (s5 : Int32) (x1 : Int32) : Option (zM) :=
  zb1 (zm_gR m11 12 x0 51) fun v19 =>
  zb1 (zm_aI m11 0 v19 s5) fun v21 =>
  zb1 (if v21 = (-1) then (
  some m11)
  else (
  zb1 (zm_gR m11 12 x0 51) fun v33 =>
  zb1 (zm_gR m11 12 x0 51) fun v35 =>
  zb1 (zm_aI m11 0 v35 s5) fun v37 =>
  zb1 (zm_sI m11 0 v33 v37 (-1)) fun m39 =>
  some m39)) fun m23 =>
  zb1 (zm_gR m23 12 x0 51) fun v25 =>
  zb1 (zm_sI m23 0 v25 s5 x1) fun m27 =>
  zb1 (zm_gR m27 12 x0 51) fun v29 =>
  zb1 (zm_sI m27 0 v29 x1 s5) fun m31 =>
  some m31
def fX12_asksOn (μ : zM) (x0 : Nat) (x1 : Int32) : Option (Int32 × zM) := zgd (zm_ck μ 12 x0) <|
  zb1 (zm_gR μ 12 x0 51) fun v1 =>
  zb1 (zm_aI μ 0 v1 x1) fun v3 =>
  zb1 (if v3 = (-1) then (
  zb1 (fX12_nextFor μ x0 x1) fun v49 =>
  some v49)
  else (
  some (-1))) fun s5 =>
  if s5 = (-1) then (
  some (0, μ))
  else (
  zb1 (zm_gR μ 12 x0 52) fun v7 =>
  zb1 (zm_aI μ 0 v7 x1) fun v9 =>
  zb1 (zm_sI μ 0 v7 x1 (v9 ||| (1 <<< (s5 &&& 31)))) fun m11 =>
  zb1 (zm_gR m11 12 x0 51) fun v13 =>
  zb1 (zm_aI m11 0 v13 s5) fun v15 =>
  zb1 (if v15 = (-1) then (
  fX12_asksOn_b64 m11 x0 s5 x1)
  else (
  zb1 (zm_gR m11 12 x0 51) fun v42 =>
  zb1 (zm_aI m11 0 v42 s5) fun v44 =>
  zb1 (fX12_isNearer m11 x0 s5 x1 v44) fun v47 =>
  if v47 = 0 then (
  some m11)
  else (
  fX12_asksOn_b64 m11 x0 s5 x1))) fun m17 =>
  some (1, m17))
theorem fX12_asksOn_ck {μ : zM} {x0 : Nat} {x1 : Int32} {z : Int32 × zM} (h : fX12_asksOn μ x0 x1 = some z) : zm_ck μ 12 x0 = true := (zgd_s h).1
set_option maxHeartbeats 4000000 in
set_option maxRecDepth 100000 in
theorem cX12_asksOn_ok {μ : zM} {x0 : Nat} {x1 : Int32} {r : Int32} {mo : zM} (hf : fX12_asksOn μ x0 x1 = some (r, mo)) : zC yX12_asksOn cX12_asksOn 3 (some .boolean) 4 0 0 [.ref x0, .int x1] μ (some (.int r)) mo := by
  replace hf := (zgd_s hf).2
  refine zC.of (by decide) (Nat.le_of_ble_eq_true rfl) (fun K hin => ?_)
  clear hin
  show zz K cX12_asksOn (3, RX12, some .boolean, 4, 0, 0, some (.int r), mo) 0 0 0 [(0, .ref x0), (1, .int x1)] [] μ
  refine zr_aload_n 0 dX12_asksOn_0 rfl ?_
  replace hf := zb1_s hf
  obtain ⟨v1, h2, hf⟩ := hf
  refine zr_get (zm_gR_g h2) zk12 (by decide) zl_777 dX12_asksOn_1 ?_
  refine zr_iload_n 1 dX12_asksOn_4 rfl ?_
  replace hf := zb1_s hf
  obtain ⟨v3, h4, hf⟩ := hf
  refine zr_iald h4 dX12_asksOn_5 ?_
  refine zr_iconst (-1) dX12_asksOn_6 (by decide) ?_
  replace hf := zb1_s hf
  obtain ⟨s5, hg, hf⟩ := hf
  have hj6 : zz K cX12_asksOn (3, RX12, some .boolean, 4, 0, 0, some (.int r), mo) 0 0 19 [(0, .ref x0), (1, .int x1)] [.int s5] μ := by
    refine zr_istore_n [(2, .int s5), (0, .ref x0), (1, .int x1)] dX12_asksOn_19 (Nat.le_of_ble_eq_true rfl) rfl ?_
    refine zr_iload_n 0 dX12_asksOn_20 rfl ?_
    refine zr_iconst (-1) dX12_asksOn_21 (by decide) ?_
    refine zr_icmp_ne 27 dX12_asksOn_22 (by decide) (fun hc => ?_) (fun hc => ?_)
    · rw [if_neg hc] at hf
      refine zr_aload_n 1 dX12_asksOn_27 rfl ?_
      replace hf := zb1_s hf
      obtain ⟨v7, h8, hf⟩ := hf
      refine zr_get (zm_gR_g h8) zk12 (by decide) zl_778 dX12_asksOn_28 ?_
      refine zr_iload_n 2 dX12_asksOn_31 rfl ?_
      refine zr_dup2 dX12_asksOn_32 rfl rfl ?_
      replace hf := zb1_s hf
      obtain ⟨v9, h10, hf⟩ := hf
      refine zr_iald h10 dX12_asksOn_33 ?_
      refine zr_iconst 1 dX12_asksOn_34 (by decide) ?_
      refine zr_iload_n 0 dX12_asksOn_35 rfl ?_
      refine zr_ishl dX12_asksOn_36 ?_
      refine zr_ior dX12_asksOn_37 ?_
      replace hf := zb1_s hf
      obtain ⟨m11, h12, hf⟩ := hf
      refine zr_iast h12 dX12_asksOn_38 ?_
      refine zr_aload_n 1 dX12_asksOn_39 rfl ?_
      replace hf := zb1_s hf
      obtain ⟨v13, h14, hf⟩ := hf
      refine zr_get (zm_gR_g h14) zk12 (by decide) zl_777 dX12_asksOn_40 ?_
      refine zr_iload_n 0 dX12_asksOn_43 rfl ?_
      replace hf := zb1_s hf
      obtain ⟨v15, h16, hf⟩ := hf
      refine zr_iald h16 dX12_asksOn_44 ?_
      refine zr_iconst (-1) dX12_asksOn_45 (by decide) ?_
      replace hf := zb1_s hf
      obtain ⟨m17, hg, hf⟩ := hf
      have hj18 : zz K cX12_asksOn (3, RX12, some .boolean, 4, 0, 0, some (.int r), mo) 0 0 100 [] [] m17 := by
        refine zr_iconst 1 dX12_asksOn_100 (by decide) ?_
        cases hf
        exact zr_zret rfl dX12_asksOn_101
      clear hf
      have hf := hg
      clear hg
      have hb41 : ∀ (_ : Unit), fX12_asksOn_b64 m11 x0 s5 x1 = some m17 → zz K cX12_asksOn (3, RX12, some .boolean, 4, 0, 0, some (.int r), mo) 0 0 64 [(0, .ref x0), (1, .int x1), (2, .int s5)] [] m11 := by
        intro _ hf
        unfold fX12_asksOn_b64 at hf
        refine zr_aload_n 0 dX12_asksOn_64 rfl ?_
        replace hf := zb1_s hf
        obtain ⟨v19, h20, hf⟩ := hf
        refine zr_get (zm_gR_g h20) zk12 (by decide) zl_777 dX12_asksOn_65 ?_
        refine zr_iload_n 2 dX12_asksOn_68 rfl ?_
        replace hf := zb1_s hf
        obtain ⟨v21, h22, hf⟩ := hf
        refine zr_iald h22 dX12_asksOn_69 ?_
        refine zr_iconst (-1) dX12_asksOn_70 (by decide) ?_
        replace hf := zb1_s hf
        obtain ⟨m23, hg, hf⟩ := hf
        have hj24 : zz K cX12_asksOn (3, RX12, some .boolean, 4, 0, 0, some (.int r), mo) 0 0 86 [(0, .ref x0), (1, .int x1), (2, .int s5)] [] m23 := by
          refine zr_aload_n 0 dX12_asksOn_86 rfl ?_
          replace hf := zb1_s hf
          obtain ⟨v25, h26, hf⟩ := hf
          refine zr_get (zm_gR_g h26) zk12 (by decide) zl_777 dX12_asksOn_87 ?_
          refine zr_iload_n 2 dX12_asksOn_90 rfl ?_
          refine zr_iload_n 1 dX12_asksOn_91 rfl ?_
          replace hf := zb1_s hf
          obtain ⟨m27, h28, hf⟩ := hf
          refine zr_iast h28 dX12_asksOn_92 ?_
          refine zr_aload_n 0 dX12_asksOn_93 rfl ?_
          replace hf := zb1_s hf
          obtain ⟨v29, h30, hf⟩ := hf
          refine zr_get (zm_gR_g h30) zk12 (by decide) zl_777 dX12_asksOn_94 ?_
          refine zr_iload_n 1 dX12_asksOn_97 rfl ?_
          refine zr_iload_n 2 dX12_asksOn_98 rfl ?_
          replace hf := zb1_s hf
          obtain ⟨m31, h32, hf⟩ := hf
          refine zr_iast h32 dX12_asksOn_99 ?_
          cases hf
          exact zr_lv [] rfl hj18
        clear hf
        have hf := hg
        clear hg
        refine zr_icmp_eq 86 dX12_asksOn_71 (by decide) (fun hc => ?_) (fun hc => ?_)
        · rw [if_pos hc] at hf
          cases hf
          exact zr_lv [0, 1, 2] rfl hj24
        · rw [if_neg hc] at hf
          refine zr_aload_n 0 dX12_asksOn_74 rfl ?_
          replace hf := zb1_s hf
          obtain ⟨v33, h34, hf⟩ := hf
          refine zr_get (zm_gR_g h34) zk12 (by decide) zl_777 dX12_asksOn_75 ?_
          refine zr_aload_n 0 dX12_asksOn_78 rfl ?_
          replace hf := zb1_s hf
          obtain ⟨v35, h36, hf⟩ := hf
          refine zr_get (zm_gR_g h36) zk12 (by decide) zl_777 dX12_asksOn_79 ?_
          refine zr_iload_n 2 dX12_asksOn_82 rfl ?_
          replace hf := zb1_s hf
          obtain ⟨v37, h38, hf⟩ := hf
          refine zr_iald h38 dX12_asksOn_83 ?_
          refine zr_iconst (-1) dX12_asksOn_84 (by decide) ?_
          replace hf := zb1_s hf
          obtain ⟨m39, h40, hf⟩ := hf
          refine zr_iast h40 dX12_asksOn_85 ?_
          cases hf
          exact zr_lv [0, 1, 2] rfl hj24
      refine zr_icmp_eq 64 dX12_asksOn_46 (by decide) (fun hc => ?_) (fun hc => ?_)
      · rw [if_pos hc] at hf
        exact zr_lv [1, 2, 0] rfl (hb41 () hf)
      · rw [if_neg hc] at hf
        refine zr_aload_n 1 dX12_asksOn_49 rfl ?_
        refine zr_iload_n 0 dX12_asksOn_50 rfl ?_
        refine zr_iload_n 2 dX12_asksOn_51 rfl ?_
        refine zr_aload_n 1 dX12_asksOn_52 rfl ?_
        replace hf := zb1_s hf
        obtain ⟨v42, h43, hf⟩ := hf
        refine zr_get (zm_gR_g h43) zk12 (by decide) zl_777 dX12_asksOn_53 ?_
        refine zr_iload_n 0 dX12_asksOn_56 rfl ?_
        replace hf := zb1_s hf
        obtain ⟨v44, h45, hf⟩ := hf
        refine zr_iald h45 dX12_asksOn_57 ?_
        replace hf := zb1_s hf
        obtain ⟨v47, h46, hf⟩ := hf
        refine zr_callV (ci := 12) [.int s5, .int x1, .int v44] (cX12_isNearer_ok h46) zvs_X12_isNearer zl_1183 zl_1184 (fX12_isNearer_ck h46) rfl rfl zl_1182 rfl (Nat.le_of_ble_eq_true rfl) (Nat.le_of_ble_eq_true rfl) (Nat.le_of_ble_eq_true rfl) (Nat.le_of_ble_eq_true rfl) dX12_asksOn_58 rfl ?_
        refine zr_if_eq 100 dX12_asksOn_61 (by decide) (fun hc => ?_) (fun hc => ?_)
        · rw [if_pos hc] at hf
          cases hf
          exact zr_lv [] rfl hj18
        · rw [if_neg hc] at hf
          exact zr_lv [1, 2, 0] rfl (hb41 () hf)
    · rw [if_pos hc] at hf
      refine zr_iconst 0 dX12_asksOn_25 (by decide) ?_
      cases hf
      exact zr_zret rfl dX12_asksOn_26
  clear hf
  have hf := hg
  clear hg
  refine zr_icmp_ne 18 dX12_asksOn_7 (by decide) (fun hc => ?_) (fun hc => ?_)
  · rw [if_neg hc] at hf
    refine zr_iconst (-1) dX12_asksOn_18 (by decide) ?_
    cases hf
    exact zr_lv [0, 1] rfl hj6
  · rw [if_pos hc] at hf
    refine zr_aload_n 0 dX12_asksOn_10 rfl ?_
    refine zr_iload_n 1 dX12_asksOn_11 rfl ?_
    replace hf := zb1_s hf
    obtain ⟨v49, h48, hf⟩ := hf
    refine zr_callV (ci := 12) [.int x1] (cX12_nextFor_ok h48) zvs_X12_nextFor zl_1187 zl_1188 (fX12_nextFor_ck h48) rfl rfl zl_1186 rfl (Nat.le_of_ble_eq_true rfl) (Nat.le_of_ble_eq_true rfl) (Nat.le_of_ble_eq_true rfl) (Nat.le_of_ble_eq_true rfl) dX12_asksOn_12 rfl ?_
    refine zr_goto 19 dX12_asksOn_15 (by decide) ?_
    cases hf
    exact zr_lv [0, 1] rfl hj6
theorem zl_1189 : Cond.code yX12_asksOn cX12_asksOn 3 (some .boolean) ∈ zt := zt_at 2005 (by decide +kernel)
theorem zvs_X12_asksOn : zvS yX12_asksOn cX12_asksOn 3 (some .boolean) 1 := ⟨zl_1189, zl_782, ⟨by decide +kernel, by decide +kernel, by decide +kernel⟩, by decide⟩
theorem zl_1190 : Cond.methodLink RX12 520 yX12_asksOn ∈ zt := zt_at 2002 (by decide +kernel)
theorem zl_1191 : Cond.instanceMethod yX12_asksOn ∈ zt := zt_at 2004 (by decide +kernel)
theorem zl_1192 : Cond.selects RX12 yX12_asksOn yX12_asksOn ∈ zt := zt_at 124 (by decide +kernel)
theorem dX12_matched_0 : decode cX12_matched 0 = .ok (.aload_n 0, 1) := by decide +kernel
theorem dX12_matched_1 : decode cX12_matched 1 = .ok (.iconst 0, 1) := by decide +kernel
theorem dX12_matched_2 : decode cX12_matched 2 = .ok (.putfield 93, 3) := by decide +kernel
theorem dX12_matched_5 : decode cX12_matched 5 = .ok (.aload_n 0, 1) := by decide +kernel
theorem dX12_matched_6 : decode cX12_matched 6 = .ok (.iload_n 1, 1) := by decide +kernel
theorem dX12_matched_7 : decode cX12_matched 7 = .ok (.invokevirtual 298, 3) := by decide +kernel
theorem dX12_matched_10 : decode cX12_matched 10 = .ok (.ifCond .eq 11, 3) := by decide +kernel
theorem dX12_matched_13 : decode cX12_matched 13 = .ok (.aload_n 0, 1) := by decide +kernel
theorem dX12_matched_14 : decode cX12_matched 14 = .ok (.iload_n 2, 1) := by decide +kernel
theorem dX12_matched_15 : decode cX12_matched 15 = .ok (.invokevirtual 301, 3) := by decide +kernel
theorem dX12_matched_18 : decode cX12_matched 18 = .ok (.ifCond .ne 5, 3) := by decide +kernel
theorem dX12_matched_21 : decode cX12_matched 21 = .ok (.iconst (-1), 1) := by decide +kernel
theorem dX12_matched_22 : decode cX12_matched 22 = .ok (.ireturn, 1) := by decide +kernel
theorem dX12_matched_23 : decode cX12_matched 23 = .ok (.iconst 0, 1) := by decide +kernel
theorem dX12_matched_24 : decode cX12_matched 24 = .ok (.istore_n 3, 1) := by decide +kernel
theorem dX12_matched_25 : decode cX12_matched 25 = .ok (.iload_n 3, 1) := by decide +kernel
theorem dX12_matched_26 : decode cX12_matched 26 = .ok (.bipush 6, 2) := by decide +kernel
theorem dX12_matched_28 : decode cX12_matched 28 = .ok (.if_icmp .ge 23, 3) := by decide +kernel
theorem dX12_matched_31 : decode cX12_matched 31 = .ok (.aload_n 0, 1) := by decide +kernel
theorem dX12_matched_32 : decode cX12_matched 32 = .ok (.getfield 83, 3) := by decide +kernel
theorem dX12_matched_35 : decode cX12_matched 35 = .ok (.iload_n 3, 1) := by decide +kernel
theorem dX12_matched_36 : decode cX12_matched 36 = .ok (.iconst (-1), 1) := by decide +kernel
theorem dX12_matched_37 : decode cX12_matched 37 = .ok (.iastore, 1) := by decide +kernel
theorem dX12_matched_38 : decode cX12_matched 38 = .ok (.aload_n 0, 1) := by decide +kernel
theorem dX12_matched_39 : decode cX12_matched 39 = .ok (.getfield 86, 3) := by decide +kernel
theorem dX12_matched_42 : decode cX12_matched 42 = .ok (.iload_n 3, 1) := by decide +kernel
theorem dX12_matched_43 : decode cX12_matched 43 = .ok (.iconst 0, 1) := by decide +kernel
theorem dX12_matched_44 : decode cX12_matched 44 = .ok (.iastore, 1) := by decide +kernel
theorem dX12_matched_45 : decode cX12_matched 45 = .ok (.iinc 3 1, 3) := by decide +kernel
theorem dX12_matched_48 : decode cX12_matched 48 = .ok (.goto (-23), 3) := by decide +kernel
theorem dX12_matched_51 : decode cX12_matched 51 = .ok (.iconst 1, 1) := by decide +kernel
theorem dX12_matched_52 : decode cX12_matched 52 = .ok (.istore_n 3, 1) := by decide +kernel
theorem dX12_matched_53 : decode cX12_matched 53 = .ok (.iload_n 3, 1) := by decide +kernel
theorem dX12_matched_54 : decode cX12_matched 54 = .ok (.ifCond .eq 67, 3) := by decide +kernel
theorem dX12_matched_57 : decode cX12_matched 57 = .ok (.iconst 0, 1) := by decide +kernel
theorem dX12_matched_58 : decode cX12_matched 58 = .ok (.istore_n 3, 1) := by decide +kernel
theorem dX12_matched_59 : decode cX12_matched 59 = .ok (.iconst 0, 1) := by decide +kernel
theorem dX12_matched_60 : decode cX12_matched 60 = .ok (.istore 4, 2) := by decide +kernel
theorem dX12_matched_62 : decode cX12_matched 62 = .ok (.iload 4, 2) := by decide +kernel
theorem dX12_matched_64 : decode cX12_matched 64 = .ok (.aload_n 0, 1) := by decide +kernel
theorem dX12_matched_65 : decode cX12_matched 65 = .ok (.getfield 276, 3) := by decide +kernel
theorem dX12_matched_68 : decode cX12_matched 68 = .ok (.if_icmp .ge 50, 3) := by decide +kernel
theorem dX12_matched_71 : decode cX12_matched 71 = .ok (.aload_n 0, 1) := by decide +kernel
theorem dX12_matched_72 : decode cX12_matched 72 = .ok (.iload 4, 2) := by decide +kernel
theorem dX12_matched_74 : decode cX12_matched 74 = .ok (.iconst 0, 1) := by decide +kernel
theorem dX12_matched_75 : decode cX12_matched 75 = .ok (.invokevirtual 391, 3) := by decide +kernel
theorem dX12_matched_78 : decode cX12_matched 78 = .ok (.ifCond .eq 16, 3) := by decide +kernel
theorem dX12_matched_81 : decode cX12_matched 81 = .ok (.aload_n 0, 1) := by decide +kernel
theorem dX12_matched_82 : decode cX12_matched 82 = .ok (.iload 4, 2) := by decide +kernel
theorem dX12_matched_84 : decode cX12_matched 84 = .ok (.invokevirtual 520, 3) := by decide +kernel
theorem dX12_matched_87 : decode cX12_matched 87 = .ok (.ifCond .eq 7, 3) := by decide +kernel
theorem dX12_matched_90 : decode cX12_matched 90 = .ok (.iconst 1, 1) := by decide +kernel
theorem dX12_matched_91 : decode cX12_matched 91 = .ok (.goto 4, 3) := by decide +kernel
theorem dX12_matched_94 : decode cX12_matched 94 = .ok (.iconst 0, 1) := by decide +kernel
theorem dX12_matched_95 : decode cX12_matched 95 = .ok (.istore 5, 2) := by decide +kernel
theorem dX12_matched_97 : decode cX12_matched 97 = .ok (.iload_n 3, 1) := by decide +kernel
theorem dX12_matched_98 : decode cX12_matched 98 = .ok (.ifCond .ne 8, 3) := by decide +kernel
theorem dX12_matched_101 : decode cX12_matched 101 = .ok (.iload 5, 2) := by decide +kernel
theorem dX12_matched_103 : decode cX12_matched 103 = .ok (.ifCond .eq 7, 3) := by decide +kernel
theorem dX12_matched_106 : decode cX12_matched 106 = .ok (.iconst 1, 1) := by decide +kernel
theorem dX12_matched_107 : decode cX12_matched 107 = .ok (.goto 4, 3) := by decide +kernel
theorem dX12_matched_110 : decode cX12_matched 110 = .ok (.iconst 0, 1) := by decide +kernel
theorem dX12_matched_111 : decode cX12_matched 111 = .ok (.istore_n 3, 1) := by decide +kernel
theorem dX12_matched_112 : decode cX12_matched 112 = .ok (.iinc 4 1, 3) := by decide +kernel
theorem dX12_matched_115 : decode cX12_matched 115 = .ok (.goto (-53), 3) := by decide +kernel
theorem dX12_matched_118 : decode cX12_matched 118 = .ok (.goto (-65), 3) := by decide +kernel
theorem dX12_matched_121 : decode cX12_matched 121 = .ok (.aload_n 0, 1) := by decide +kernel
theorem dX12_matched_122 : decode cX12_matched 122 = .ok (.getfield 83, 3) := by decide +kernel
theorem dX12_matched_125 : decode cX12_matched 125 = .ok (.iload_n 2, 1) := by decide +kernel
theorem dX12_matched_126 : decode cX12_matched 126 = .ok (.iaload, 1) := by decide +kernel
theorem dX12_matched_127 : decode cX12_matched 127 = .ok (.ireturn, 1) := by decide +kernel
def fX12_matched_l25 (x0 : Nat) (F10 : Int32 → zM → Option (zM)) (x3_8 : Int32) (m9 : zM) : Option (zM) :=
  if 6 ≤ x3_8 then (
  some m9)
  else (
  zb1 (zm_gR m9 12 x0 51) fun v14 =>
  zb1 (zm_sI m9 0 v14 x3_8 (-1)) fun m16 =>
  zb1 (zm_gR m16 12 x0 52) fun v18 =>
  zb1 (zm_sI m16 0 v18 x3_8 0) fun m20 =>
  F10 (x3_8 + 1) m20)
def fX12_matched_b94xxx (m44 : zM) : Option (Int32 × zM) :=
  some (0, m44)
def fX12_matched_l62x (x0 : Nat) (F32 : Int32 → Int32 → zM → Option (Int32 × zM)) (x3_29 : Int32) (x4_30 : Int32) (m31 : zM) : Option (Int32 × zM) :=
  zb1 (zm_gI m31 12 x0 25) fun v37 =>
  if v37 ≤ x4_30 then (
  some (x3_29, m31))
  else (
  zb1 (fX12_isKind m31 x0 x4_30 0) fun v40 =>
  zb2 (if v40 = 0 then (
  fX12_matched_b94xxx m31)
  else (
  zb2 (fX12_asksOn m31 x0 x4_30) fun v50 m49 =>
  if v50 = 0 then (
  fX12_matched_b94xxx m49)
  else (
  some (1, m49)))) fun s41 m42 =>
  zb1 (if x3_29 = 0 then (
  if s41 = 0 then (
  some 0)
  else (
  some 1))
  else (
  some 1)) fun s46 =>
  F32 s46 (x4_30 + 1) m42)
def fX12_matched_l53 (x0 : Nat) (F25 : Int32 → zM → Option (zM)) (x3_23 : Int32) (m24 : zM) : Option (zM) :=
  if x3_23 = 0 then (
  some m24)
  else (
  zb2 (zf3 (fX12_matched_l62x x0) zfu 0 0 m24) fun x3_34 m35 =>
  F25 x3_34 m35)
def fX12_matched (μ : zM) (x0 : Nat) (x1 : Int32) (x2 : Int32) : Option (Int32 × zM) := zgd (zm_ck μ 12 x0) <|
  zb1 (zm_p μ 12 x0 0 (.int 0)) fun m1 =>
  zb2 (fX12_hand m1 x0 x1) fun v5 m4 =>
  if v5 = 0 then (
  some ((-1), m4))
  else (
  zb1 (fX12_isPerson m4 x0 x2) fun v7 =>
  if v7 = 0 then (
  some ((-1), m4))
  else (
  zb1 (zf2 (fX12_matched_l25 x0) zfu 0 m4) fun m12 =>
  zb1 (zf2 (fX12_matched_l53 x0) zfu 1 m12) fun m27 =>
  zb1 (zm_gR m27 12 x0 51) fun v53 =>
  zb1 (zm_aI m27 0 v53 x2) fun v55 =>
  some (v55, m27)))
theorem fX12_matched_ck {μ : zM} {x0 : Nat} {x1 : Int32} {x2 : Int32} {z : Int32 × zM} (h : fX12_matched μ x0 x1 x2 = some z) : zm_ck μ 12 x0 = true := (zgd_s h).1
set_option maxHeartbeats 4000000 in
set_option maxRecDepth 100000 in
theorem cX12_matched_ok {μ : zM} {x0 : Nat} {x1 : Int32} {x2 : Int32} {r : Int32} {mo : zM} (hf : fX12_matched μ x0 x1 x2 = some (r, mo)) : zC yX12_matched cX12_matched 6 (some .int) 5 0 0 [.ref x0, .int x1, .int x2] μ (some (.int r)) mo := by
  replace hf := (zgd_s hf).2
  refine zC.of (by decide) (Nat.le_of_ble_eq_true rfl) (fun K hin => ?_)
  clear hin
  show zz K cX12_matched (6, RX12, some .int, 5, 0, 0, some (.int r), mo) 0 0 0 [(0, .ref x0), (1, .int x1), (2, .int x2)] [] μ
  refine zr_aload_n 0 dX12_matched_0 rfl ?_
  refine zr_iconst 0 dX12_matched_1 (by decide) ?_
  replace hf := zb1_s hf
  obtain ⟨m1, h2, hf⟩ := hf
  refine zr_put h2 zk12 (by decide) zl_788 rfl rfl rfl dX12_matched_2 ?_
  refine zr_aload_n 0 dX12_matched_5 rfl ?_
  refine zr_iload_n 1 dX12_matched_6 rfl ?_
  replace hf := zb2_s hf
  obtain ⟨v5, m4, h3, hf⟩ := hf
  refine zr_callV (ci := 12) [.int x1] (cX12_hand_ok h3) zvs_X12_hand zl_946 zl_947 (fX12_hand_ck h3) rfl rfl zl_945 rfl (Nat.le_of_ble_eq_true rfl) (Nat.le_of_ble_eq_true rfl) (Nat.le_of_ble_eq_true rfl) (Nat.le_of_ble_eq_true rfl) dX12_matched_7 rfl ?_
  refine zr_if_eq 21 dX12_matched_10 (by decide) (fun hc => ?_) (fun hc => ?_)
  · rw [if_pos hc] at hf
    refine zr_iconst (-1) dX12_matched_21 (by decide) ?_
    cases hf
    exact zr_iret dX12_matched_22
  · rw [if_neg hc] at hf
    refine zr_aload_n 0 dX12_matched_13 rfl ?_
    refine zr_iload_n 2 dX12_matched_14 rfl ?_
    replace hf := zb1_s hf
    obtain ⟨v7, h6, hf⟩ := hf
    refine zr_callV (ci := 12) [.int x2] (cX12_isPerson_ok h6) zvs_X12_isPerson zl_950 zl_951 (fX12_isPerson_ck h6) rfl rfl zl_949 rfl (Nat.le_of_ble_eq_true rfl) (Nat.le_of_ble_eq_true rfl) (Nat.le_of_ble_eq_true rfl) (Nat.le_of_ble_eq_true rfl) dX12_matched_15 rfl ?_
    refine zr_if_ne 23 dX12_matched_18 (by decide) (fun hc => ?_) (fun hc => ?_)
    · rw [if_neg hc] at hf
      refine zr_iconst 0 dX12_matched_23 (by decide) ?_
      refine zr_istore_n [(3, .int 0), (0, .ref x0), (1, .int x1), (2, .int x2)] dX12_matched_24 (Nat.le_of_ble_eq_true rfl) rfl ?_
      replace hf := zb1_s hf
      obtain ⟨m12, hg, hf⟩ := hf
      have hj13 : zz K cX12_matched (6, RX12, some .int, 5, 0, 0, some (.int r), mo) 0 0 51 [(0, .ref x0), (2, .int x2)] [] m12 := by
        refine zr_iconst 1 dX12_matched_51 (by decide) ?_
        refine zr_istore_n [(3, .int 1), (0, .ref x0), (2, .int x2)] dX12_matched_52 (Nat.le_of_ble_eq_true rfl) rfl ?_
        replace hf := zb1_s hf
        obtain ⟨m27, hg, hf⟩ := hf
        have hj28 : zz K cX12_matched (6, RX12, some .int, 5, 0, 0, some (.int r), mo) 0 0 121 [(0, .ref x0), (2, .int x2)] [] m27 := by
          refine zr_aload_n 0 dX12_matched_121 rfl ?_
          replace hf := zb1_s hf
          obtain ⟨v53, h54, hf⟩ := hf
          refine zr_get (zm_gR_g h54) zk12 (by decide) zl_777 dX12_matched_122 ?_
          refine zr_iload_n 1 dX12_matched_125 rfl ?_
          replace hf := zb1_s hf
          obtain ⟨v55, h56, hf⟩ := hf
          refine zr_iald h56 dX12_matched_126 ?_
          cases hf
          exact zr_iret dX12_matched_127
        clear hf
        have hf := hg
        clear hg
        have hL52 : ∀ (n : Nat) (x3_23 : Int32) (m24 : zM), zf2 (fX12_matched_l53 x0) n x3_23 m24 = some m27 → zz K cX12_matched (6, RX12, some .int, 5, 0, 0, some (.int r), mo) 0 0 53 [(0, .ref x0), (2, .int x2), (3, .int x3_23)] [] m24 := by
          intro n
          induction n with
          | zero => intro x3_23 m24 hf; cases hf
          | succ n ih26 =>
            intro x3_23 m24 hf
            replace hf := zf2_s hf
            generalize zf2 (fX12_matched_l53 x0) n = F25 at hf ih26
            unfold fX12_matched_l53 at hf
            refine zr_iload_n 2 dX12_matched_53 rfl ?_
            refine zr_if_eq 121 dX12_matched_54 (by decide) (fun hc => ?_) (fun hc => ?_)
            · rw [if_pos hc] at hf
              cases hf
              exact zr_lv [0, 1] rfl hj28
            · rw [if_neg hc] at hf
              refine zr_iconst 0 dX12_matched_57 (by decide) ?_
              refine zr_istore_n [(3, .int 0), (0, .ref x0), (2, .int x2)] dX12_matched_58 (Nat.le_of_ble_eq_true rfl) rfl ?_
              refine zr_iconst 0 dX12_matched_59 (by decide) ?_
              refine zr_istore [(4, .int 0), (3, .int 0), (0, .ref x0), (2, .int x2)] dX12_matched_60 (Nat.le_of_ble_eq_true rfl) rfl ?_
              replace hf := zb2_s hf
              obtain ⟨x3_34, m35, hg, hf⟩ := hf
              have hj36 : zz K cX12_matched (6, RX12, some .int, 5, 0, 0, some (.int r), mo) 0 0 118 [(0, .ref x0), (2, .int x2), (3, .int x3_34)] [] m35 := by
                refine zr_goto 53 dX12_matched_118 (by decide) ?_
                exact zr_lv [0, 1, 2] rfl (ih26 x3_34 m35 hf)
              clear hf
              have hf := hg
              clear hg
              have hL51 : ∀ (n : Nat) (x3_29 : Int32) (x4_30 : Int32) (m31 : zM), zf3 (fX12_matched_l62x x0) n x3_29 x4_30 m31 = some (x3_34, m35) → zz K cX12_matched (6, RX12, some .int, 5, 0, 0, some (.int r), mo) 0 0 62 [(0, .ref x0), (2, .int x2), (3, .int x3_29), (4, .int x4_30)] [] m31 := by
                intro n
                induction n with
                | zero => intro x3_29 x4_30 m31 hf; cases hf
                | succ n ih33 =>
                  intro x3_29 x4_30 m31 hf
                  replace hf := zf3_s hf
                  generalize zf3 (fX12_matched_l62x x0) n = F32 at hf ih33
                  unfold fX12_matched_l62x at hf
                  refine zr_iload 3 dX12_matched_62 rfl ?_
                  refine zr_aload_n 0 dX12_matched_64 rfl ?_
                  replace hf := zb1_s hf
                  obtain ⟨v37, h38, hf⟩ := hf
                  refine zr_get (zm_gI_g h38) zk12 (by decide) zl_921 dX12_matched_65 ?_
                  refine zr_icmp_ge 118 dX12_matched_68 (by decide) (fun hc => ?_) (fun hc => ?_)
                  · rw [if_pos hc] at hf
                    cases hf
                    exact zr_lv [0, 1, 2] rfl hj36
                  · rw [if_neg hc] at hf
                    refine zr_aload_n 0 dX12_matched_71 rfl ?_
                    refine zr_iload 3 dX12_matched_72 rfl ?_
                    refine zr_iconst 0 dX12_matched_74 (by decide) ?_
                    replace hf := zb1_s hf
                    obtain ⟨v40, h39, hf⟩ := hf
                    refine zr_callV (ci := 12) [.int x4_30, .int 0] (cX12_isKind_ok h39) zvs_X12_isKind zl_1046 zl_1047 (fX12_isKind_ck h39) rfl rfl zl_1045 rfl (Nat.le_of_ble_eq_true rfl) (Nat.le_of_ble_eq_true rfl) (Nat.le_of_ble_eq_true rfl) (Nat.le_of_ble_eq_true rfl) dX12_matched_75 rfl ?_
                    replace hf := zb2_s hf
                    obtain ⟨s41, m42, hg, hf⟩ := hf
                    have hj43 : zz K cX12_matched (6, RX12, some .int, 5, 0, 0, some (.int r), mo) 0 0 95 [(0, .ref x0), (2, .int x2), (3, .int x3_29), (4, .int x4_30)] [.int s41] m42 := by
                      refine zr_istore [(5, .int s41), (0, .ref x0), (2, .int x2), (3, .int x3_29), (4, .int x4_30)] dX12_matched_95 (Nat.le_of_ble_eq_true rfl) rfl ?_
                      refine zr_iload_n 3 dX12_matched_97 rfl ?_
                      replace hf := zb1_s hf
                      obtain ⟨s46, hg, hf⟩ := hf
                      have hj47 : zz K cX12_matched (6, RX12, some .int, 5, 0, 0, some (.int r), mo) 0 0 111 [(0, .ref x0), (2, .int x2), (4, .int x4_30)] [.int s46] m42 := by
                        refine zr_istore_n [(3, .int s46), (0, .ref x0), (2, .int x2), (4, .int x4_30)] dX12_matched_111 (Nat.le_of_ble_eq_true rfl) rfl ?_
                        refine zr_iinc (j := 3) (x4_30 + 1) [(4, .int (x4_30 + 1)), (3, .int s46), (0, .ref x0), (2, .int x2)] dX12_matched_112 rfl rfl (Nat.le_of_ble_eq_true rfl) rfl ?_
                        refine zr_goto 62 dX12_matched_115 (by decide) ?_
                        exact zr_lv [2, 3, 1, 0] rfl (ih33 s46 (x4_30 + 1) m42 hf)
                      clear hf
                      have hf := hg
                      clear hg
                      refine zr_if_ne 106 dX12_matched_98 (by decide) (fun hc => ?_) (fun hc => ?_)
                      · rw [if_neg hc] at hf
                        refine zr_iconst 1 dX12_matched_106 (by decide) ?_
                        refine zr_goto 111 dX12_matched_107 (by decide) ?_
                        cases hf
                        exact zr_lv [1, 2, 4] rfl hj47
                      · rw [if_pos hc] at hf
                        refine zr_iload 0 dX12_matched_101 rfl ?_
                        refine zr_if_eq 110 dX12_matched_103 (by decide) (fun hc => ?_) (fun hc => ?_)
                        · rw [if_pos hc] at hf
                          refine zr_iconst 0 dX12_matched_110 (by decide) ?_
                          cases hf
                          exact zr_lv [1, 2, 4] rfl hj47
                        · rw [if_neg hc] at hf
                          refine zr_iconst 1 dX12_matched_106 (by decide) ?_
                          refine zr_goto 111 dX12_matched_107 (by decide) ?_
                          cases hf
                          exact zr_lv [1, 2, 4] rfl hj47
                    clear hf
                    have hf := hg
                    clear hg
                    have hb45 : ∀ (m44 : zM), fX12_matched_b94xxx m44 = some (s41, m42) → zz K cX12_matched (6, RX12, some .int, 5, 0, 0, some (.int r), mo) 0 0 94 [(0, .ref x0), (2, .int x2), (3, .int x3_29), (4, .int x4_30)] [] m44 := by
                      intro m44 hf
                      unfold fX12_matched_b94xxx at hf
                      refine zr_iconst 0 dX12_matched_94 (by decide) ?_
                      cases hf
                      exact zr_lv [0, 1, 2, 3] rfl hj43
                    refine zr_if_eq 94 dX12_matched_78 (by decide) (fun hc => ?_) (fun hc => ?_)
                    · rw [if_pos hc] at hf
                      exact zr_lv [0, 1, 2, 3] rfl (hb45 m31 hf)
                    · rw [if_neg hc] at hf
                      refine zr_aload_n 0 dX12_matched_81 rfl ?_
                      refine zr_iload 3 dX12_matched_82 rfl ?_
                      replace hf := zb2_s hf
                      obtain ⟨v50, m49, h48, hf⟩ := hf
                      refine zr_callV (ci := 12) [.int x4_30] (cX12_asksOn_ok h48) zvs_X12_asksOn zl_1191 zl_1192 (fX12_asksOn_ck h48) rfl rfl zl_1190 rfl (Nat.le_of_ble_eq_true rfl) (Nat.le_of_ble_eq_true rfl) (Nat.le_of_ble_eq_true rfl) (Nat.le_of_ble_eq_true rfl) dX12_matched_84 rfl ?_
                      refine zr_if_eq 94 dX12_matched_87 (by decide) (fun hc => ?_) (fun hc => ?_)
                      · rw [if_pos hc] at hf
                        exact zr_lv [0, 1, 2, 3] rfl (hb45 m49 hf)
                      · rw [if_neg hc] at hf
                        refine zr_iconst 1 dX12_matched_90 (by decide) ?_
                        refine zr_goto 95 dX12_matched_91 (by decide) ?_
                        cases hf
                        exact zr_lv [0, 1, 2, 3] rfl hj43
              exact zr_lv [2, 3, 1, 0] rfl (hL51 _ 0 0 m24 hf)
        exact zr_lv [1, 2, 0] rfl (hL52 _ 1 m12 hf)
      clear hf
      have hf := hg
      clear hg
      have hL22 : ∀ (n : Nat) (x3_8 : Int32) (m9 : zM), zf2 (fX12_matched_l25 x0) n x3_8 m9 = some m12 → zz K cX12_matched (6, RX12, some .int, 5, 0, 0, some (.int r), mo) 0 0 25 [(0, .ref x0), (2, .int x2), (3, .int x3_8)] [] m9 := by
        intro n
        induction n with
        | zero => intro x3_8 m9 hf; cases hf
        | succ n ih11 =>
          intro x3_8 m9 hf
          replace hf := zf2_s hf
          generalize zf2 (fX12_matched_l25 x0) n = F10 at hf ih11
          unfold fX12_matched_l25 at hf
          refine zr_iload_n 2 dX12_matched_25 rfl ?_
          refine zr_bipush 6 dX12_matched_26 (by decide) ?_
          refine zr_icmp_ge 51 dX12_matched_28 (by decide) (fun hc => ?_) (fun hc => ?_)
          · rw [if_pos hc] at hf
            cases hf
            exact zr_lv [0, 1] rfl hj13
          · rw [if_neg hc] at hf
            refine zr_aload_n 0 dX12_matched_31 rfl ?_
            replace hf := zb1_s hf
            obtain ⟨v14, h15, hf⟩ := hf
            refine zr_get (zm_gR_g h15) zk12 (by decide) zl_777 dX12_matched_32 ?_
            refine zr_iload_n 2 dX12_matched_35 rfl ?_
            refine zr_iconst (-1) dX12_matched_36 (by decide) ?_
            replace hf := zb1_s hf
            obtain ⟨m16, h17, hf⟩ := hf
            refine zr_iast h17 dX12_matched_37 ?_
            refine zr_aload_n 0 dX12_matched_38 rfl ?_
            replace hf := zb1_s hf
            obtain ⟨v18, h19, hf⟩ := hf
            refine zr_get (zm_gR_g h19) zk12 (by decide) zl_778 dX12_matched_39 ?_
            refine zr_iload_n 2 dX12_matched_42 rfl ?_
            refine zr_iconst 0 dX12_matched_43 (by decide) ?_
            replace hf := zb1_s hf
            obtain ⟨m20, h21, hf⟩ := hf
            refine zr_iast h21 dX12_matched_44 ?_
            refine zr_iinc (j := 2) (x3_8 + 1) [(3, .int (x3_8 + 1)), (0, .ref x0), (2, .int x2)] dX12_matched_45 rfl rfl (Nat.le_of_ble_eq_true rfl) rfl ?_
            refine zr_goto 25 dX12_matched_48 (by decide) ?_
            exact zr_lv [1, 2, 0] rfl (ih11 (x3_8 + 1) m20 hf)
      exact zr_lv [1, 3, 0] rfl (hL22 _ 0 m4 hf)
    · rw [if_pos hc] at hf
      refine zr_iconst (-1) dX12_matched_21 (by decide) ?_
      cases hf
      exact zr_iret dX12_matched_22
theorem dX12_count_0 : decode cX12_count 0 = .ok (.aload_n 0, 1) := by decide +kernel
theorem dX12_count_1 : decode cX12_count 1 = .ok (.iconst 0, 1) := by decide +kernel
theorem dX12_count_2 : decode cX12_count 2 = .ok (.putfield 93, 3) := by decide +kernel
theorem dX12_count_5 : decode cX12_count 5 = .ok (.iload_n 1, 1) := by decide +kernel
theorem dX12_count_6 : decode cX12_count 6 = .ok (.iconst 0, 1) := by decide +kernel
theorem dX12_count_7 : decode cX12_count 7 = .ok (.iconst 3, 1) := by decide +kernel
theorem dX12_count_8 : decode cX12_count 8 = .ok (.invokestatic 101, 3) := by decide +kernel
theorem dX12_count_11 : decode cX12_count 11 = .ok (.ifCond .eq 12, 3) := by decide +kernel
theorem dX12_count_14 : decode cX12_count 14 = .ok (.aload_n 0, 1) := by decide +kernel
theorem dX12_count_15 : decode cX12_count 15 = .ok (.getfield 23, 3) := by decide +kernel
theorem dX12_count_18 : decode cX12_count 18 = .ok (.iload_n 1, 1) := by decide +kernel
theorem dX12_count_19 : decode cX12_count 19 = .ok (.iaload, 1) := by decide +kernel
theorem dX12_count_20 : decode cX12_count 20 = .ok (.goto 5, 3) := by decide +kernel
theorem dX12_count_23 : decode cX12_count 23 = .ok (.bipush (-2), 2) := by decide +kernel
theorem dX12_count_25 : decode cX12_count 25 = .ok (.ireturn, 1) := by decide +kernel
def fX12_count (μ : zM) (x0 : Nat) (x1 : Int32) : Option (Int32 × zM) := zgd (zm_ck μ 12 x0) <|
  zb1 (zm_p μ 12 x0 0 (.int 0)) fun m1 =>
  zb1 (fX12_in m1 x1 0 3) fun v4 =>
  zb1 (if v4 = 0 then (
  some (-2))
  else (
  zb1 (zm_gR m1 12 x0 5) fun v7 =>
  zb1 (zm_aI m1 0 v7 x1) fun v9 =>
  some v9)) fun s5 =>
  some (s5, m1)
theorem fX12_count_ck {μ : zM} {x0 : Nat} {x1 : Int32} {z : Int32 × zM} (h : fX12_count μ x0 x1 = some z) : zm_ck μ 12 x0 = true := (zgd_s h).1
set_option maxHeartbeats 4000000 in
set_option maxRecDepth 100000 in
theorem cX12_count_ok {μ : zM} {x0 : Nat} {x1 : Int32} {r : Int32} {mo : zM} (hf : fX12_count μ x0 x1 = some (r, mo)) : zC yX12_count cX12_count 2 (some .int) 1 0 0 [.ref x0, .int x1] μ (some (.int r)) mo := by
  replace hf := (zgd_s hf).2
  refine zC.of (by decide) (Nat.le_of_ble_eq_true rfl) (fun K hin => ?_)
  clear hin
  show zz K cX12_count (2, RX12, some .int, 1, 0, 0, some (.int r), mo) 0 0 0 [(0, .ref x0), (1, .int x1)] [] μ
  refine zr_aload_n 0 dX12_count_0 rfl ?_
  refine zr_iconst 0 dX12_count_1 (by decide) ?_
  replace hf := zb1_s hf
  obtain ⟨m1, h2, hf⟩ := hf
  refine zr_put h2 zk12 (by decide) zl_788 rfl rfl rfl dX12_count_2 ?_
  refine zr_iload_n 1 dX12_count_5 rfl ?_
  refine zr_iconst 0 dX12_count_6 (by decide) ?_
  refine zr_iconst 3 dX12_count_7 (by decide) ?_
  replace hf := zb1_s hf
  obtain ⟨v4, h3, hf⟩ := hf
  refine zr_callS [.int x1, .int 0, .int 3] (cX12_in_ok h3) zvs_X12_in zl_787 zl_786 rfl (Nat.le_of_ble_eq_true rfl) (Nat.le_of_ble_eq_true rfl) (Nat.le_of_ble_eq_true rfl) (Nat.le_of_ble_eq_true rfl) dX12_count_8 rfl ?_
  replace hf := zb1_s hf
  obtain ⟨s5, hg, hf⟩ := hf
  have hj6 : zz K cX12_count (2, RX12, some .int, 1, 0, 0, some (.int r), mo) 0 0 25 [] [.int s5] m1 := by
    cases hf
    exact zr_iret dX12_count_25
  clear hf
  have hf := hg
  clear hg
  refine zr_if_eq 23 dX12_count_11 (by decide) (fun hc => ?_) (fun hc => ?_)
  · rw [if_pos hc] at hf
    refine zr_bipush (-2) dX12_count_23 (by decide) ?_
    cases hf
    exact zr_lv [] rfl hj6
  · rw [if_neg hc] at hf
    refine zr_aload_n 0 dX12_count_14 rfl ?_
    replace hf := zb1_s hf
    obtain ⟨v7, h8, hf⟩ := hf
    refine zr_get (zm_gR_g h8) zk12 (by decide) zl_757 dX12_count_15 ?_
    refine zr_iload_n 1 dX12_count_18 rfl ?_
    replace hf := zb1_s hf
    obtain ⟨v9, h10, hf⟩ := hf
    refine zr_iald h10 dX12_count_19 ?_
    refine zr_goto 25 dX12_count_20 (by decide) ?_
    cases hf
    exact zr_lv [] rfl hj6
theorem zl_1193 : Cond.code yX12_copyAll cX12_copyAll 4 (none) ∈ zt := zt_at 2025 (by decide +kernel)
theorem zvs_X12_copyAll : zvS yX12_copyAll cX12_copyAll 4 (none) 2 := ⟨zl_1193, zl_782, ⟨by decide +kernel, by decide +kernel, by decide +kernel⟩, by decide⟩
theorem zl_1194 : Cond.methodLink RX12 523 yX12_copyAll ∈ zt := zt_at 2022 (by decide +kernel)
theorem zl_1195 : Cond.instanceMethod yX12_copyAll ∈ zt := zt_at 2024 (by decide +kernel)
theorem zl_1196 : Cond.selects RX12 yX12_copyAll yX12_copyAll ∈ zt := zt_at 127 (by decide +kernel)
theorem dX12_image_0 : decode cX12_image 0 = .ok (.aload_n 0, 1) := by decide +kernel
theorem dX12_image_1 : decode cX12_image 1 = .ok (.iconst 0, 1) := by decide +kernel
theorem dX12_image_2 : decode cX12_image 2 = .ok (.putfield 93, 3) := by decide +kernel
theorem dX12_image_5 : decode cX12_image 5 = .ok (.iload_n 1, 1) := by decide +kernel
theorem dX12_image_6 : decode cX12_image 6 = .ok (.iconst 0, 1) := by decide +kernel
theorem dX12_image_7 : decode cX12_image 7 = .ok (.iconst 2, 1) := by decide +kernel
theorem dX12_image_8 : decode cX12_image 8 = .ok (.invokestatic 101, 3) := by decide +kernel
theorem dX12_image_11 : decode cX12_image 11 = .ok (.ifCond .ne 5, 3) := by decide +kernel
theorem dX12_image_14 : decode cX12_image 14 = .ok (.iconst 0, 1) := by decide +kernel
theorem dX12_image_15 : decode cX12_image 15 = .ok (.ireturn, 1) := by decide +kernel
theorem dX12_image_16 : decode cX12_image 16 = .ok (.aload_n 0, 1) := by decide +kernel
theorem dX12_image_17 : decode cX12_image 17 = .ok (.iconst 0, 1) := by decide +kernel
theorem dX12_image_18 : decode cX12_image 18 = .ok (.iload_n 1, 1) := by decide +kernel
theorem dX12_image_19 : decode cX12_image 19 = .ok (.iconst 1, 1) := by decide +kernel
theorem dX12_image_20 : decode cX12_image 20 = .ok (.iadd, 1) := by decide +kernel
theorem dX12_image_21 : decode cX12_image 21 = .ok (.invokevirtual 523, 3) := by decide +kernel
theorem dX12_image_24 : decode cX12_image 24 = .ok (.aload_n 0, 1) := by decide +kernel
theorem dX12_image_25 : decode cX12_image 25 = .ok (.getfield 89, 3) := by decide +kernel
theorem dX12_image_28 : decode cX12_image 28 = .ok (.iload_n 1, 1) := by decide +kernel
theorem dX12_image_29 : decode cX12_image 29 = .ok (.iconst 1, 1) := by decide +kernel
theorem dX12_image_30 : decode cX12_image 30 = .ok (.bastore, 1) := by decide +kernel
theorem dX12_image_31 : decode cX12_image 31 = .ok (.iconst 1, 1) := by decide +kernel
theorem dX12_image_32 : decode cX12_image 32 = .ok (.ireturn, 1) := by decide +kernel
def fX12_image (μ : zM) (x0 : Nat) (x1 : Int32) : Option (Int32 × zM) := zgd (zm_ck μ 12 x0) <|
  zb1 (zm_p μ 12 x0 0 (.int 0)) fun m1 =>
  zb1 (fX12_in m1 x1 0 2) fun v4 =>
  if v4 = 0 then (
  some (0, m1))
  else (
  zb1 (fX12_copyAll m1 x0 0 (x1 + 1)) fun m6 =>
  zb1 (zm_gR m6 12 x0 53) fun v7 =>
  zb1 (zm_sI m6 2 v7 x1 (vp_nar .boolean 1)) fun m9 =>
  some (1, m9))
theorem fX12_image_ck {μ : zM} {x0 : Nat} {x1 : Int32} {z : Int32 × zM} (h : fX12_image μ x0 x1 = some z) : zm_ck μ 12 x0 = true := (zgd_s h).1
set_option maxHeartbeats 4000000 in
set_option maxRecDepth 100000 in
theorem cX12_image_ok {μ : zM} {x0 : Nat} {x1 : Int32} {r : Int32} {mo : zM} (hf : fX12_image μ x0 x1 = some (r, mo)) : zC yX12_image cX12_image 2 (some .boolean) 2 0 0 [.ref x0, .int x1] μ (some (.int r)) mo := by
  replace hf := (zgd_s hf).2
  refine zC.of (by decide) (Nat.le_of_ble_eq_true rfl) (fun K hin => ?_)
  clear hin
  show zz K cX12_image (2, RX12, some .boolean, 2, 0, 0, some (.int r), mo) 0 0 0 [(0, .ref x0), (1, .int x1)] [] μ
  refine zr_aload_n 0 dX12_image_0 rfl ?_
  refine zr_iconst 0 dX12_image_1 (by decide) ?_
  replace hf := zb1_s hf
  obtain ⟨m1, h2, hf⟩ := hf
  refine zr_put h2 zk12 (by decide) zl_788 rfl rfl rfl dX12_image_2 ?_
  refine zr_iload_n 1 dX12_image_5 rfl ?_
  refine zr_iconst 0 dX12_image_6 (by decide) ?_
  refine zr_iconst 2 dX12_image_7 (by decide) ?_
  replace hf := zb1_s hf
  obtain ⟨v4, h3, hf⟩ := hf
  refine zr_callS [.int x1, .int 0, .int 2] (cX12_in_ok h3) zvs_X12_in zl_787 zl_786 rfl (Nat.le_of_ble_eq_true rfl) (Nat.le_of_ble_eq_true rfl) (Nat.le_of_ble_eq_true rfl) (Nat.le_of_ble_eq_true rfl) dX12_image_8 rfl ?_
  refine zr_if_ne 16 dX12_image_11 (by decide) (fun hc => ?_) (fun hc => ?_)
  · rw [if_neg hc] at hf
    refine zr_aload_n 0 dX12_image_16 rfl ?_
    refine zr_iconst 0 dX12_image_17 (by decide) ?_
    refine zr_iload_n 1 dX12_image_18 rfl ?_
    refine zr_iconst 1 dX12_image_19 (by decide) ?_
    refine zr_iadd dX12_image_20 ?_
    replace hf := zb1_s hf
    obtain ⟨m6, h5, hf⟩ := hf
    refine zr_callV (ci := 12) [.int 0, .int (x1 + 1)] (cX12_copyAll_ok h5) zvs_X12_copyAll zl_1195 zl_1196 (fX12_copyAll_ck h5) rfl rfl zl_1194 rfl (Nat.le_of_ble_eq_true rfl) (Nat.le_of_ble_eq_true rfl) (Nat.le_of_ble_eq_true rfl) (Nat.le_of_ble_eq_true rfl) dX12_image_21 rfl ?_
    refine zr_aload_n 0 dX12_image_24 rfl ?_
    replace hf := zb1_s hf
    obtain ⟨v7, h8, hf⟩ := hf
    refine zr_get (zm_gR_g h8) zk12 (by decide) zl_780 dX12_image_25 ?_
    refine zr_iload_n 1 dX12_image_28 rfl ?_
    refine zr_iconst 1 dX12_image_29 (by decide) ?_
    replace hf := zb1_s hf
    obtain ⟨m9, h10, hf⟩ := hf
    refine zr_zast h10 dX12_image_30 ?_
    refine zr_iconst 1 dX12_image_31 (by decide) ?_
    cases hf
    exact zr_zret rfl dX12_image_32
  · rw [if_pos hc] at hf
    refine zr_iconst 0 dX12_image_14 (by decide) ?_
    cases hf
    exact zr_zret rfl dX12_image_15
theorem dX12_again_0 : decode cX12_again 0 = .ok (.aload_n 0, 1) := by decide +kernel
theorem dX12_again_1 : decode cX12_again 1 = .ok (.iconst 0, 1) := by decide +kernel
theorem dX12_again_2 : decode cX12_again 2 = .ok (.putfield 93, 3) := by decide +kernel
theorem dX12_again_5 : decode cX12_again 5 = .ok (.iload_n 1, 1) := by decide +kernel
theorem dX12_again_6 : decode cX12_again 6 = .ok (.iconst 0, 1) := by decide +kernel
theorem dX12_again_7 : decode cX12_again 7 = .ok (.iconst 2, 1) := by decide +kernel
theorem dX12_again_8 : decode cX12_again 8 = .ok (.invokestatic 101, 3) := by decide +kernel
theorem dX12_again_11 : decode cX12_again 11 = .ok (.ifCond .eq 12, 3) := by decide +kernel
theorem dX12_again_14 : decode cX12_again 14 = .ok (.aload_n 0, 1) := by decide +kernel
theorem dX12_again_15 : decode cX12_again 15 = .ok (.getfield 89, 3) := by decide +kernel
theorem dX12_again_18 : decode cX12_again 18 = .ok (.iload_n 1, 1) := by decide +kernel
theorem dX12_again_19 : decode cX12_again 19 = .ok (.baload, 1) := by decide +kernel
theorem dX12_again_20 : decode cX12_again 20 = .ok (.ifCond .ne 5, 3) := by decide +kernel
theorem dX12_again_23 : decode cX12_again 23 = .ok (.iconst 0, 1) := by decide +kernel
theorem dX12_again_24 : decode cX12_again 24 = .ok (.ireturn, 1) := by decide +kernel
theorem dX12_again_25 : decode cX12_again 25 = .ok (.aload_n 0, 1) := by decide +kernel
theorem dX12_again_26 : decode cX12_again 26 = .ok (.iload_n 1, 1) := by decide +kernel
theorem dX12_again_27 : decode cX12_again 27 = .ok (.iconst 1, 1) := by decide +kernel
theorem dX12_again_28 : decode cX12_again 28 = .ok (.iadd, 1) := by decide +kernel
theorem dX12_again_29 : decode cX12_again 29 = .ok (.iconst 0, 1) := by decide +kernel
theorem dX12_again_30 : decode cX12_again 30 = .ok (.invokevirtual 523, 3) := by decide +kernel
theorem dX12_again_33 : decode cX12_again 33 = .ok (.iconst 1, 1) := by decide +kernel
theorem dX12_again_34 : decode cX12_again 34 = .ok (.ireturn, 1) := by decide +kernel
def fX12_again (μ : zM) (x0 : Nat) (x1 : Int32) : Option (Int32 × zM) := zgd (zm_ck μ 12 x0) <|
  zb1 (zm_p μ 12 x0 0 (.int 0)) fun m1 =>
  zb1 (fX12_in m1 x1 0 2) fun v4 =>
  if v4 = 0 then (
  some (0, m1))
  else (
  zb1 (zm_gR m1 12 x0 53) fun v5 =>
  zb1 (zm_aI m1 2 v5 x1) fun v7 =>
  if v7 = 0 then (
  some (0, m1))
  else (
  zb1 (fX12_copyAll m1 x0 (x1 + 1) 0) fun m10 =>
  some (1, m10)))
theorem fX12_again_ck {μ : zM} {x0 : Nat} {x1 : Int32} {z : Int32 × zM} (h : fX12_again μ x0 x1 = some z) : zm_ck μ 12 x0 = true := (zgd_s h).1
set_option maxHeartbeats 4000000 in
set_option maxRecDepth 100000 in
theorem cX12_again_ok {μ : zM} {x0 : Nat} {x1 : Int32} {r : Int32} {mo : zM} (hf : fX12_again μ x0 x1 = some (r, mo)) : zC yX12_again cX12_again 2 (some .boolean) 2 0 0 [.ref x0, .int x1] μ (some (.int r)) mo := by
  replace hf := (zgd_s hf).2
  refine zC.of (by decide) (Nat.le_of_ble_eq_true rfl) (fun K hin => ?_)
  clear hin
  show zz K cX12_again (2, RX12, some .boolean, 2, 0, 0, some (.int r), mo) 0 0 0 [(0, .ref x0), (1, .int x1)] [] μ
  refine zr_aload_n 0 dX12_again_0 rfl ?_
  refine zr_iconst 0 dX12_again_1 (by decide) ?_
  replace hf := zb1_s hf
  obtain ⟨m1, h2, hf⟩ := hf
  refine zr_put h2 zk12 (by decide) zl_788 rfl rfl rfl dX12_again_2 ?_
  refine zr_iload_n 1 dX12_again_5 rfl ?_
  refine zr_iconst 0 dX12_again_6 (by decide) ?_
  refine zr_iconst 2 dX12_again_7 (by decide) ?_
  replace hf := zb1_s hf
  obtain ⟨v4, h3, hf⟩ := hf
  refine zr_callS [.int x1, .int 0, .int 2] (cX12_in_ok h3) zvs_X12_in zl_787 zl_786 rfl (Nat.le_of_ble_eq_true rfl) (Nat.le_of_ble_eq_true rfl) (Nat.le_of_ble_eq_true rfl) (Nat.le_of_ble_eq_true rfl) dX12_again_8 rfl ?_
  refine zr_if_eq 23 dX12_again_11 (by decide) (fun hc => ?_) (fun hc => ?_)
  · rw [if_pos hc] at hf
    refine zr_iconst 0 dX12_again_23 (by decide) ?_
    cases hf
    exact zr_zret rfl dX12_again_24
  · rw [if_neg hc] at hf
    refine zr_aload_n 0 dX12_again_14 rfl ?_
    replace hf := zb1_s hf
    obtain ⟨v5, h6, hf⟩ := hf
    refine zr_get (zm_gR_g h6) zk12 (by decide) zl_780 dX12_again_15 ?_
    refine zr_iload_n 1 dX12_again_18 rfl ?_
    replace hf := zb1_s hf
    obtain ⟨v7, h8, hf⟩ := hf
    refine zr_zald h8 dX12_again_19 ?_
    refine zr_if_ne 25 dX12_again_20 (by decide) (fun hc => ?_) (fun hc => ?_)
    · rw [if_neg hc] at hf
      refine zr_aload_n 0 dX12_again_25 rfl ?_
      refine zr_iload_n 1 dX12_again_26 rfl ?_
      refine zr_iconst 1 dX12_again_27 (by decide) ?_
      refine zr_iadd dX12_again_28 ?_
      refine zr_iconst 0 dX12_again_29 (by decide) ?_
      replace hf := zb1_s hf
      obtain ⟨m10, h9, hf⟩ := hf
      refine zr_callV (ci := 12) [.int (x1 + 1), .int 0] (cX12_copyAll_ok h9) zvs_X12_copyAll zl_1195 zl_1196 (fX12_copyAll_ck h9) rfl rfl zl_1194 rfl (Nat.le_of_ble_eq_true rfl) (Nat.le_of_ble_eq_true rfl) (Nat.le_of_ble_eq_true rfl) (Nat.le_of_ble_eq_true rfl) dX12_again_30 rfl ?_
      refine zr_iconst 1 dX12_again_33 (by decide) ?_
      cases hf
      exact zr_zret rfl dX12_again_34
    · rw [if_pos hc] at hf
      refine zr_iconst 0 dX12_again_23 (by decide) ?_
      cases hf
      exact zr_zret rfl dX12_again_24
theorem dJ9_max_7cf53_0 : decode cJ9_max_7cf53 0 = .ok (.iload_n 0, 1) := by decide +kernel
theorem dJ9_max_7cf53_1 : decode cJ9_max_7cf53 1 = .ok (.iload_n 1, 1) := by decide +kernel
theorem dJ9_max_7cf53_2 : decode cJ9_max_7cf53 2 = .ok (.if_icmp .lt 7, 3) := by decide +kernel
theorem dJ9_max_7cf53_5 : decode cJ9_max_7cf53 5 = .ok (.iload_n 0, 1) := by decide +kernel
theorem dJ9_max_7cf53_6 : decode cJ9_max_7cf53 6 = .ok (.goto 4, 3) := by decide +kernel
theorem dJ9_max_7cf53_9 : decode cJ9_max_7cf53 9 = .ok (.iload_n 1, 1) := by decide +kernel
theorem dJ9_max_7cf53_10 : decode cJ9_max_7cf53 10 = .ok (.ireturn, 1) := by decide +kernel
def fJ9_max_7cf53 (μ : zM) (x0 : Int32) (x1 : Int32) : Option (Int32) :=
  zb1 (if x0 < x1 then (
  some x1)
  else (
  some x0)) fun s1 =>
  some s1
set_option maxHeartbeats 4000000 in
set_option maxRecDepth 100000 in
theorem cJ9_max_7cf53_ok {μ : zM} {x0 : Int32} {x1 : Int32} {r : Int32} (hf : fJ9_max_7cf53 μ x0 x1 = some r) : zC yJ9_max_7cf53 cJ9_max_7cf53 2 (some .int) 0 0 0 [.int x0, .int x1] μ (some (.int r)) μ := by
  unfold fJ9_max_7cf53 at hf
  refine zC.of (by decide) (Nat.le_of_ble_eq_true rfl) (fun K hin => ?_)
  clear hin
  show zz K cJ9_max_7cf53 (2, RJ9, some .int, 0, 0, 0, some (.int r), μ) 0 0 0 [(0, .int x0), (1, .int x1)] [] μ
  refine zr_iload_n 0 dJ9_max_7cf53_0 rfl ?_
  refine zr_iload_n 1 dJ9_max_7cf53_1 rfl ?_
  replace hf := zb1_s hf
  obtain ⟨s1, hg, hf⟩ := hf
  have hj2 : zz K cJ9_max_7cf53 (2, RJ9, some .int, 0, 0, 0, some (.int r), μ) 0 0 10 [] [.int s1] μ := by
    cases hf
    exact zr_iret dJ9_max_7cf53_10
  clear hf
  have hf := hg
  clear hg
  refine zr_icmp_lt 9 dJ9_max_7cf53_2 (by decide) (fun hc => ?_) (fun hc => ?_)
  · rw [if_pos hc] at hf
    refine zr_iload_n 1 dJ9_max_7cf53_9 rfl ?_
    cases hf
    exact zr_lv [] rfl hj2
  · rw [if_neg hc] at hf
    refine zr_iload_n 0 dJ9_max_7cf53_5 rfl ?_
    refine zr_goto 10 dJ9_max_7cf53_6 (by decide) ?_
    cases hf
    exact zr_lv [] rfl hj2
theorem dJ9_min_7cf53_0 : decode cJ9_min_7cf53 0 = .ok (.iload_n 0, 1) := by decide +kernel
theorem dJ9_min_7cf53_1 : decode cJ9_min_7cf53 1 = .ok (.iload_n 1, 1) := by decide +kernel
theorem dJ9_min_7cf53_2 : decode cJ9_min_7cf53 2 = .ok (.if_icmp .gt 7, 3) := by decide +kernel
theorem dJ9_min_7cf53_5 : decode cJ9_min_7cf53 5 = .ok (.iload_n 0, 1) := by decide +kernel
theorem dJ9_min_7cf53_6 : decode cJ9_min_7cf53 6 = .ok (.goto 4, 3) := by decide +kernel
theorem dJ9_min_7cf53_9 : decode cJ9_min_7cf53 9 = .ok (.iload_n 1, 1) := by decide +kernel
theorem dJ9_min_7cf53_10 : decode cJ9_min_7cf53 10 = .ok (.ireturn, 1) := by decide +kernel
def fJ9_min_7cf53 (μ : zM) (x0 : Int32) (x1 : Int32) : Option (Int32) :=
  zb1 (if x1 < x0 then (
  some x1)
  else (
  some x0)) fun s1 =>
  some s1
set_option maxHeartbeats 4000000 in
set_option maxRecDepth 100000 in
theorem cJ9_min_7cf53_ok {μ : zM} {x0 : Int32} {x1 : Int32} {r : Int32} (hf : fJ9_min_7cf53 μ x0 x1 = some r) : zC yJ9_min_7cf53 cJ9_min_7cf53 2 (some .int) 0 0 0 [.int x0, .int x1] μ (some (.int r)) μ := by
  unfold fJ9_min_7cf53 at hf
  refine zC.of (by decide) (Nat.le_of_ble_eq_true rfl) (fun K hin => ?_)
  clear hin
  show zz K cJ9_min_7cf53 (2, RJ9, some .int, 0, 0, 0, some (.int r), μ) 0 0 0 [(0, .int x0), (1, .int x1)] [] μ
  refine zr_iload_n 0 dJ9_min_7cf53_0 rfl ?_
  refine zr_iload_n 1 dJ9_min_7cf53_1 rfl ?_
  replace hf := zb1_s hf
  obtain ⟨s1, hg, hf⟩ := hf
  have hj2 : zz K cJ9_min_7cf53 (2, RJ9, some .int, 0, 0, 0, some (.int r), μ) 0 0 10 [] [.int s1] μ := by
    cases hf
    exact zr_iret dJ9_min_7cf53_10
  clear hf
  have hf := hg
  clear hg
  refine zr_icmp_gt 9 dJ9_min_7cf53_2 (by decide) (fun hc => ?_) (fun hc => ?_)
  · rw [if_pos hc] at hf
    refine zr_iload_n 1 dJ9_min_7cf53_9 rfl ?_
    cases hf
    exact zr_lv [] rfl hj2
  · rw [if_neg hc] at hf
    refine zr_iload_n 0 dJ9_min_7cf53_5 rfl ?_
    refine zr_goto 10 dJ9_min_7cf53_6 (by decide) ?_
    cases hf
    exact zr_lv [] rfl hj2
