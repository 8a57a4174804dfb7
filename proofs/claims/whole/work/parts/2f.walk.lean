theorem zl_399 : Cond.methodLinkNest RX5 114 yX11_isMinute "TwoEchoes" ∈ zn := zn_at 1159 (by decide +kernel)
theorem dX5_hit_0 : decode cX5_hit 0 = .ok (.iload_n 2, 1) := by decide +kernel
theorem dX5_hit_1 : decode cX5_hit 1 = .ok (.invokestatic 114, 3) := by decide +kernel
theorem dX5_hit_4 : decode cX5_hit 4 = .ok (.ifCond .eq 18, 3) := by decide +kernel
theorem dX5_hit_7 : decode cX5_hit 7 = .ok (.aload_n 0, 1) := by decide +kernel
theorem dX5_hit_8 : decode cX5_hit 8 = .ok (.getfield 9, 3) := by decide +kernel
theorem dX5_hit_11 : decode cX5_hit 11 = .ok (.iload_n 1, 1) := by decide +kernel
theorem dX5_hit_12 : decode cX5_hit 12 = .ok (.bipush 100, 2) := by decide +kernel
theorem dX5_hit_14 : decode cX5_hit 14 = .ok (.imul, 1) := by decide +kernel
theorem dX5_hit_15 : decode cX5_hit 15 = .ok (.iload_n 2, 1) := by decide +kernel
theorem dX5_hit_16 : decode cX5_hit 16 = .ok (.iadd, 1) := by decide +kernel
theorem dX5_hit_17 : decode cX5_hit 17 = .ok (.dup2, 1) := by decide +kernel
theorem dX5_hit_18 : decode cX5_hit 18 = .ok (.iaload, 1) := by decide +kernel
theorem dX5_hit_19 : decode cX5_hit 19 = .ok (.iload_n 3, 1) := by decide +kernel
theorem dX5_hit_20 : decode cX5_hit 20 = .ok (.iadd, 1) := by decide +kernel
theorem dX5_hit_21 : decode cX5_hit 21 = .ok (.iastore, 1) := by decide +kernel
theorem dX5_hit_22 : decode cX5_hit 22 = .ok (.return_, 1) := by decide +kernel
def fX5_hit (μ : zM) (x0 : Nat) (x1 : Int32) (x2 : Int32) (x3 : Int32) : Option (zM) := zgd (zm_ck μ 5 x0) <|
  zb1 (fX11_isMinute μ x2) fun v2 =>
  zb1 (if v2 = 0 then (
  some μ)
  else (
  zb1 (zm_gR μ 5 x0 0) fun v5 =>
  zb1 (zm_aI μ 0 v5 ((x1 * 100) + x2)) fun v7 =>
  zb1 (zm_sI μ 0 v5 ((x1 * 100) + x2) (v7 + x3)) fun m9 =>
  some m9)) fun m3 =>
  some m3
theorem fX5_hit_ck {μ : zM} {x0 : Nat} {x1 : Int32} {x2 : Int32} {x3 : Int32} {z : zM} (h : fX5_hit μ x0 x1 x2 x3 = some z) : zm_ck μ 5 x0 = true := (zgd_s h).1
set_option maxHeartbeats 4000000 in
set_option maxRecDepth 100000 in
theorem cX5_hit_ok {μ : zM} {x0 : Nat} {x1 : Int32} {x2 : Int32} {x3 : Int32} {mo : zM} (hf : fX5_hit μ x0 x1 x2 x3 = some mo) : zC yX5_hit cX5_hit 4 (none) 1 0 0 [.ref x0, .int x1, .int x2, .int x3] μ (none) mo := by
  replace hf := (zgd_s hf).2
  refine zC.of (by decide) (Nat.le_of_ble_eq_true rfl) (fun K hin => ?_)
  clear hin
  show zz K cX5_hit (4, RX5, none, 1, 0, 0, none, mo) 0 0 0 [(0, .ref x0), (1, .int x1), (2, .int x2), (3, .int x3)] [] μ
  refine zr_iload_n 2 dX5_hit_0 rfl ?_
  replace hf := zb1_s hf
  obtain ⟨v2, h1, hf⟩ := hf
  refine zr_callSN [.int x2] (cX11_isMinute_ok h1) zvs_X11_isMinute zl_120 zl_399 rfl (Nat.le_of_ble_eq_true rfl) (Nat.le_of_ble_eq_true rfl) (Nat.le_of_ble_eq_true rfl) (Nat.le_of_ble_eq_true rfl) dX5_hit_1 rfl ?_
  replace hf := zb1_s hf
  obtain ⟨m3, hg, hf⟩ := hf
  have hj4 : zz K cX5_hit (4, RX5, none, 1, 0, 0, none, mo) 0 0 22 [] [] m3 := by
    cases hf
    exact zr_vret dX5_hit_22
  clear hf
  have hf := hg
  clear hg
  refine zr_if_eq 22 dX5_hit_4 (by decide) (fun hc => ?_) (fun hc => ?_)
  · rw [if_pos hc] at hf
    cases hf
    exact zr_lv [] rfl hj4
  · rw [if_neg hc] at hf
    refine zr_aload_n 0 dX5_hit_7 rfl ?_
    replace hf := zb1_s hf
    obtain ⟨v5, h6, hf⟩ := hf
    refine zr_get (zm_gR_g h6) zk5 (by decide) zl_366 dX5_hit_8 ?_
    refine zr_iload_n 1 dX5_hit_11 rfl ?_
    refine zr_bipush 100 dX5_hit_12 (by decide) ?_
    refine zr_imul dX5_hit_14 ?_
    refine zr_iload_n 2 dX5_hit_15 rfl ?_
    refine zr_iadd dX5_hit_16 ?_
    refine zr_dup2 dX5_hit_17 rfl rfl ?_
    replace hf := zb1_s hf
    obtain ⟨v7, h8, hf⟩ := hf
    refine zr_iald h8 dX5_hit_18 ?_
    refine zr_iload_n 3 dX5_hit_19 rfl ?_
    refine zr_iadd dX5_hit_20 ?_
    replace hf := zb1_s hf
    obtain ⟨m9, h10, hf⟩ := hf
    refine zr_iast h10 dX5_hit_21 ?_
    cases hf
    exact zr_lv [] rfl hj4
theorem zl_400 : Cond.code yX5_hit cX5_hit 4 (none) ∈ zt := zt_at 1158 (by decide +kernel)
theorem zvs_X5_hit : zvS yX5_hit cX5_hit 4 (none) 3 := ⟨zl_400, zl_378, ⟨by decide +kernel, by decide +kernel, by decide +kernel⟩, by decide⟩
theorem zl_401 : Cond.methodLink RX5 106 yX5_hit ∈ zt := zt_at 1155 (by decide +kernel)
theorem zl_402 : Cond.instanceMethod yX5_hit ∈ zt := zt_at 1157 (by decide +kernel)
theorem zl_403 : Cond.selects RX5 yX5_hit yX5_hit ∈ zt := zt_at 40 (by decide +kernel)
theorem dX5_hitByJudge_0 : decode cX5_hitByJudge 0 = .ok (.iconst 0, 1) := by decide +kernel
theorem dX5_hitByJudge_1 : decode cX5_hitByJudge 1 = .ok (.istore 5, 2) := by decide +kernel
theorem dX5_hitByJudge_3 : decode cX5_hitByJudge 3 = .ok (.iload 5, 2) := by decide +kernel
theorem dX5_hitByJudge_5 : decode cX5_hitByJudge 5 = .ok (.aload_n 0, 1) := by decide +kernel
theorem dX5_hitByJudge_6 : decode cX5_hitByJudge 6 = .ok (.getfield 18, 3) := by decide +kernel
theorem dX5_hitByJudge_9 : decode cX5_hitByJudge 9 = .ok (.if_icmp .gt 42, 3) := by decide +kernel
theorem dX5_hitByJudge_12 : decode cX5_hitByJudge 12 = .ok (.iload_n 2, 1) := by decide +kernel
theorem dX5_hitByJudge_13 : decode cX5_hitByJudge 13 = .ok (.iload 5, 2) := by decide +kernel
theorem dX5_hitByJudge_15 : decode cX5_hitByJudge 15 = .ok (.iadd, 1) := by decide +kernel
theorem dX5_hitByJudge_16 : decode cX5_hitByJudge 16 = .ok (.istore 6, 2) := by decide +kernel
theorem dX5_hitByJudge_18 : decode cX5_hitByJudge 18 = .ok (.iload 6, 2) := by decide +kernel
theorem dX5_hitByJudge_20 : decode cX5_hitByJudge 20 = .ok (.iload_n 3, 1) := by decide +kernel
theorem dX5_hitByJudge_21 : decode cX5_hitByJudge 21 = .ok (.if_icmp .eq 24, 3) := by decide +kernel
theorem dX5_hitByJudge_24 : decode cX5_hitByJudge 24 = .ok (.iload 6, 2) := by decide +kernel
theorem dX5_hitByJudge_26 : decode cX5_hitByJudge 26 = .ok (.iload 4, 2) := by decide +kernel
theorem dX5_hitByJudge_28 : decode cX5_hitByJudge 28 = .ok (.if_icmp .eq 17, 3) := by decide +kernel
theorem dX5_hitByJudge_31 : decode cX5_hitByJudge 31 = .ok (.aload_n 0, 1) := by decide +kernel
theorem dX5_hitByJudge_32 : decode cX5_hitByJudge 32 = .ok (.iload_n 1, 1) := by decide +kernel
theorem dX5_hitByJudge_33 : decode cX5_hitByJudge 33 = .ok (.iload 6, 2) := by decide +kernel
theorem dX5_hitByJudge_35 : decode cX5_hitByJudge 35 = .ok (.aload_n 0, 1) := by decide +kernel
theorem dX5_hitByJudge_36 : decode cX5_hitByJudge 36 = .ok (.getfield 15, 3) := by decide +kernel
theorem dX5_hitByJudge_39 : decode cX5_hitByJudge 39 = .ok (.iload 5, 2) := by decide +kernel
theorem dX5_hitByJudge_41 : decode cX5_hitByJudge 41 = .ok (.iaload, 1) := by decide +kernel
theorem dX5_hitByJudge_42 : decode cX5_hitByJudge 42 = .ok (.invokevirtual 106, 3) := by decide +kernel
theorem dX5_hitByJudge_45 : decode cX5_hitByJudge 45 = .ok (.iinc 5 1, 3) := by decide +kernel
theorem dX5_hitByJudge_48 : decode cX5_hitByJudge 48 = .ok (.goto (-45), 3) := by decide +kernel
theorem dX5_hitByJudge_51 : decode cX5_hitByJudge 51 = .ok (.return_, 1) := by decide +kernel
def fX5_hitByJudge_l3 (x0 : Nat) (x2 : Int32) (x3 : Int32) (x4 : Int32) (x1 : Int32) (F3 : Int32 → zM → Option (zM)) (x5_1 : Int32) (m2 : zM) : Option (zM) :=
  zb1 (zm_gI m2 5 x0 2) fun v7 =>
  if v7 < x5_1 then (
  some m2)
  else (
  zb1 (if (x2 + x5_1) = x3 then (
  some m2)
  else (
  if (x2 + x5_1) = x4 then (
  some m2)
  else (
  zb1 (zm_gR m2 5 x0 1) fun v11 =>
  zb1 (zm_aI m2 0 v11 x5_1) fun v13 =>
  zb1 (fX5_hit m2 x0 x1 (x2 + x5_1) v13) fun m16 =>
  some m16))) fun m9 =>
  F3 (x5_1 + 1) m9)
def fX5_hitByJudge (μ : zM) (x0 : Nat) (x1 : Int32) (x2 : Int32) (x3 : Int32) (x4 : Int32) : Option (zM) := zgd (zm_ck μ 5 x0) <|
  zb1 (zf2 (fX5_hitByJudge_l3 x0 x2 x3 x4 x1) zfu 0 μ) fun m5 =>
  some m5
theorem fX5_hitByJudge_ck {μ : zM} {x0 : Nat} {x1 : Int32} {x2 : Int32} {x3 : Int32} {x4 : Int32} {z : zM} (h : fX5_hitByJudge μ x0 x1 x2 x3 x4 = some z) : zm_ck μ 5 x0 = true := (zgd_s h).1
set_option maxHeartbeats 4000000 in
set_option maxRecDepth 100000 in
theorem cX5_hitByJudge_ok {μ : zM} {x0 : Nat} {x1 : Int32} {x2 : Int32} {x3 : Int32} {x4 : Int32} {mo : zM} (hf : fX5_hitByJudge μ x0 x1 x2 x3 x4 = some mo) : zC yX5_hitByJudge cX5_hitByJudge 7 (none) 2 0 0 [.ref x0, .int x1, .int x2, .int x3, .int x4] μ (none) mo := by
  replace hf := (zgd_s hf).2
  refine zC.of (by decide) (Nat.le_of_ble_eq_true rfl) (fun K hin => ?_)
  clear hin
  show zz K cX5_hitByJudge (7, RX5, none, 2, 0, 0, none, mo) 0 0 0 [(0, .ref x0), (1, .int x1), (2, .int x2), (3, .int x3), (4, .int x4)] [] μ
  refine zr_iconst 0 dX5_hitByJudge_0 (by decide) ?_
  refine zr_istore [(5, .int 0), (0, .ref x0), (1, .int x1), (2, .int x2), (3, .int x3), (4, .int x4)] dX5_hitByJudge_1 (Nat.le_of_ble_eq_true rfl) rfl ?_
  replace hf := zb1_s hf
  obtain ⟨m5, hg, hf⟩ := hf
  have hj6 : zz K cX5_hitByJudge (7, RX5, none, 2, 0, 0, none, mo) 0 0 51 [] [] m5 := by
    cases hf
    exact zr_vret dX5_hitByJudge_51
  clear hf
  have hf := hg
  clear hg
  have hL17 : ∀ (n : Nat) (x5_1 : Int32) (m2 : zM), zf2 (fX5_hitByJudge_l3 x0 x2 x3 x4 x1) n x5_1 m2 = some m5 → zz K cX5_hitByJudge (7, RX5, none, 2, 0, 0, none, mo) 0 0 3 [(0, .ref x0), (1, .int x1), (2, .int x2), (3, .int x3), (4, .int x4), (5, .int x5_1)] [] m2 := by
    intro n
    induction n with
    | zero => intro x5_1 m2 hf; cases hf
    | succ n ih4 =>
      intro x5_1 m2 hf
      replace hf := zf2_s hf
      generalize zf2 (fX5_hitByJudge_l3 x0 x2 x3 x4 x1) n = F3 at hf ih4
      unfold fX5_hitByJudge_l3 at hf
      refine zr_iload 5 dX5_hitByJudge_3 rfl ?_
      refine zr_aload_n 0 dX5_hitByJudge_5 rfl ?_
      replace hf := zb1_s hf
      obtain ⟨v7, h8, hf⟩ := hf
      refine zr_get (zm_gI_g h8) zk5 (by decide) zl_368 dX5_hitByJudge_6 ?_
      refine zr_icmp_gt 51 dX5_hitByJudge_9 (by decide) (fun hc => ?_) (fun hc => ?_)
      · rw [if_pos hc] at hf
        cases hf
        exact zr_lv [] rfl hj6
      · rw [if_neg hc] at hf
        refine zr_iload_n 2 dX5_hitByJudge_12 rfl ?_
        refine zr_iload 5 dX5_hitByJudge_13 rfl ?_
        refine zr_iadd dX5_hitByJudge_15 ?_
        refine zr_istore [(6, .int (x2 + x5_1)), (0, .ref x0), (1, .int x1), (2, .int x2), (3, .int x3), (4, .int x4), (5, .int x5_1)] dX5_hitByJudge_16 (Nat.le_of_ble_eq_true rfl) rfl ?_
        refine zr_iload 0 dX5_hitByJudge_18 rfl ?_
        refine zr_iload_n 4 dX5_hitByJudge_20 rfl ?_
        replace hf := zb1_s hf
        obtain ⟨m9, hg, hf⟩ := hf
        have hj10 : zz K cX5_hitByJudge (7, RX5, none, 2, 0, 0, none, mo) 0 0 45 [(0, .ref x0), (1, .int x1), (2, .int x2), (3, .int x3), (4, .int x4), (5, .int x5_1)] [] m9 := by
          refine zr_iinc (j := 5) (x5_1 + 1) [(5, .int (x5_1 + 1)), (0, .ref x0), (1, .int x1), (2, .int x2), (3, .int x3), (4, .int x4)] dX5_hitByJudge_45 rfl rfl (Nat.le_of_ble_eq_true rfl) rfl ?_
          refine zr_goto 3 dX5_hitByJudge_48 (by decide) ?_
          exact zr_lv [1, 2, 3, 4, 5, 0] rfl (ih4 (x5_1 + 1) m9 hf)
        clear hf
        have hf := hg
        clear hg
        refine zr_icmp_eq 45 dX5_hitByJudge_21 (by decide) (fun hc => ?_) (fun hc => ?_)
        · rw [if_pos hc] at hf
          cases hf
          exact zr_lv [1, 2, 3, 4, 5, 6] rfl hj10
        · rw [if_neg hc] at hf
          refine zr_iload 0 dX5_hitByJudge_24 rfl ?_
          refine zr_iload 5 dX5_hitByJudge_26 rfl ?_
          refine zr_icmp_eq 45 dX5_hitByJudge_28 (by decide) (fun hc => ?_) (fun hc => ?_)
          · rw [if_pos hc] at hf
            cases hf
            exact zr_lv [1, 2, 3, 4, 5, 6] rfl hj10
          · rw [if_neg hc] at hf
            refine zr_aload_n 1 dX5_hitByJudge_31 rfl ?_
            refine zr_iload_n 2 dX5_hitByJudge_32 rfl ?_
            refine zr_iload 0 dX5_hitByJudge_33 rfl ?_
            refine zr_aload_n 1 dX5_hitByJudge_35 rfl ?_
            replace hf := zb1_s hf
            obtain ⟨v11, h12, hf⟩ := hf
            refine zr_get (zm_gR_g h12) zk5 (by decide) zl_367 dX5_hitByJudge_36 ?_
            refine zr_iload 6 dX5_hitByJudge_39 rfl ?_
            replace hf := zb1_s hf
            obtain ⟨v13, h14, hf⟩ := hf
            refine zr_iald h14 dX5_hitByJudge_41 ?_
            replace hf := zb1_s hf
            obtain ⟨m16, h15, hf⟩ := hf
            refine zr_callV (ci := 5) [.int x1, .int (x2 + x5_1), .int v13] (cX5_hit_ok h15) zvs_X5_hit zl_402 zl_403 (fX5_hit_ck h15) rfl rfl zl_401 rfl (Nat.le_of_ble_eq_true rfl) (Nat.le_of_ble_eq_true rfl) (Nat.le_of_ble_eq_true rfl) (Nat.le_of_ble_eq_true rfl) dX5_hitByJudge_42 rfl ?_
            cases hf
            exact zr_lv [1, 2, 3, 4, 5, 6] rfl hj10
  exact zr_lv [1, 2, 3, 4, 5, 0] rfl (hL17 _ 0 μ hf)
theorem zl_404 : Cond.code yX5_countByThought cX5_countByThought 4 (none) ∈ zt := zt_at 1153 (by decide +kernel)
theorem zvs_X5_countByThought : zvS yX5_countByThought cX5_countByThought 4 (none) 2 := ⟨zl_404, zl_378, ⟨by decide +kernel, by decide +kernel, by decide +kernel⟩, by decide⟩
theorem zl_405 : Cond.methodLink RX5 102 yX5_countByThought ∈ zt := zt_at 1150 (by decide +kernel)
theorem zl_406 : Cond.instanceMethod yX5_countByThought ∈ zt := zt_at 1152 (by decide +kernel)
theorem zl_407 : Cond.selects RX5 yX5_countByThought yX5_countByThought ∈ zt := zt_at 39 (by decide +kernel)
theorem zl_408 : Cond.code yX5_hitByJudge cX5_hitByJudge 7 (none) ∈ zt := zt_at 1163 (by decide +kernel)
theorem zvs_X5_hitByJudge : zvS yX5_hitByJudge cX5_hitByJudge 7 (none) 4 := ⟨zl_408, zl_378, ⟨by decide +kernel, by decide +kernel, by decide +kernel⟩, by decide⟩
theorem zl_409 : Cond.methodLink RX5 110 yX5_hitByJudge ∈ zt := zt_at 1160 (by decide +kernel)
theorem zl_410 : Cond.instanceMethod yX5_hitByJudge ∈ zt := zt_at 1162 (by decide +kernel)
theorem zl_411 : Cond.selects RX5 yX5_hitByJudge yX5_hitByJudge ∈ zt := zt_at 41 (by decide +kernel)
theorem dX5_hitByWords_0 : decode cX5_hitByWords 0 = .ok (.iload 4, 2) := by decide +kernel
theorem dX5_hitByWords_2 : decode cX5_hitByWords 2 = .ok (.invokestatic 71, 3) := by decide +kernel
theorem dX5_hitByWords_5 : decode cX5_hitByWords 5 = .ok (.istore 5, 2) := by decide +kernel
theorem dX5_hitByWords_7 : decode cX5_hitByWords 7 = .ok (.aload_n 1, 1) := by decide +kernel
theorem dX5_hitByWords_8 : decode cX5_hitByWords 8 = .ok (.iload_n 3, 1) := by decide +kernel
theorem dX5_hitByWords_9 : decode cX5_hitByWords 9 = .ok (.invokevirtual 40, 3) := by decide +kernel
theorem dX5_hitByWords_12 : decode cX5_hitByWords 12 = .ok (.istore 6, 2) := by decide +kernel
theorem dX5_hitByWords_14 : decode cX5_hitByWords 14 = .ok (.iload 6, 2) := by decide +kernel
theorem dX5_hitByWords_16 : decode cX5_hitByWords 16 = .ok (.iconst 1, 1) := by decide +kernel
theorem dX5_hitByWords_17 : decode cX5_hitByWords 17 = .ok (.if_icmp .ne 7, 3) := by decide +kernel
theorem dX5_hitByWords_20 : decode cX5_hitByWords 20 = .ok (.iconst 2, 1) := by decide +kernel
theorem dX5_hitByWords_21 : decode cX5_hitByWords 21 = .ok (.goto 4, 3) := by decide +kernel
theorem dX5_hitByWords_24 : decode cX5_hitByWords 24 = .ok (.iconst 1, 1) := by decide +kernel
theorem dX5_hitByWords_25 : decode cX5_hitByWords 25 = .ok (.istore 7, 2) := by decide +kernel
theorem dX5_hitByWords_27 : decode cX5_hitByWords 27 = .ok (.aload_n 1, 1) := by decide +kernel
theorem dX5_hitByWords_28 : decode cX5_hitByWords 28 = .ok (.iload 7, 2) := by decide +kernel
theorem dX5_hitByWords_30 : decode cX5_hitByWords 30 = .ok (.iload_n 3, 1) := by decide +kernel
theorem dX5_hitByWords_31 : decode cX5_hitByWords 31 = .ok (.invokevirtual 36, 3) := by decide +kernel
theorem dX5_hitByWords_34 : decode cX5_hitByWords 34 = .ok (.istore 8, 2) := by decide +kernel
theorem dX5_hitByWords_36 : decode cX5_hitByWords 36 = .ok (.aload_n 1, 1) := by decide +kernel
theorem dX5_hitByWords_37 : decode cX5_hitByWords 37 = .ok (.iload 6, 2) := by decide +kernel
theorem dX5_hitByWords_39 : decode cX5_hitByWords 39 = .ok (.iload_n 3, 1) := by decide +kernel
theorem dX5_hitByWords_40 : decode cX5_hitByWords 40 = .ok (.invokevirtual 36, 3) := by decide +kernel
theorem dX5_hitByWords_43 : decode cX5_hitByWords 43 = .ok (.istore 9, 2) := by decide +kernel
theorem dX5_hitByWords_45 : decode cX5_hitByWords 45 = .ok (.aload_n 0, 1) := by decide +kernel
theorem dX5_hitByWords_46 : decode cX5_hitByWords 46 = .ok (.aload_n 1, 1) := by decide +kernel
theorem dX5_hitByWords_47 : decode cX5_hitByWords 47 = .ok (.iload 4, 2) := by decide +kernel
theorem dX5_hitByWords_49 : decode cX5_hitByWords 49 = .ok (.invokevirtual 102, 3) := by decide +kernel
theorem dX5_hitByWords_52 : decode cX5_hitByWords 52 = .ok (.iconst 0, 1) := by decide +kernel
theorem dX5_hitByWords_53 : decode cX5_hitByWords 53 = .ok (.istore 10, 2) := by decide +kernel
theorem dX5_hitByWords_55 : decode cX5_hitByWords 55 = .ok (.iload 10, 2) := by decide +kernel
theorem dX5_hitByWords_57 : decode cX5_hitByWords 57 = .ok (.aload_n 1, 1) := by decide +kernel
theorem dX5_hitByWords_58 : decode cX5_hitByWords 58 = .ok (.getfield 76, 3) := by decide +kernel
theorem dX5_hitByWords_61 : decode cX5_hitByWords 61 = .ok (.if_icmp .gt 101, 3) := by decide +kernel
theorem dX5_hitByWords_64 : decode cX5_hitByWords 64 = .ok (.iload 5, 2) := by decide +kernel
theorem dX5_hitByWords_66 : decode cX5_hitByWords 66 = .ok (.ifCond .le 96, 3) := by decide +kernel
theorem dX5_hitByWords_69 : decode cX5_hitByWords 69 = .ok (.iload_n 3, 1) := by decide +kernel
theorem dX5_hitByWords_70 : decode cX5_hitByWords 70 = .ok (.aload_n 1, 1) := by decide +kernel
theorem dX5_hitByWords_71 : decode cX5_hitByWords 71 = .ok (.iload_n 2, 1) := by decide +kernel
theorem dX5_hitByWords_72 : decode cX5_hitByWords 72 = .ok (.iload 10, 2) := by decide +kernel
theorem dX5_hitByWords_74 : decode cX5_hitByWords 74 = .ok (.iconst 0, 1) := by decide +kernel
theorem dX5_hitByWords_75 : decode cX5_hitByWords 75 = .ok (.invokevirtual 30, 3) := by decide +kernel
theorem dX5_hitByWords_78 : decode cX5_hitByWords 78 = .ok (.iadd, 1) := by decide +kernel
theorem dX5_hitByWords_79 : decode cX5_hitByWords 79 = .ok (.istore 11, 2) := by decide +kernel
theorem dX5_hitByWords_81 : decode cX5_hitByWords 81 = .ok (.iload 8, 2) := by decide +kernel
theorem dX5_hitByWords_83 : decode cX5_hitByWords 83 = .ok (.ifCond .eq 7, 3) := by decide +kernel
theorem dX5_hitByWords_86 : decode cX5_hitByWords 86 = .ok (.iconst (-1), 1) := by decide +kernel
theorem dX5_hitByWords_87 : decode cX5_hitByWords 87 = .ok (.goto 14, 3) := by decide +kernel
theorem dX5_hitByWords_90 : decode cX5_hitByWords 90 = .ok (.iload_n 3, 1) := by decide +kernel
theorem dX5_hitByWords_91 : decode cX5_hitByWords 91 = .ok (.aload_n 1, 1) := by decide +kernel
theorem dX5_hitByWords_92 : decode cX5_hitByWords 92 = .ok (.iload_n 2, 1) := by decide +kernel
theorem dX5_hitByWords_93 : decode cX5_hitByWords 93 = .ok (.iload 10, 2) := by decide +kernel
theorem dX5_hitByWords_95 : decode cX5_hitByWords 95 = .ok (.iload 7, 2) := by decide +kernel
theorem dX5_hitByWords_97 : decode cX5_hitByWords 97 = .ok (.invokevirtual 30, 3) := by decide +kernel
theorem dX5_hitByWords_100 : decode cX5_hitByWords 100 = .ok (.iadd, 1) := by decide +kernel
theorem dX5_hitByWords_101 : decode cX5_hitByWords 101 = .ok (.istore 12, 2) := by decide +kernel
theorem dX5_hitByWords_103 : decode cX5_hitByWords 103 = .ok (.aload_n 0, 1) := by decide +kernel
theorem dX5_hitByWords_104 : decode cX5_hitByWords 104 = .ok (.iload 10, 2) := by decide +kernel
theorem dX5_hitByWords_106 : decode cX5_hitByWords 106 = .ok (.iload 11, 2) := by decide +kernel
theorem dX5_hitByWords_108 : decode cX5_hitByWords 108 = .ok (.iload 5, 2) := by decide +kernel
theorem dX5_hitByWords_110 : decode cX5_hitByWords 110 = .ok (.invokevirtual 106, 3) := by decide +kernel
theorem dX5_hitByWords_113 : decode cX5_hitByWords 113 = .ok (.iload 12, 2) := by decide +kernel
theorem dX5_hitByWords_115 : decode cX5_hitByWords 115 = .ok (.iload 11, 2) := by decide +kernel
theorem dX5_hitByWords_117 : decode cX5_hitByWords 117 = .ok (.if_icmp .eq 13, 3) := by decide +kernel
theorem dX5_hitByWords_120 : decode cX5_hitByWords 120 = .ok (.aload_n 0, 1) := by decide +kernel
theorem dX5_hitByWords_121 : decode cX5_hitByWords 121 = .ok (.iload 10, 2) := by decide +kernel
theorem dX5_hitByWords_123 : decode cX5_hitByWords 123 = .ok (.iload 12, 2) := by decide +kernel
theorem dX5_hitByWords_125 : decode cX5_hitByWords 125 = .ok (.iload 5, 2) := by decide +kernel
theorem dX5_hitByWords_127 : decode cX5_hitByWords 127 = .ok (.invokevirtual 106, 3) := by decide +kernel
theorem dX5_hitByWords_130 : decode cX5_hitByWords 130 = .ok (.iload 9, 2) := by decide +kernel
theorem dX5_hitByWords_132 : decode cX5_hitByWords 132 = .ok (.ifCond .ne 24, 3) := by decide +kernel
theorem dX5_hitByWords_135 : decode cX5_hitByWords 135 = .ok (.aload_n 0, 1) := by decide +kernel
theorem dX5_hitByWords_136 : decode cX5_hitByWords 136 = .ok (.iload 10, 2) := by decide +kernel
theorem dX5_hitByWords_138 : decode cX5_hitByWords 138 = .ok (.iload_n 3, 1) := by decide +kernel
theorem dX5_hitByWords_139 : decode cX5_hitByWords 139 = .ok (.aload_n 1, 1) := by decide +kernel
theorem dX5_hitByWords_140 : decode cX5_hitByWords 140 = .ok (.iload_n 2, 1) := by decide +kernel
theorem dX5_hitByWords_141 : decode cX5_hitByWords 141 = .ok (.iload 10, 2) := by decide +kernel
theorem dX5_hitByWords_143 : decode cX5_hitByWords 143 = .ok (.iload 6, 2) := by decide +kernel
theorem dX5_hitByWords_145 : decode cX5_hitByWords 145 = .ok (.invokevirtual 30, 3) := by decide +kernel
theorem dX5_hitByWords_148 : decode cX5_hitByWords 148 = .ok (.iadd, 1) := by decide +kernel
theorem dX5_hitByWords_149 : decode cX5_hitByWords 149 = .ok (.iload 11, 2) := by decide +kernel
theorem dX5_hitByWords_151 : decode cX5_hitByWords 151 = .ok (.iload 12, 2) := by decide +kernel
theorem dX5_hitByWords_153 : decode cX5_hitByWords 153 = .ok (.invokevirtual 110, 3) := by decide +kernel
theorem dX5_hitByWords_156 : decode cX5_hitByWords 156 = .ok (.iinc 10 1, 3) := by decide +kernel
theorem dX5_hitByWords_159 : decode cX5_hitByWords 159 = .ok (.goto (-104), 3) := by decide +kernel
theorem dX5_hitByWords_162 : decode cX5_hitByWords 162 = .ok (.return_, 1) := by decide +kernel
def fX5_hitByWords_l55 (x1 : Nat) (v2 : Int32) (x2 : Int32) (v8 : Int32) (s5 : Int32) (x3 : Int32) (x0 : Nat) (v10 : Int32) (v4 : Int32) (F15 : Int32 → zM → Option (zM)) (x10_13 : Int32) (m14 : zM) : Option (zM) :=
  zb1 (zm_gI m14 9 x1 0) fun v19 =>
  if v19 < x10_13 then (
  some m14)
  else (
  if v2 ≤ 0 then (
  some m14)
  else (
  zb1 (fX9_way m14 x1 x2 x10_13 0) fun v22 =>
  zb1 (if v8 = 0 then (
  zb1 (fX9_way m14 x1 x2 x10_13 s5) fun v38 =>
  some (x3 + v38))
  else (
  some (-1))) fun s23 =>
  zb1 (fX5_hit m14 x0 x10_13 (x3 + v22) v2) fun m26 =>
  zb1 (if s23 = (x3 + v22) then (
  some m26)
  else (
  zb1 (fX5_hit m26 x0 x10_13 s23 v2) fun m36 =>
  some m36)) fun m27 =>
  zb1 (if v10 = 0 then (
  zb1 (fX9_way m27 x1 x2 x10_13 v4) fun v32 =>
  zb1 (fX5_hitByJudge m27 x0 x10_13 (x3 + v32) (x3 + v22) s23) fun m34 =>
  some m34)
  else (
  some m27)) fun m29 =>
  F15 (x10_13 + 1) m29))
def fX5_hitByWords (μ : zM) (x0 : Nat) (x1 : Nat) (x2 : Int32) (x3 : Int32) (x4 : Int32) : Option (zM) := zgd (zm_ck μ 5 x0) <|
  zb1 (fJ6_bitCount_0f7a4 μ x4) fun v2 =>
  zb1 (fX9_judge μ x1 x3) fun v4 =>
  zb1 (if v4 = 1 then (
  some 2)
  else (
  some 1)) fun s5 =>
  zb1 (fX9_isMute μ x1 s5 x3) fun v8 =>
  zb1 (fX9_isMute μ x1 v4 x3) fun v10 =>
  zb1 (fX5_countByThought μ x0 x1 x4) fun m12 =>
  zb1 (zf2 (fX5_hitByWords_l55 x1 v2 x2 v8 s5 x3 x0 v10 v4) zfu 0 m12) fun m17 =>
  some m17
theorem fX5_hitByWords_ck {μ : zM} {x0 : Nat} {x1 : Nat} {x2 : Int32} {x3 : Int32} {x4 : Int32} {z : zM} (h : fX5_hitByWords μ x0 x1 x2 x3 x4 = some z) : zm_ck μ 5 x0 = true := (zgd_s h).1
set_option maxHeartbeats 4000000 in
set_option maxRecDepth 100000 in
theorem cX5_hitByWords_ok {μ : zM} {x0 : Nat} {x1 : Nat} {x2 : Int32} {x3 : Int32} {x4 : Int32} {mo : zM} (hf : fX5_hitByWords μ x0 x1 x2 x3 x4 = some mo) : zC yX5_hitByWords cX5_hitByWords 13 (none) 3 0 0 [.ref x0, .ref x1, .int x2, .int x3, .int x4] μ (none) mo := by
  replace hf := (zgd_s hf).2
  refine zC.of (by decide) (Nat.le_of_ble_eq_true rfl) (fun K hin => ?_)
  clear hin
  show zz K cX5_hitByWords (13, RX5, none, 3, 0, 0, none, mo) 0 0 0 [(0, .ref x0), (1, .ref x1), (2, .int x2), (3, .int x3), (4, .int x4)] [] μ
  refine zr_iload 4 dX5_hitByWords_0 rfl ?_
  replace hf := zb1_s hf
  obtain ⟨v2, h1, hf⟩ := hf
  refine zr_callS [.int x4] (cJ6_bitCount_0f7a4_ok h1) zvs_J6_bitCount_0f7a4 zl_67 zl_389 rfl (Nat.le_of_ble_eq_true rfl) (Nat.le_of_ble_eq_true rfl) (Nat.le_of_ble_eq_true rfl) (Nat.le_of_ble_eq_true rfl) dX5_hitByWords_2 rfl ?_
  refine zr_istore [(5, .int v2), (0, .ref x0), (1, .ref x1), (2, .int x2), (3, .int x3), (4, .int x4)] dX5_hitByWords_5 (Nat.le_of_ble_eq_true rfl) rfl ?_
  refine zr_aload_n 2 dX5_hitByWords_7 rfl ?_
  refine zr_iload_n 4 dX5_hitByWords_8 rfl ?_
  replace hf := zb1_s hf
  obtain ⟨v4, h3, hf⟩ := hf
  refine zr_callV (ci := 9) [.int x3] (cX9_judge_ok h3) zvs_X9_judge zl_36 zl_37 (fX9_judge_ck h3) rfl rfl zl_375 rfl (Nat.le_of_ble_eq_true rfl) (Nat.le_of_ble_eq_true rfl) (Nat.le_of_ble_eq_true rfl) (Nat.le_of_ble_eq_true rfl) dX5_hitByWords_9 rfl ?_
  refine zr_istore [(6, .int v4), (5, .int v2), (0, .ref x0), (1, .ref x1), (2, .int x2), (3, .int x3), (4, .int x4)] dX5_hitByWords_12 (Nat.le_of_ble_eq_true rfl) rfl ?_
  refine zr_iload 0 dX5_hitByWords_14 rfl ?_
  refine zr_iconst 1 dX5_hitByWords_16 (by decide) ?_
  replace hf := zb1_s hf
  obtain ⟨s5, hg, hf⟩ := hf
  have hj6 : zz K cX5_hitByWords (13, RX5, none, 3, 0, 0, none, mo) 0 0 25 [(0, .ref x0), (1, .ref x1), (2, .int x2), (3, .int x3), (4, .int x4), (5, .int v2), (6, .int v4)] [.int s5] μ := by
    refine zr_istore [(7, .int s5), (0, .ref x0), (1, .ref x1), (2, .int x2), (3, .int x3), (4, .int x4), (5, .int v2), (6, .int v4)] dX5_hitByWords_25 (Nat.le_of_ble_eq_true rfl) rfl ?_
    refine zr_aload_n 2 dX5_hitByWords_27 rfl ?_
    refine zr_iload 0 dX5_hitByWords_28 rfl ?_
    refine zr_iload_n 4 dX5_hitByWords_30 rfl ?_
    replace hf := zb1_s hf
    obtain ⟨v8, h7, hf⟩ := hf
    refine zr_callV (ci := 9) [.int s5, .int x3] (cX9_isMute_ok h7) zvs_X9_isMute zl_16 zl_17 (fX9_isMute_ck h7) rfl rfl zl_374 rfl (Nat.le_of_ble_eq_true rfl) (Nat.le_of_ble_eq_true rfl) (Nat.le_of_ble_eq_true rfl) (Nat.le_of_ble_eq_true rfl) dX5_hitByWords_31 rfl ?_
    refine zr_istore [(8, .int v8), (7, .int s5), (0, .ref x0), (1, .ref x1), (2, .int x2), (3, .int x3), (4, .int x4), (5, .int v2), (6, .int v4)] dX5_hitByWords_34 (Nat.le_of_ble_eq_true rfl) rfl ?_
    refine zr_aload_n 3 dX5_hitByWords_36 rfl ?_
    refine zr_iload 8 dX5_hitByWords_37 rfl ?_
    refine zr_iload_n 5 dX5_hitByWords_39 rfl ?_
    replace hf := zb1_s hf
    obtain ⟨v10, h9, hf⟩ := hf
    refine zr_callV (ci := 9) [.int v4, .int x3] (cX9_isMute_ok h9) zvs_X9_isMute zl_16 zl_17 (fX9_isMute_ck h9) rfl rfl zl_374 rfl (Nat.le_of_ble_eq_true rfl) (Nat.le_of_ble_eq_true rfl) (Nat.le_of_ble_eq_true rfl) (Nat.le_of_ble_eq_true rfl) dX5_hitByWords_40 rfl ?_
    refine zr_istore [(9, .int v10), (8, .int v8), (7, .int s5), (0, .ref x0), (1, .ref x1), (2, .int x2), (3, .int x3), (4, .int x4), (5, .int v2), (6, .int v4)] dX5_hitByWords_43 (Nat.le_of_ble_eq_true rfl) rfl ?_
    refine zr_aload_n 3 dX5_hitByWords_45 rfl ?_
    refine zr_aload_n 4 dX5_hitByWords_46 rfl ?_
    refine zr_iload 7 dX5_hitByWords_47 rfl ?_
    replace hf := zb1_s hf
    obtain ⟨m12, h11, hf⟩ := hf
    refine zr_callV (ci := 5) [.ref x1, .int x4] (cX5_countByThought_ok h11) zvs_X5_countByThought zl_406 zl_407 (fX5_countByThought_ck h11) rfl rfl zl_405 rfl (Nat.le_of_ble_eq_true rfl) (Nat.le_of_ble_eq_true rfl) (Nat.le_of_ble_eq_true rfl) (Nat.le_of_ble_eq_true rfl) dX5_hitByWords_49 rfl ?_
    refine zr_iconst 0 dX5_hitByWords_52 (by decide) ?_
    refine zr_istore [(10, .int 0), (9, .int v10), (8, .int v8), (7, .int s5), (0, .ref x0), (1, .ref x1), (2, .int x2), (3, .int x3), (4, .int x4), (5, .int v2), (6, .int v4)] dX5_hitByWords_53 (Nat.le_of_ble_eq_true rfl) rfl ?_
    replace hf := zb1_s hf
    obtain ⟨m17, hg, hf⟩ := hf
    have hj18 : zz K cX5_hitByWords (13, RX5, none, 3, 0, 0, none, mo) 0 0 162 [] [] m17 := by
      cases hf
      exact zr_vret dX5_hitByWords_162
    clear hf
    have hf := hg
    clear hg
    have hL39 : ∀ (n : Nat) (x10_13 : Int32) (m14 : zM), zf2 (fX5_hitByWords_l55 x1 v2 x2 v8 s5 x3 x0 v10 v4) n x10_13 m14 = some m17 → zz K cX5_hitByWords (13, RX5, none, 3, 0, 0, none, mo) 0 0 55 [(0, .ref x0), (1, .ref x1), (2, .int x2), (3, .int x3), (5, .int v2), (6, .int v4), (7, .int s5), (8, .int v8), (9, .int v10), (10, .int x10_13)] [] m14 := by
      intro n
      induction n with
      | zero => intro x10_13 m14 hf; cases hf
      | succ n ih16 =>
        intro x10_13 m14 hf
        replace hf := zf2_s hf
        generalize zf2 (fX5_hitByWords_l55 x1 v2 x2 v8 s5 x3 x0 v10 v4) n = F15 at hf ih16
        unfold fX5_hitByWords_l55 at hf
        refine zr_iload 9 dX5_hitByWords_55 rfl ?_
        refine zr_aload_n 1 dX5_hitByWords_57 rfl ?_
        replace hf := zb1_s hf
        obtain ⟨v19, h20, hf⟩ := hf
        refine zr_get (zm_gI_g h20) zk9 (by decide) zl_390 dX5_hitByWords_58 ?_
        refine zr_icmp_gt 162 dX5_hitByWords_61 (by decide) (fun hc => ?_) (fun hc => ?_)
        · rw [if_pos hc] at hf
          cases hf
          exact zr_lv [] rfl hj18
        · rw [if_neg hc] at hf
          refine zr_iload 4 dX5_hitByWords_64 rfl ?_
          refine zr_if_le 162 dX5_hitByWords_66 (by decide) (fun hc => ?_) (fun hc => ?_)
          · rw [if_pos hc] at hf
            cases hf
            exact zr_lv [] rfl hj18
          · rw [if_neg hc] at hf
            refine zr_iload_n 3 dX5_hitByWords_69 rfl ?_
            refine zr_aload_n 1 dX5_hitByWords_70 rfl ?_
            refine zr_iload_n 2 dX5_hitByWords_71 rfl ?_
            refine zr_iload 9 dX5_hitByWords_72 rfl ?_
            refine zr_iconst 0 dX5_hitByWords_74 (by decide) ?_
            replace hf := zb1_s hf
            obtain ⟨v22, h21, hf⟩ := hf
            refine zr_callV (ci := 9) [.int x2, .int x10_13, .int 0] (cX9_way_ok h21) zvs_X9_way zl_20 zl_21 (fX9_way_ck h21) rfl rfl zl_373 rfl (Nat.le_of_ble_eq_true rfl) (Nat.le_of_ble_eq_true rfl) (Nat.le_of_ble_eq_true rfl) (Nat.le_of_ble_eq_true rfl) dX5_hitByWords_75 rfl ?_
            refine zr_iadd dX5_hitByWords_78 ?_
            refine zr_istore [(11, .int (x3 + v22)), (0, .ref x0), (1, .ref x1), (2, .int x2), (3, .int x3), (5, .int v2), (6, .int v4), (7, .int s5), (8, .int v8), (9, .int v10), (10, .int x10_13)] dX5_hitByWords_79 (Nat.le_of_ble_eq_true rfl) rfl ?_
            refine zr_iload 8 dX5_hitByWords_81 rfl ?_
            replace hf := zb1_s hf
            obtain ⟨s23, hg, hf⟩ := hf
            have hj24 : zz K cX5_hitByWords (13, RX5, none, 3, 0, 0, none, mo) 0 0 101 [(0, .ref x0), (1, .ref x1), (2, .int x2), (3, .int x3), (5, .int v2), (6, .int v4), (7, .int s5), (8, .int v8), (9, .int v10), (10, .int x10_13), (11, .int (x3 + v22))] [.int s23] m14 := by
              refine zr_istore [(12, .int s23), (0, .ref x0), (1, .ref x1), (2, .int x2), (3, .int x3), (5, .int v2), (6, .int v4), (7, .int s5), (8, .int v8), (9, .int v10), (10, .int x10_13), (11, .int (x3 + v22))] dX5_hitByWords_101 (Nat.le_of_ble_eq_true rfl) rfl ?_
              refine zr_aload_n 1 dX5_hitByWords_103 rfl ?_
              refine zr_iload 10 dX5_hitByWords_104 rfl ?_
              refine zr_iload 11 dX5_hitByWords_106 rfl ?_
              refine zr_iload 5 dX5_hitByWords_108 rfl ?_
              replace hf := zb1_s hf
              obtain ⟨m26, h25, hf⟩ := hf
              refine zr_callV (ci := 5) [.int x10_13, .int (x3 + v22), .int v2] (cX5_hit_ok h25) zvs_X5_hit zl_402 zl_403 (fX5_hit_ck h25) rfl rfl zl_401 rfl (Nat.le_of_ble_eq_true rfl) (Nat.le_of_ble_eq_true rfl) (Nat.le_of_ble_eq_true rfl) (Nat.le_of_ble_eq_true rfl) dX5_hitByWords_110 rfl ?_
              refine zr_iload 0 dX5_hitByWords_113 rfl ?_
              refine zr_iload 11 dX5_hitByWords_115 rfl ?_
              replace hf := zb1_s hf
              obtain ⟨m27, hg, hf⟩ := hf
              have hj28 : zz K cX5_hitByWords (13, RX5, none, 3, 0, 0, none, mo) 0 0 130 [(0, .ref x0), (1, .ref x1), (2, .int x2), (3, .int x3), (5, .int v2), (6, .int v4), (7, .int s5), (8, .int v8), (9, .int v10), (10, .int x10_13), (11, .int (x3 + v22)), (12, .int s23)] [] m27 := by
                refine zr_iload 8 dX5_hitByWords_130 rfl ?_
                replace hf := zb1_s hf
                obtain ⟨m29, hg, hf⟩ := hf
                have hj30 : zz K cX5_hitByWords (13, RX5, none, 3, 0, 0, none, mo) 0 0 156 [(0, .ref x0), (1, .ref x1), (2, .int x2), (3, .int x3), (5, .int v2), (6, .int v4), (7, .int s5), (8, .int v8), (9, .int v10), (10, .int x10_13)] [] m29 := by
                  refine zr_iinc (j := 9) (x10_13 + 1) [(10, .int (x10_13 + 1)), (0, .ref x0), (1, .ref x1), (2, .int x2), (3, .int x3), (5, .int v2), (6, .int v4), (7, .int s5), (8, .int v8), (9, .int v10)] dX5_hitByWords_156 rfl rfl (Nat.le_of_ble_eq_true rfl) rfl ?_
                  refine zr_goto 55 dX5_hitByWords_159 (by decide) ?_
                  exact zr_lv [1, 2, 3, 4, 5, 6, 7, 8, 9, 0] rfl (ih16 (x10_13 + 1) m29 hf)
                clear hf
                have hf := hg
                clear hg
                refine zr_if_ne 156 dX5_hitByWords_132 (by decide) (fun hc => ?_) (fun hc => ?_)
                · rw [if_neg hc] at hf
                  cases hf
                  exact zr_lv [0, 1, 2, 3, 4, 5, 6, 7, 8, 9] rfl hj30
                · rw [if_pos hc] at hf
                  refine zr_aload_n 0 dX5_hitByWords_135 rfl ?_
                  refine zr_iload 9 dX5_hitByWords_136 rfl ?_
                  refine zr_iload_n 3 dX5_hitByWords_138 rfl ?_
                  refine zr_aload_n 1 dX5_hitByWords_139 rfl ?_
                  refine zr_iload_n 2 dX5_hitByWords_140 rfl ?_
                  refine zr_iload 9 dX5_hitByWords_141 rfl ?_
                  refine zr_iload 5 dX5_hitByWords_143 rfl ?_
                  replace hf := zb1_s hf
                  obtain ⟨v32, h31, hf⟩ := hf
                  refine zr_callV (ci := 9) [.int x2, .int x10_13, .int v4] (cX9_way_ok h31) zvs_X9_way zl_20 zl_21 (fX9_way_ck h31) rfl rfl zl_373 rfl (Nat.le_of_ble_eq_true rfl) (Nat.le_of_ble_eq_true rfl) (Nat.le_of_ble_eq_true rfl) (Nat.le_of_ble_eq_true rfl) dX5_hitByWords_145 rfl ?_
                  refine zr_iadd dX5_hitByWords_148 ?_
                  refine zr_iload 10 dX5_hitByWords_149 rfl ?_
                  refine zr_iload 11 dX5_hitByWords_151 rfl ?_
                  replace hf := zb1_s hf
                  obtain ⟨m34, h33, hf⟩ := hf
                  refine zr_callV (ci := 5) [.int x10_13, .int (x3 + v32), .int (x3 + v22), .int s23] (cX5_hitByJudge_ok h33) zvs_X5_hitByJudge zl_410 zl_411 (fX5_hitByJudge_ck h33) rfl rfl zl_409 rfl (Nat.le_of_ble_eq_true rfl) (Nat.le_of_ble_eq_true rfl) (Nat.le_of_ble_eq_true rfl) (Nat.le_of_ble_eq_true rfl) dX5_hitByWords_153 rfl ?_
                  cases hf
                  exact zr_lv [0, 1, 2, 3, 4, 5, 6, 7, 8, 9] rfl hj30
              clear hf
              have hf := hg
              clear hg
              refine zr_icmp_eq 130 dX5_hitByWords_117 (by decide) (fun hc => ?_) (fun hc => ?_)
              · rw [if_pos hc] at hf
                cases hf
                exact zr_lv [1, 2, 3, 4, 5, 6, 7, 8, 9, 10, 11, 0] rfl hj28
              · rw [if_neg hc] at hf
                refine zr_aload_n 1 dX5_hitByWords_120 rfl ?_
                refine zr_iload 10 dX5_hitByWords_121 rfl ?_
                refine zr_iload 0 dX5_hitByWords_123 rfl ?_
                refine zr_iload 5 dX5_hitByWords_125 rfl ?_
                replace hf := zb1_s hf
                obtain ⟨m36, h35, hf⟩ := hf
                refine zr_callV (ci := 5) [.int x10_13, .int s23, .int v2] (cX5_hit_ok h35) zvs_X5_hit zl_402 zl_403 (fX5_hit_ck h35) rfl rfl zl_401 rfl (Nat.le_of_ble_eq_true rfl) (Nat.le_of_ble_eq_true rfl) (Nat.le_of_ble_eq_true rfl) (Nat.le_of_ble_eq_true rfl) dX5_hitByWords_127 rfl ?_
                cases hf
                exact zr_lv [1, 2, 3, 4, 5, 6, 7, 8, 9, 10, 11, 0] rfl hj28
            clear hf
            have hf := hg
            clear hg
            refine zr_if_eq 90 dX5_hitByWords_83 (by decide) (fun hc => ?_) (fun hc => ?_)
            · rw [if_pos hc] at hf
              refine zr_iload_n 4 dX5_hitByWords_90 rfl ?_
              refine zr_aload_n 2 dX5_hitByWords_91 rfl ?_
              refine zr_iload_n 3 dX5_hitByWords_92 rfl ?_
              refine zr_iload 10 dX5_hitByWords_93 rfl ?_
              refine zr_iload 7 dX5_hitByWords_95 rfl ?_
              replace hf := zb1_s hf
              obtain ⟨v38, h37, hf⟩ := hf
              refine zr_callV (ci := 9) [.int x2, .int x10_13, .int s5] (cX9_way_ok h37) zvs_X9_way zl_20 zl_21 (fX9_way_ck h37) rfl rfl zl_373 rfl (Nat.le_of_ble_eq_true rfl) (Nat.le_of_ble_eq_true rfl) (Nat.le_of_ble_eq_true rfl) (Nat.le_of_ble_eq_true rfl) dX5_hitByWords_97 rfl ?_
              refine zr_iadd dX5_hitByWords_100 ?_
              cases hf
              exact zr_lv [1, 2, 3, 4, 5, 6, 7, 8, 9, 10, 0] rfl hj24
            · rw [if_neg hc] at hf
              refine zr_iconst (-1) dX5_hitByWords_86 (by decide) ?_
              refine zr_goto 101 dX5_hitByWords_87 (by decide) ?_
              cases hf
              exact zr_lv [1, 2, 3, 4, 5, 6, 7, 8, 9, 10, 0] rfl hj24
    exact zr_lv [4, 5, 6, 7, 9, 10, 3, 2, 1, 0] rfl (hL39 _ 0 m12 hf)
  clear hf
  have hf := hg
  clear hg
  refine zr_icmp_ne 24 dX5_hitByWords_17 (by decide) (fun hc => ?_) (fun hc => ?_)
  · rw [if_neg hc] at hf
    refine zr_iconst 1 dX5_hitByWords_24 (by decide) ?_
    cases hf
    exact zr_lv [2, 3, 4, 5, 6, 1, 0] rfl hj6
  · rw [if_pos hc] at hf
    refine zr_iconst 2 dX5_hitByWords_20 (by decide) ?_
    refine zr_goto 25 dX5_hitByWords_21 (by decide) ?_
    cases hf
    exact zr_lv [2, 3, 4, 5, 6, 1, 0] rfl hj6
theorem zl_412 : Cond.code yX5_hitByWords cX5_hitByWords 13 (none) ∈ zt := zt_at 1149 (by decide +kernel)
theorem zvs_X5_hitByWords : zvS yX5_hitByWords cX5_hitByWords 13 (none) 4 := ⟨zl_412, zl_378, ⟨by decide +kernel, by decide +kernel, by decide +kernel⟩, by decide⟩
theorem zl_413 : Cond.methodLink RX5 93 yX5_hitByWords ∈ zt := zt_at 1146 (by decide +kernel)
theorem zl_414 : Cond.instanceMethod yX5_hitByWords ∈ zt := zt_at 1148 (by decide +kernel)
theorem zl_415 : Cond.selects RX5 yX5_hitByWords yX5_hitByWords ∈ zt := zt_at 38 (by decide +kernel)
theorem dX5_whereToListen_0 : decode cX5_whereToListen 0 = .ok (.aload_n 0, 1) := by decide +kernel
theorem dX5_whereToListen_1 : decode cX5_whereToListen 1 = .ok (.getfield 9, 3) := by decide +kernel
theorem dX5_whereToListen_4 : decode cX5_whereToListen 4 = .ok (.iconst 0, 1) := by decide +kernel
theorem dX5_whereToListen_5 : decode cX5_whereToListen 5 = .ok (.invokestatic 87, 3) := by decide +kernel
theorem dX5_whereToListen_8 : decode cX5_whereToListen 8 = .ok (.iconst 0, 1) := by decide +kernel
theorem dX5_whereToListen_9 : decode cX5_whereToListen 9 = .ok (.istore_n 3, 1) := by decide +kernel
theorem dX5_whereToListen_10 : decode cX5_whereToListen 10 = .ok (.iconst 0, 1) := by decide +kernel
theorem dX5_whereToListen_11 : decode cX5_whereToListen 11 = .ok (.istore 4, 2) := by decide +kernel
theorem dX5_whereToListen_13 : decode cX5_whereToListen 13 = .ok (.iload 4, 2) := by decide +kernel
theorem dX5_whereToListen_15 : decode cX5_whereToListen 15 = .ok (.aload_n 1, 1) := by decide +kernel
theorem dX5_whereToListen_16 : decode cX5_whereToListen 16 = .ok (.getfield 76, 3) := by decide +kernel
theorem dX5_whereToListen_19 : decode cX5_whereToListen 19 = .ok (.if_icmp .gt 55, 3) := by decide +kernel
theorem dX5_whereToListen_22 : decode cX5_whereToListen 22 = .ok (.iconst 0, 1) := by decide +kernel
theorem dX5_whereToListen_23 : decode cX5_whereToListen 23 = .ok (.istore 5, 2) := by decide +kernel
theorem dX5_whereToListen_25 : decode cX5_whereToListen 25 = .ok (.iload 5, 2) := by decide +kernel
theorem dX5_whereToListen_27 : decode cX5_whereToListen 27 = .ok (.bipush 100, 2) := by decide +kernel
theorem dX5_whereToListen_29 : decode cX5_whereToListen 29 = .ok (.if_icmp .ge 39, 3) := by decide +kernel
theorem dX5_whereToListen_32 : decode cX5_whereToListen 32 = .ok (.aload_n 1, 1) := by decide +kernel
theorem dX5_whereToListen_33 : decode cX5_whereToListen 33 = .ok (.aload_n 2, 1) := by decide +kernel
theorem dX5_whereToListen_34 : decode cX5_whereToListen 34 = .ok (.iload 4, 2) := by decide +kernel
theorem dX5_whereToListen_36 : decode cX5_whereToListen 36 = .ok (.iload 5, 2) := by decide +kernel
theorem dX5_whereToListen_38 : decode cX5_whereToListen 38 = .ok (.invokestatic 67, 3) := by decide +kernel
theorem dX5_whereToListen_41 : decode cX5_whereToListen 41 = .ok (.istore 6, 2) := by decide +kernel
theorem dX5_whereToListen_43 : decode cX5_whereToListen 43 = .ok (.iload_n 3, 1) := by decide +kernel
theorem dX5_whereToListen_44 : decode cX5_whereToListen 44 = .ok (.iload 6, 2) := by decide +kernel
theorem dX5_whereToListen_46 : decode cX5_whereToListen 46 = .ok (.invokestatic 71, 3) := by decide +kernel
theorem dX5_whereToListen_49 : decode cX5_whereToListen 49 = .ok (.iadd, 1) := by decide +kernel
theorem dX5_whereToListen_50 : decode cX5_whereToListen 50 = .ok (.istore_n 3, 1) := by decide +kernel
theorem dX5_whereToListen_51 : decode cX5_whereToListen 51 = .ok (.aload_n 0, 1) := by decide +kernel
theorem dX5_whereToListen_52 : decode cX5_whereToListen 52 = .ok (.aload_n 1, 1) := by decide +kernel
theorem dX5_whereToListen_53 : decode cX5_whereToListen 53 = .ok (.iload 4, 2) := by decide +kernel
theorem dX5_whereToListen_55 : decode cX5_whereToListen 55 = .ok (.iload 5, 2) := by decide +kernel
theorem dX5_whereToListen_57 : decode cX5_whereToListen 57 = .ok (.iload 6, 2) := by decide +kernel
theorem dX5_whereToListen_59 : decode cX5_whereToListen 59 = .ok (.invokevirtual 93, 3) := by decide +kernel
theorem dX5_whereToListen_62 : decode cX5_whereToListen 62 = .ok (.iinc 5 1, 3) := by decide +kernel
theorem dX5_whereToListen_65 : decode cX5_whereToListen 65 = .ok (.goto (-40), 3) := by decide +kernel
theorem dX5_whereToListen_68 : decode cX5_whereToListen 68 = .ok (.iinc 4 1, 3) := by decide +kernel
theorem dX5_whereToListen_71 : decode cX5_whereToListen 71 = .ok (.goto (-58), 3) := by decide +kernel
theorem dX5_whereToListen_74 : decode cX5_whereToListen 74 = .ok (.iconst (-1), 1) := by decide +kernel
theorem dX5_whereToListen_75 : decode cX5_whereToListen 75 = .ok (.istore 4, 2) := by decide +kernel
theorem dX5_whereToListen_77 : decode cX5_whereToListen 77 = .ok (.iload_n 3, 1) := by decide +kernel
theorem dX5_whereToListen_78 : decode cX5_whereToListen 78 = .ok (.istore 5, 2) := by decide +kernel
theorem dX5_whereToListen_80 : decode cX5_whereToListen 80 = .ok (.iconst 0, 1) := by decide +kernel
theorem dX5_whereToListen_81 : decode cX5_whereToListen 81 = .ok (.istore 6, 2) := by decide +kernel
theorem dX5_whereToListen_83 : decode cX5_whereToListen 83 = .ok (.iload 6, 2) := by decide +kernel
theorem dX5_whereToListen_85 : decode cX5_whereToListen 85 = .ok (.aload_n 1, 1) := by decide +kernel
theorem dX5_whereToListen_86 : decode cX5_whereToListen 86 = .ok (.getfield 76, 3) := by decide +kernel
theorem dX5_whereToListen_89 : decode cX5_whereToListen 89 = .ok (.iconst 1, 1) := by decide +kernel
theorem dX5_whereToListen_90 : decode cX5_whereToListen 90 = .ok (.iadd, 1) := by decide +kernel
theorem dX5_whereToListen_91 : decode cX5_whereToListen 91 = .ok (.bipush 100, 2) := by decide +kernel
theorem dX5_whereToListen_93 : decode cX5_whereToListen 93 = .ok (.imul, 1) := by decide +kernel
theorem dX5_whereToListen_94 : decode cX5_whereToListen 94 = .ok (.if_icmp .ge 55, 3) := by decide +kernel
theorem dX5_whereToListen_97 : decode cX5_whereToListen 97 = .ok (.iload_n 3, 1) := by decide +kernel
theorem dX5_whereToListen_98 : decode cX5_whereToListen 98 = .ok (.ifCond .le 51, 3) := by decide +kernel
theorem dX5_whereToListen_101 : decode cX5_whereToListen 101 = .ok (.aload_n 0, 1) := by decide +kernel
theorem dX5_whereToListen_102 : decode cX5_whereToListen 102 = .ok (.getfield 9, 3) := by decide +kernel
theorem dX5_whereToListen_105 : decode cX5_whereToListen 105 = .ok (.iload 6, 2) := by decide +kernel
theorem dX5_whereToListen_107 : decode cX5_whereToListen 107 = .ok (.iaload, 1) := by decide +kernel
theorem dX5_whereToListen_108 : decode cX5_whereToListen 108 = .ok (.iload_n 3, 1) := by decide +kernel
theorem dX5_whereToListen_109 : decode cX5_whereToListen 109 = .ok (.aload_n 0, 1) := by decide +kernel
theorem dX5_whereToListen_110 : decode cX5_whereToListen 110 = .ok (.getfield 9, 3) := by decide +kernel
theorem dX5_whereToListen_113 : decode cX5_whereToListen 113 = .ok (.iload 6, 2) := by decide +kernel
theorem dX5_whereToListen_115 : decode cX5_whereToListen 115 = .ok (.iaload, 1) := by decide +kernel
theorem dX5_whereToListen_116 : decode cX5_whereToListen 116 = .ok (.isub, 1) := by decide +kernel
theorem dX5_whereToListen_117 : decode cX5_whereToListen 117 = .ok (.invokestatic 97, 3) := by decide +kernel
theorem dX5_whereToListen_120 : decode cX5_whereToListen 120 = .ok (.istore 7, 2) := by decide +kernel
theorem dX5_whereToListen_122 : decode cX5_whereToListen 122 = .ok (.iload 4, 2) := by decide +kernel
theorem dX5_whereToListen_124 : decode cX5_whereToListen 124 = .ok (.iconst (-1), 1) := by decide +kernel
theorem dX5_whereToListen_125 : decode cX5_whereToListen 125 = .ok (.if_icmp .eq 10, 3) := by decide +kernel
theorem dX5_whereToListen_128 : decode cX5_whereToListen 128 = .ok (.iload 7, 2) := by decide +kernel
theorem dX5_whereToListen_130 : decode cX5_whereToListen 130 = .ok (.iload 5, 2) := by decide +kernel
theorem dX5_whereToListen_132 : decode cX5_whereToListen 132 = .ok (.if_icmp .ge 11, 3) := by decide +kernel
theorem dX5_whereToListen_135 : decode cX5_whereToListen 135 = .ok (.iload 7, 2) := by decide +kernel
theorem dX5_whereToListen_137 : decode cX5_whereToListen 137 = .ok (.istore 5, 2) := by decide +kernel
theorem dX5_whereToListen_139 : decode cX5_whereToListen 139 = .ok (.iload 6, 2) := by decide +kernel
theorem dX5_whereToListen_141 : decode cX5_whereToListen 141 = .ok (.istore 4, 2) := by decide +kernel
theorem dX5_whereToListen_143 : decode cX5_whereToListen 143 = .ok (.iinc 6 1, 3) := by decide +kernel
theorem dX5_whereToListen_146 : decode cX5_whereToListen 146 = .ok (.goto (-63), 3) := by decide +kernel
theorem dX5_whereToListen_149 : decode cX5_whereToListen 149 = .ok (.iload 4, 2) := by decide +kernel
theorem dX5_whereToListen_151 : decode cX5_whereToListen 151 = .ok (.ireturn, 1) := by decide +kernel
def fX5_whereToListen_l25x (x1 : Nat) (x2 : Nat) (x4_6 : Int32) (x0 : Nat) (F18 : Int32 → Int32 → zM → Option (Int32 × zM)) (x3_15 : Int32) (x5_16 : Int32) (m17 : zM) : Option (Int32 × zM) :=
  if 100 ≤ x5_16 then (
  some (x3_15, m17))
  else (
  zb1 (fX5_wordsMaybe m17 x1 x2 x4_6 x5_16) fun v24 =>
  zb1 (fJ6_bitCount_0f7a4 m17 v24) fun v26 =>
  zb1 (fX5_hitByWords m17 x0 x1 x4_6 x5_16 v24) fun m28 =>
  F18 (x3_15 + v26) (x5_16 + 1) m28)
def fX5_whereToListen_l13 (x1 : Nat) (x2 : Nat) (x0 : Nat) (F8 : Int32 → Int32 → zM → Option (Int32 × zM)) (x3_5 : Int32) (x4_6 : Int32) (m7 : zM) : Option (Int32 × zM) :=
  zb1 (zm_gI m7 9 x1 0) fun v13 =>
  if v13 < x4_6 then (
  some (x3_5, m7))
  else (
  zb2 (zf3 (fX5_whereToListen_l25x x1 x2 x4_6 x0) zfu x3_5 0 m7) fun x3_20 m21 =>
  F8 x3_20 (x4_6 + 1) m21)
def fX5_whereToListen_l83 (m11 : zM) (x1 : Nat) (x3_10 : Int32) (x0 : Nat) (F34 : Int32 → Int32 → Int32 → Option (Int32)) (x4_31 : Int32) (x5_32 : Int32) (x6_33 : Int32) : Option (Int32) :=
  zb1 (zm_gI m11 9 x1 0) fun v38 =>
  if ((v38 + 1) * 100) ≤ x6_33 then (
  some x4_31)
  else (
  if x3_10 ≤ 0 then (
  some x4_31)
  else (
  zb1 (zm_gR m11 5 x0 0) fun v40 =>
  zb1 (zm_aI m11 0 v40 x6_33) fun v42 =>
  zb1 (zm_gR m11 5 x0 0) fun v44 =>
  zb1 (zm_aI m11 0 v44 x6_33) fun v46 =>
  zb2 (if x4_31 = (-1) then (
  some (x6_33, (if v42 < (x3_10 - v46) then (x3_10 - v46) else v42 : Int32)))
  else (
  if x5_32 ≤ (if v42 < (x3_10 - v46) then (x3_10 - v46) else v42 : Int32) then (
  some (x4_31, x5_32))
  else (
  some (x6_33, (if v42 < (x3_10 - v46) then (x3_10 - v46) else v42 : Int32))))) fun x4_48 x5_49 =>
  F34 x4_48 x5_49 (x6_33 + 1)))
def fX5_whereToListen (μ : zM) (x0 : Nat) (x1 : Nat) (x2 : Nat) : Option (Int32 × zM) := zgd (zm_ck μ 5 x0) <|
  zb1 (zm_gR μ 5 x0 0) fun v1 =>
  zb1 (fJ7_fill_53178 μ v1 0) fun m4 =>
  zb2 (zf3 (fX5_whereToListen_l13 x1 x2 x0) zfu 0 0 m4) fun x3_10 m11 =>
  zb1 (zf3 (fX5_whereToListen_l83 m11 x1 x3_10 x0) zfu (-1) x3_10 0) fun x4_36 =>
  some (x4_36, m11)
theorem fX5_whereToListen_ck {μ : zM} {x0 : Nat} {x1 : Nat} {x2 : Nat} {z : Int32 × zM} (h : fX5_whereToListen μ x0 x1 x2 = some z) : zm_ck μ 5 x0 = true := (zgd_s h).1
set_option maxHeartbeats 4000000 in
set_option maxRecDepth 100000 in
theorem cX5_whereToListen_ok {μ : zM} {x0 : Nat} {x1 : Nat} {x2 : Nat} {r : Int32} {mo : zM} (hf : fX5_whereToListen μ x0 x1 x2 = some (r, mo)) : zC yX5_whereToListen cX5_whereToListen 8 (some .int) 4 0 0 [.ref x0, .ref x1, .ref x2] μ (some (.int r)) mo := by
  replace hf := (zgd_s hf).2
  refine zC.of (by decide) (Nat.le_of_ble_eq_true rfl) (fun K hin => ?_)
  clear hin
  show zz K cX5_whereToListen (8, RX5, some .int, 4, 0, 0, some (.int r), mo) 0 0 0 [(0, .ref x0), (1, .ref x1), (2, .ref x2)] [] μ
  refine zr_aload_n 0 dX5_whereToListen_0 rfl ?_
  replace hf := zb1_s hf
  obtain ⟨v1, h2, hf⟩ := hf
  refine zr_get (zm_gR_g h2) zk5 (by decide) zl_366 dX5_whereToListen_1 ?_
  refine zr_iconst 0 dX5_whereToListen_4 (by decide) ?_
  replace hf := zb1_s hf
  obtain ⟨m4, h3, hf⟩ := hf
  refine zr_callS [.ref v1, .int 0] (cJ7_fill_53178_ok h3) zvs_J7_fill_53178 zl_49 zl_397 rfl (Nat.le_of_ble_eq_true rfl) (Nat.le_of_ble_eq_true rfl) (Nat.le_of_ble_eq_true rfl) (Nat.le_of_ble_eq_true rfl) dX5_whereToListen_5 rfl ?_
  refine zr_iconst 0 dX5_whereToListen_8 (by decide) ?_
  refine zr_istore_n [(3, .int 0), (0, .ref x0), (1, .ref x1), (2, .ref x2)] dX5_whereToListen_9 (Nat.le_of_ble_eq_true rfl) rfl ?_
  refine zr_iconst 0 dX5_whereToListen_10 (by decide) ?_
  refine zr_istore [(4, .int 0), (3, .int 0), (0, .ref x0), (1, .ref x1), (2, .ref x2)] dX5_whereToListen_11 (Nat.le_of_ble_eq_true rfl) rfl ?_
  replace hf := zb2_s hf
  obtain ⟨x3_10, m11, hg, hf⟩ := hf
  have hj12 : zz K cX5_whereToListen (8, RX5, some .int, 4, 0, 0, some (.int r), mo) 0 0 74 [(0, .ref x0), (1, .ref x1), (3, .int x3_10)] [] m11 := by
    refine zr_iconst (-1) dX5_whereToListen_74 (by decide) ?_
    refine zr_istore [(4, .int (-1)), (0, .ref x0), (1, .ref x1), (3, .int x3_10)] dX5_whereToListen_75 (Nat.le_of_ble_eq_true rfl) rfl ?_
    refine zr_iload_n 3 dX5_whereToListen_77 rfl ?_
    refine zr_istore [(5, .int x3_10), (4, .int (-1)), (0, .ref x0), (1, .ref x1), (3, .int x3_10)] dX5_whereToListen_78 (Nat.le_of_ble_eq_true rfl) rfl ?_
    refine zr_iconst 0 dX5_whereToListen_80 (by decide) ?_
    refine zr_istore [(6, .int 0), (5, .int x3_10), (4, .int (-1)), (0, .ref x0), (1, .ref x1), (3, .int x3_10)] dX5_whereToListen_81 (Nat.le_of_ble_eq_true rfl) rfl ?_
    replace hf := zb1_s hf
    obtain ⟨x4_36, hg, hf⟩ := hf
    have hj37 : zz K cX5_whereToListen (8, RX5, some .int, 4, 0, 0, some (.int r), mo) 0 0 149 [(4, .int x4_36)] [] m11 := by
      refine zr_iload 0 dX5_whereToListen_149 rfl ?_
      cases hf
      exact zr_iret dX5_whereToListen_151
    clear hf
    have hf := hg
    clear hg
    have hL51 : ∀ (n : Nat) (x4_31 : Int32) (x5_32 : Int32) (x6_33 : Int32), zf3 (fX5_whereToListen_l83 m11 x1 x3_10 x0) n x4_31 x5_32 x6_33 = some x4_36 → zz K cX5_whereToListen (8, RX5, some .int, 4, 0, 0, some (.int r), mo) 0 0 83 [(0, .ref x0), (1, .ref x1), (3, .int x3_10), (4, .int x4_31), (5, .int x5_32), (6, .int x6_33)] [] m11 := by
      intro n
      induction n with
      | zero => intro x4_31 x5_32 x6_33 hf; cases hf
      | succ n ih35 =>
        intro x4_31 x5_32 x6_33 hf
        replace hf := zf3_s hf
        generalize zf3 (fX5_whereToListen_l83 m11 x1 x3_10 x0) n = F34 at hf ih35
        unfold fX5_whereToListen_l83 at hf
        refine zr_iload 5 dX5_whereToListen_83 rfl ?_
        refine zr_aload_n 1 dX5_whereToListen_85 rfl ?_
        replace hf := zb1_s hf
        obtain ⟨v38, h39, hf⟩ := hf
        refine zr_get (zm_gI_g h39) zk9 (by decide) zl_390 dX5_whereToListen_86 ?_
        refine zr_iconst 1 dX5_whereToListen_89 (by decide) ?_
        refine zr_iadd dX5_whereToListen_90 ?_
        refine zr_bipush 100 dX5_whereToListen_91 (by decide) ?_
        refine zr_imul dX5_whereToListen_93 ?_
        refine zr_icmp_ge 149 dX5_whereToListen_94 (by decide) (fun hc => ?_) (fun hc => ?_)
        · rw [if_pos hc] at hf
          cases hf
          exact zr_lv [3] rfl hj37
        · rw [if_neg hc] at hf
          refine zr_iload_n 2 dX5_whereToListen_97 rfl ?_
          refine zr_if_le 149 dX5_whereToListen_98 (by decide) (fun hc => ?_) (fun hc => ?_)
          · rw [if_pos hc] at hf
            cases hf
            exact zr_lv [3] rfl hj37
          · rw [if_neg hc] at hf
            refine zr_aload_n 0 dX5_whereToListen_101 rfl ?_
            replace hf := zb1_s hf
            obtain ⟨v40, h41, hf⟩ := hf
            refine zr_get (zm_gR_g h41) zk5 (by decide) zl_366 dX5_whereToListen_102 ?_
            refine zr_iload 5 dX5_whereToListen_105 rfl ?_
            replace hf := zb1_s hf
            obtain ⟨v42, h43, hf⟩ := hf
            refine zr_iald h43 dX5_whereToListen_107 ?_
            refine zr_iload_n 2 dX5_whereToListen_108 rfl ?_
            refine zr_aload_n 0 dX5_whereToListen_109 rfl ?_
            replace hf := zb1_s hf
            obtain ⟨v44, h45, hf⟩ := hf
            refine zr_get (zm_gR_g h45) zk5 (by decide) zl_366 dX5_whereToListen_110 ?_
            refine zr_iload 5 dX5_whereToListen_113 rfl ?_
            replace hf := zb1_s hf
            obtain ⟨v46, h47, hf⟩ := hf
            refine zr_iald h47 dX5_whereToListen_115 ?_
            refine zr_isub dX5_whereToListen_116 ?_
            refine zr_mmax zl_398 zl_55 zl_11 zl_56 (Nat.le_of_ble_eq_true rfl) (Nat.le_of_ble_eq_true rfl) (Nat.le_of_ble_eq_true rfl) (Nat.le_of_ble_eq_true rfl) dX5_whereToListen_117 ?_
            refine zr_istore [(7, .int (if v42 < (x3_10 - v46) then (x3_10 - v46) else v42 : Int32)), (0, .ref x0), (1, .ref x1), (3, .int x3_10), (4, .int x4_31), (5, .int x5_32), (6, .int x6_33)] dX5_whereToListen_120 (Nat.le_of_ble_eq_true rfl) rfl ?_
            refine zr_iload 4 dX5_whereToListen_122 rfl ?_
            refine zr_iconst (-1) dX5_whereToListen_124 (by decide) ?_
            replace hf := zb2_s hf
            obtain ⟨x4_48, x5_49, hg, hf⟩ := hf
            have hj50 : zz K cX5_whereToListen (8, RX5, some .int, 4, 0, 0, some (.int r), mo) 0 0 143 [(0, .ref x0), (1, .ref x1), (3, .int x3_10), (4, .int x4_48), (5, .int x5_49), (6, .int x6_33)] [] m11 := by
              refine zr_iinc (j := 5) (x6_33 + 1) [(6, .int (x6_33 + 1)), (0, .ref x0), (1, .ref x1), (3, .int x3_10), (4, .int x4_48), (5, .int x5_49)] dX5_whereToListen_143 rfl rfl (Nat.le_of_ble_eq_true rfl) rfl ?_
              refine zr_goto 83 dX5_whereToListen_146 (by decide) ?_
              exact zr_lv [1, 2, 3, 4, 5, 0] rfl (ih35 x4_48 x5_49 (x6_33 + 1) hf)
            clear hf
            have hf := hg
            clear hg
            refine zr_icmp_eq 135 dX5_whereToListen_125 (by decide) (fun hc => ?_) (fun hc => ?_)
            · rw [if_pos hc] at hf
              refine zr_iload 0 dX5_whereToListen_135 rfl ?_
              refine zr_istore [(5, .int (if v42 < (x3_10 - v46) then (x3_10 - v46) else v42 : Int32)), (7, .int (if v42 < (x3_10 - v46) then (x3_10 - v46) else v42 : Int32)), (0, .ref x0), (1, .ref x1), (3, .int x3_10), (4, .int x4_31), (6, .int x6_33)] dX5_whereToListen_137 (Nat.le_of_ble_eq_true rfl) rfl ?_
              refine zr_iload 6 dX5_whereToListen_139 rfl ?_
              refine zr_istore [(4, .int x6_33), (5, .int (if v42 < (x3_10 - v46) then (x3_10 - v46) else v42 : Int32)), (7, .int (if v42 < (x3_10 - v46) then (x3_10 - v46) else v42 : Int32)), (0, .ref x0), (1, .ref x1), (3, .int x3_10), (6, .int x6_33)] dX5_whereToListen_141 (Nat.le_of_ble_eq_true rfl) rfl ?_
              cases hf
              exact zr_lv [3, 4, 5, 0, 1, 6] rfl hj50
            · rw [if_neg hc] at hf
              refine zr_iload 0 dX5_whereToListen_128 rfl ?_
              refine zr_iload 5 dX5_whereToListen_130 rfl ?_
              refine zr_icmp_ge 143 dX5_whereToListen_132 (by decide) (fun hc => ?_) (fun hc => ?_)
              · rw [if_pos hc] at hf
                cases hf
                exact zr_lv [1, 2, 3, 4, 5, 6] rfl hj50
              · rw [if_neg hc] at hf
                refine zr_iload 0 dX5_whereToListen_135 rfl ?_
                refine zr_istore [(5, .int (if v42 < (x3_10 - v46) then (x3_10 - v46) else v42 : Int32)), (7, .int (if v42 < (x3_10 - v46) then (x3_10 - v46) else v42 : Int32)), (0, .ref x0), (1, .ref x1), (3, .int x3_10), (4, .int x4_31), (6, .int x6_33)] dX5_whereToListen_137 (Nat.le_of_ble_eq_true rfl) rfl ?_
                refine zr_iload 6 dX5_whereToListen_139 rfl ?_
                refine zr_istore [(4, .int x6_33), (5, .int (if v42 < (x3_10 - v46) then (x3_10 - v46) else v42 : Int32)), (7, .int (if v42 < (x3_10 - v46) then (x3_10 - v46) else v42 : Int32)), (0, .ref x0), (1, .ref x1), (3, .int x3_10), (6, .int x6_33)] dX5_whereToListen_141 (Nat.le_of_ble_eq_true rfl) rfl ?_
                cases hf
                exact zr_lv [3, 4, 5, 0, 1, 6] rfl hj50
    exact zr_lv [3, 4, 5, 2, 1, 0] rfl (hL51 _ (-1) x3_10 0 hf)
  clear hf
  have hf := hg
  clear hg
  have hL30 : ∀ (n : Nat) (x3_5 : Int32) (x4_6 : Int32) (m7 : zM), zf3 (fX5_whereToListen_l13 x1 x2 x0) n x3_5 x4_6 m7 = some (x3_10, m11) → zz K cX5_whereToListen (8, RX5, some .int, 4, 0, 0, some (.int r), mo) 0 0 13 [(0, .ref x0), (1, .ref x1), (2, .ref x2), (3, .int x3_5), (4, .int x4_6)] [] m7 := by
    intro n
    induction n with
    | zero => intro x3_5 x4_6 m7 hf; cases hf
    | succ n ih9 =>
      intro x3_5 x4_6 m7 hf
      replace hf := zf3_s hf
      generalize zf3 (fX5_whereToListen_l13 x1 x2 x0) n = F8 at hf ih9
      unfold fX5_whereToListen_l13 at hf
      refine zr_iload 4 dX5_whereToListen_13 rfl ?_
      refine zr_aload_n 1 dX5_whereToListen_15 rfl ?_
      replace hf := zb1_s hf
      obtain ⟨v13, h14, hf⟩ := hf
      refine zr_get (zm_gI_g h14) zk9 (by decide) zl_390 dX5_whereToListen_16 ?_
      refine zr_icmp_gt 74 dX5_whereToListen_19 (by decide) (fun hc => ?_) (fun hc => ?_)
      · rw [if_pos hc] at hf
        cases hf
        exact zr_lv [0, 1, 3] rfl hj12
      · rw [if_neg hc] at hf
        refine zr_iconst 0 dX5_whereToListen_22 (by decide) ?_
        refine zr_istore [(5, .int 0), (0, .ref x0), (1, .ref x1), (2, .ref x2), (3, .int x3_5), (4, .int x4_6)] dX5_whereToListen_23 (Nat.le_of_ble_eq_true rfl) rfl ?_
        replace hf := zb2_s hf
        obtain ⟨x3_20, m21, hg, hf⟩ := hf
        have hj22 : zz K cX5_whereToListen (8, RX5, some .int, 4, 0, 0, some (.int r), mo) 0 0 68 [(0, .ref x0), (1, .ref x1), (2, .ref x2), (3, .int x3_20), (4, .int x4_6)] [] m21 := by
          refine zr_iinc (j := 4) (x4_6 + 1) [(4, .int (x4_6 + 1)), (0, .ref x0), (1, .ref x1), (2, .ref x2), (3, .int x3_20)] dX5_whereToListen_68 rfl rfl (Nat.le_of_ble_eq_true rfl) rfl ?_
          refine zr_goto 13 dX5_whereToListen_71 (by decide) ?_
          exact zr_lv [1, 2, 3, 4, 0] rfl (ih9 x3_20 (x4_6 + 1) m21 hf)
        clear hf
        have hf := hg
        clear hg
        have hL29 : ∀ (n : Nat) (x3_15 : Int32) (x5_16 : Int32) (m17 : zM), zf3 (fX5_whereToListen_l25x x1 x2 x4_6 x0) n x3_15 x5_16 m17 = some (x3_20, m21) → zz K cX5_whereToListen (8, RX5, some .int, 4, 0, 0, some (.int r), mo) 0 0 25 [(0, .ref x0), (1, .ref x1), (2, .ref x2), (3, .int x3_15), (4, .int x4_6), (5, .int x5_16)] [] m17 := by
          intro n
          induction n with
          | zero => intro x3_15 x5_16 m17 hf; cases hf
          | succ n ih19 =>
            intro x3_15 x5_16 m17 hf
            replace hf := zf3_s hf
            generalize zf3 (fX5_whereToListen_l25x x1 x2 x4_6 x0) n = F18 at hf ih19
            unfold fX5_whereToListen_l25x at hf
            refine zr_iload 5 dX5_whereToListen_25 rfl ?_
            refine zr_bipush 100 dX5_whereToListen_27 (by decide) ?_
            refine zr_icmp_ge 68 dX5_whereToListen_29 (by decide) (fun hc => ?_) (fun hc => ?_)
            · rw [if_pos hc] at hf
              cases hf
              exact zr_lv [0, 1, 2, 3, 4] rfl hj22
            · rw [if_neg hc] at hf
              refine zr_aload_n 1 dX5_whereToListen_32 rfl ?_
              refine zr_aload_n 2 dX5_whereToListen_33 rfl ?_
              refine zr_iload 4 dX5_whereToListen_34 rfl ?_
              refine zr_iload 5 dX5_whereToListen_36 rfl ?_
              replace hf := zb1_s hf
              obtain ⟨v24, h23, hf⟩ := hf
              refine zr_callS [.ref x1, .ref x2, .int x4_6, .int x5_16] (cX5_wordsMaybe_ok h23) zvs_X5_wordsMaybe zl_388 zl_387 rfl (Nat.le_of_ble_eq_true rfl) (Nat.le_of_ble_eq_true rfl) (Nat.le_of_ble_eq_true rfl) (Nat.le_of_ble_eq_true rfl) dX5_whereToListen_38 rfl ?_
              refine zr_istore [(6, .int v24), (0, .ref x0), (1, .ref x1), (2, .ref x2), (3, .int x3_15), (4, .int x4_6), (5, .int x5_16)] dX5_whereToListen_41 (Nat.le_of_ble_eq_true rfl) rfl ?_
              refine zr_iload_n 4 dX5_whereToListen_43 rfl ?_
              refine zr_iload 0 dX5_whereToListen_44 rfl ?_
              replace hf := zb1_s hf
              obtain ⟨v26, h25, hf⟩ := hf
              refine zr_callS [.int v24] (cJ6_bitCount_0f7a4_ok h25) zvs_J6_bitCount_0f7a4 zl_67 zl_389 rfl (Nat.le_of_ble_eq_true rfl) (Nat.le_of_ble_eq_true rfl) (Nat.le_of_ble_eq_true rfl) (Nat.le_of_ble_eq_true rfl) dX5_whereToListen_46 rfl ?_
              refine zr_iadd dX5_whereToListen_49 ?_
              refine zr_istore_n [(3, .int (x3_15 + v26)), (6, .int v24), (0, .ref x0), (1, .ref x1), (2, .ref x2), (4, .int x4_6), (5, .int x5_16)] dX5_whereToListen_50 (Nat.le_of_ble_eq_true rfl) rfl ?_
              refine zr_aload_n 2 dX5_whereToListen_51 rfl ?_
              refine zr_aload_n 3 dX5_whereToListen_52 rfl ?_
              refine zr_iload 5 dX5_whereToListen_53 rfl ?_
              refine zr_iload 6 dX5_whereToListen_55 rfl ?_
              refine zr_iload 1 dX5_whereToListen_57 rfl ?_
              replace hf := zb1_s hf
              obtain ⟨m28, h27, hf⟩ := hf
              refine zr_callV (ci := 5) [.ref x1, .int x4_6, .int x5_16, .int v24] (cX5_hitByWords_ok h27) zvs_X5_hitByWords zl_414 zl_415 (fX5_hitByWords_ck h27) rfl rfl zl_413 rfl (Nat.le_of_ble_eq_true rfl) (Nat.le_of_ble_eq_true rfl) (Nat.le_of_ble_eq_true rfl) (Nat.le_of_ble_eq_true rfl) dX5_whereToListen_59 rfl ?_
              refine zr_iinc (j := 6) (x5_16 + 1) [(5, .int (x5_16 + 1)), (3, .int (x3_15 + v26)), (6, .int v24), (0, .ref x0), (1, .ref x1), (2, .ref x2), (4, .int x4_6)] dX5_whereToListen_62 rfl rfl (Nat.le_of_ble_eq_true rfl) rfl ?_
              refine zr_goto 25 dX5_whereToListen_65 (by decide) ?_
              exact zr_lv [3, 4, 5, 1, 6, 0] rfl (ih19 (x3_15 + v26) (x5_16 + 1) m28 hf)
        exact zr_lv [1, 2, 3, 4, 5, 0] rfl (hL29 _ x3_5 0 m7 hf)
  exact zr_lv [2, 3, 4, 1, 0] rfl (hL30 _ 0 0 m4 hf)
theorem zl_416 : Cond.methodLink RX6 28 arraycopyName ∈ zt := zt_at 753 (by decide +kernel)
theorem dX6_copyFrom_0 : decode cX6_copyFrom 0 = .ok (.aload_n 0, 1) := by decide +kernel
theorem dX6_copyFrom_1 : decode cX6_copyFrom 1 = .ok (.aload_n 1, 1) := by decide +kernel
theorem dX6_copyFrom_2 : decode cX6_copyFrom 2 = .ok (.getfield 24, 3) := by decide +kernel
theorem dX6_copyFrom_5 : decode cX6_copyFrom 5 = .ok (.putfield 24, 3) := by decide +kernel
theorem dX6_copyFrom_8 : decode cX6_copyFrom 8 = .ok (.aload_n 1, 1) := by decide +kernel
theorem dX6_copyFrom_9 : decode cX6_copyFrom 9 = .ok (.getfield 9, 3) := by decide +kernel
theorem dX6_copyFrom_12 : decode cX6_copyFrom 12 = .ok (.iconst 0, 1) := by decide +kernel
theorem dX6_copyFrom_13 : decode cX6_copyFrom 13 = .ok (.aload_n 0, 1) := by decide +kernel
theorem dX6_copyFrom_14 : decode cX6_copyFrom 14 = .ok (.getfield 9, 3) := by decide +kernel
theorem dX6_copyFrom_17 : decode cX6_copyFrom 17 = .ok (.iconst 0, 1) := by decide +kernel
theorem dX6_copyFrom_18 : decode cX6_copyFrom 18 = .ok (.bipush 8, 2) := by decide +kernel
theorem dX6_copyFrom_20 : decode cX6_copyFrom 20 = .ok (.invokestatic 28, 3) := by decide +kernel
theorem dX6_copyFrom_23 : decode cX6_copyFrom 23 = .ok (.aload_n 1, 1) := by decide +kernel
theorem dX6_copyFrom_24 : decode cX6_copyFrom 24 = .ok (.getfield 15, 3) := by decide +kernel
theorem dX6_copyFrom_27 : decode cX6_copyFrom 27 = .ok (.iconst 0, 1) := by decide +kernel
theorem dX6_copyFrom_28 : decode cX6_copyFrom 28 = .ok (.aload_n 0, 1) := by decide +kernel
theorem dX6_copyFrom_29 : decode cX6_copyFrom 29 = .ok (.getfield 15, 3) := by decide +kernel
theorem dX6_copyFrom_32 : decode cX6_copyFrom 32 = .ok (.iconst 0, 1) := by decide +kernel
theorem dX6_copyFrom_33 : decode cX6_copyFrom 33 = .ok (.bipush 8, 2) := by decide +kernel
theorem dX6_copyFrom_35 : decode cX6_copyFrom 35 = .ok (.invokestatic 28, 3) := by decide +kernel
theorem dX6_copyFrom_38 : decode cX6_copyFrom 38 = .ok (.aload_n 1, 1) := by decide +kernel
theorem dX6_copyFrom_39 : decode cX6_copyFrom 39 = .ok (.getfield 18, 3) := by decide +kernel
theorem dX6_copyFrom_42 : decode cX6_copyFrom 42 = .ok (.iconst 0, 1) := by decide +kernel
theorem dX6_copyFrom_43 : decode cX6_copyFrom 43 = .ok (.aload_n 0, 1) := by decide +kernel
theorem dX6_copyFrom_44 : decode cX6_copyFrom 44 = .ok (.getfield 18, 3) := by decide +kernel
theorem dX6_copyFrom_47 : decode cX6_copyFrom 47 = .ok (.iconst 0, 1) := by decide +kernel
theorem dX6_copyFrom_48 : decode cX6_copyFrom 48 = .ok (.bipush 8, 2) := by decide +kernel
theorem dX6_copyFrom_50 : decode cX6_copyFrom 50 = .ok (.invokestatic 28, 3) := by decide +kernel
theorem dX6_copyFrom_53 : decode cX6_copyFrom 53 = .ok (.aload_n 1, 1) := by decide +kernel
theorem dX6_copyFrom_54 : decode cX6_copyFrom 54 = .ok (.getfield 21, 3) := by decide +kernel
theorem dX6_copyFrom_57 : decode cX6_copyFrom 57 = .ok (.iconst 0, 1) := by decide +kernel
theorem dX6_copyFrom_58 : decode cX6_copyFrom 58 = .ok (.aload_n 0, 1) := by decide +kernel
theorem dX6_copyFrom_59 : decode cX6_copyFrom 59 = .ok (.getfield 21, 3) := by decide +kernel
theorem dX6_copyFrom_62 : decode cX6_copyFrom 62 = .ok (.iconst 0, 1) := by decide +kernel
theorem dX6_copyFrom_63 : decode cX6_copyFrom 63 = .ok (.bipush 8, 2) := by decide +kernel
theorem dX6_copyFrom_65 : decode cX6_copyFrom 65 = .ok (.invokestatic 28, 3) := by decide +kernel
theorem dX6_copyFrom_68 : decode cX6_copyFrom 68 = .ok (.return_, 1) := by decide +kernel
def fX6_copyFrom (μ : zM) (x0 : Nat) (x1 : Nat) : Option (zM) := zgd (zm_ck μ 6 x0) <|
  zb1 (zm_gI μ 6 x1 0) fun v1 =>
  zb1 (zm_p μ 6 x0 0 (.int v1)) fun m3 =>
  zb1 (zm_gR m3 6 x1 1) fun v5 =>
  zb1 (zm_gR m3 6 x0 1) fun v7 =>
  zb1 (zm_cpy m3 0 v5 0 v7 0 8) fun m9 =>
  zb1 (zm_gR m9 6 x1 2) fun v11 =>
  zb1 (zm_gR m9 6 x0 2) fun v13 =>
  zb1 (zm_cpy m9 0 v11 0 v13 0 8) fun m15 =>
  zb1 (zm_gR m15 6 x1 3) fun v17 =>
  zb1 (zm_gR m15 6 x0 3) fun v19 =>
  zb1 (zm_cpy m15 0 v17 0 v19 0 8) fun m21 =>
  zb1 (zm_gR m21 6 x1 4) fun v23 =>
  zb1 (zm_gR m21 6 x0 4) fun v25 =>
  zb1 (zm_cpy m21 0 v23 0 v25 0 8) fun m27 =>
  some m27
theorem fX6_copyFrom_ck {μ : zM} {x0 : Nat} {x1 : Nat} {z : zM} (h : fX6_copyFrom μ x0 x1 = some z) : zm_ck μ 6 x0 = true := (zgd_s h).1
set_option maxHeartbeats 4000000 in
set_option maxRecDepth 100000 in
theorem cX6_copyFrom_ok {μ : zM} {x0 : Nat} {x1 : Nat} {mo : zM} (hf : fX6_copyFrom μ x0 x1 = some mo) : zC yX6_copyFrom cX6_copyFrom 2 (none) 1 0 0 [.ref x0, .ref x1] μ (none) mo := by
  replace hf := (zgd_s hf).2
  refine zC.of (by decide) (Nat.le_of_ble_eq_true rfl) (fun K hin => ?_)
  clear hin
  show zz K cX6_copyFrom (2, RX6, none, 1, 0, 0, none, mo) 0 0 0 [(0, .ref x0), (1, .ref x1)] [] μ
  refine zr_aload_n 0 dX6_copyFrom_0 rfl ?_
  refine zr_aload_n 1 dX6_copyFrom_1 rfl ?_
  replace hf := zb1_s hf
  obtain ⟨v1, h2, hf⟩ := hf
  refine zr_get (zm_gI_g h2) zk6 (by decide) zl_278 dX6_copyFrom_2 ?_
  replace hf := zb1_s hf
  obtain ⟨m3, h4, hf⟩ := hf
  refine zr_put h4 zk6 (by decide) zl_278 rfl rfl rfl dX6_copyFrom_5 ?_
  refine zr_aload_n 1 dX6_copyFrom_8 rfl ?_
  replace hf := zb1_s hf
  obtain ⟨v5, h6, hf⟩ := hf
  refine zr_get (zm_gR_g h6) zk6 (by decide) zl_236 dX6_copyFrom_9 ?_
  refine zr_iconst 0 dX6_copyFrom_12 (by decide) ?_
  refine zr_aload_n 0 dX6_copyFrom_13 rfl ?_
  replace hf := zb1_s hf
  obtain ⟨v7, h8, hf⟩ := hf
  refine zr_get (zm_gR_g h8) zk6 (by decide) zl_236 dX6_copyFrom_14 ?_
  refine zr_iconst 0 dX6_copyFrom_17 (by decide) ?_
  refine zr_bipush 8 dX6_copyFrom_18 (by decide) ?_
  replace hf := zb1_s hf
  obtain ⟨m9, h10, hf⟩ := hf
  refine zr_cpy h10 (by decide) zl_416 zl_99 zl_100 zl_101 (Nat.le_of_ble_eq_true rfl) (Nat.le_of_ble_eq_true rfl) dX6_copyFrom_20 ?_
  refine zr_aload_n 1 dX6_copyFrom_23 rfl ?_
  replace hf := zb1_s hf
  obtain ⟨v11, h12, hf⟩ := hf
  refine zr_get (zm_gR_g h12) zk6 (by decide) zl_237 dX6_copyFrom_24 ?_
  refine zr_iconst 0 dX6_copyFrom_27 (by decide) ?_
  refine zr_aload_n 0 dX6_copyFrom_28 rfl ?_
  replace hf := zb1_s hf
  obtain ⟨v13, h14, hf⟩ := hf
  refine zr_get (zm_gR_g h14) zk6 (by decide) zl_237 dX6_copyFrom_29 ?_
  refine zr_iconst 0 dX6_copyFrom_32 (by decide) ?_
  refine zr_bipush 8 dX6_copyFrom_33 (by decide) ?_
  replace hf := zb1_s hf
  obtain ⟨m15, h16, hf⟩ := hf
  refine zr_cpy h16 (by decide) zl_416 zl_99 zl_100 zl_101 (Nat.le_of_ble_eq_true rfl) (Nat.le_of_ble_eq_true rfl) dX6_copyFrom_35 ?_
  refine zr_aload_n 1 dX6_copyFrom_38 rfl ?_
  replace hf := zb1_s hf
  obtain ⟨v17, h18, hf⟩ := hf
  refine zr_get (zm_gR_g h18) zk6 (by decide) zl_238 dX6_copyFrom_39 ?_
  refine zr_iconst 0 dX6_copyFrom_42 (by decide) ?_
  refine zr_aload_n 0 dX6_copyFrom_43 rfl ?_
  replace hf := zb1_s hf
  obtain ⟨v19, h20, hf⟩ := hf
  refine zr_get (zm_gR_g h20) zk6 (by decide) zl_238 dX6_copyFrom_44 ?_
  refine zr_iconst 0 dX6_copyFrom_47 (by decide) ?_
  refine zr_bipush 8 dX6_copyFrom_48 (by decide) ?_
  replace hf := zb1_s hf
  obtain ⟨m21, h22, hf⟩ := hf
  refine zr_cpy h22 (by decide) zl_416 zl_99 zl_100 zl_101 (Nat.le_of_ble_eq_true rfl) (Nat.le_of_ble_eq_true rfl) dX6_copyFrom_50 ?_
  refine zr_aload_n 1 dX6_copyFrom_53 rfl ?_
  replace hf := zb1_s hf
  obtain ⟨v23, h24, hf⟩ := hf
  refine zr_get (zm_gR_g h24) zk6 (by decide) zl_239 dX6_copyFrom_54 ?_
  refine zr_iconst 0 dX6_copyFrom_57 (by decide) ?_
  refine zr_aload_n 0 dX6_copyFrom_58 rfl ?_
  replace hf := zb1_s hf
  obtain ⟨v25, h26, hf⟩ := hf
  refine zr_get (zm_gR_g h26) zk6 (by decide) zl_239 dX6_copyFrom_59 ?_
  refine zr_iconst 0 dX6_copyFrom_62 (by decide) ?_
  refine zr_bipush 8 dX6_copyFrom_63 (by decide) ?_
  replace hf := zb1_s hf
  obtain ⟨m27, h28, hf⟩ := hf
  refine zr_cpy h28 (by decide) zl_416 zl_99 zl_100 zl_101 (Nat.le_of_ble_eq_true rfl) (Nat.le_of_ble_eq_true rfl) dX6_copyFrom_65 ?_
  cases hf
  exact zr_vret dX6_copyFrom_68
theorem dX6_tell_0 : decode cX6_tell 0 = .ok (.iload_n 1, 1) := by decide +kernel
theorem dX6_tell_1 : decode cX6_tell 1 = .ok (.iconst (-1), 1) := by decide +kernel
theorem dX6_tell_2 : decode cX6_tell 2 = .ok (.if_icmp .ne 17, 3) := by decide +kernel
theorem dX6_tell_5 : decode cX6_tell 5 = .ok (.iload_n 2, 1) := by decide +kernel
theorem dX6_tell_6 : decode cX6_tell 6 = .ok (.ifCond .ne 10, 3) := by decide +kernel
theorem dX6_tell_9 : decode cX6_tell 9 = .ok (.aload_n 0, 1) := by decide +kernel
theorem dX6_tell_10 : decode cX6_tell 10 = .ok (.getfield 24, 3) := by decide +kernel
theorem dX6_tell_13 : decode cX6_tell 13 = .ok (.goto 5, 3) := by decide +kernel
theorem dX6_tell_16 : decode cX6_tell 16 = .ok (.bipush (-2), 2) := by decide +kernel
theorem dX6_tell_18 : decode cX6_tell 18 = .ok (.ireturn, 1) := by decide +kernel
theorem dX6_tell_19 : decode cX6_tell 19 = .ok (.iload_n 1, 1) := by decide +kernel
theorem dX6_tell_20 : decode cX6_tell 20 = .ok (.ifCond .lt 11, 3) := by decide +kernel
theorem dX6_tell_23 : decode cX6_tell 23 = .ok (.iload_n 1, 1) := by decide +kernel
theorem dX6_tell_24 : decode cX6_tell 24 = .ok (.aload_n 0, 1) := by decide +kernel
theorem dX6_tell_25 : decode cX6_tell 25 = .ok (.getfield 24, 3) := by decide +kernel
theorem dX6_tell_28 : decode cX6_tell 28 = .ok (.if_icmp .lt 6, 3) := by decide +kernel
theorem dX6_tell_31 : decode cX6_tell 31 = .ok (.bipush (-2), 2) := by decide +kernel
theorem dX6_tell_33 : decode cX6_tell 33 = .ok (.ireturn, 1) := by decide +kernel
theorem dX6_tell_34 : decode cX6_tell 34 = .ok (.iload_n 2, 1) := by decide +kernel
theorem dX6_tell_35 : decode cX6_tell 35 = .ok (.tableswitch 57 0 3 #[29, 36, 43, 50], 29) := by decide +kernel
theorem dX6_tell_64 : decode cX6_tell 64 = .ok (.aload_n 0, 1) := by decide +kernel
theorem dX6_tell_65 : decode cX6_tell 65 = .ok (.getfield 9, 3) := by decide +kernel
theorem dX6_tell_68 : decode cX6_tell 68 = .ok (.iload_n 1, 1) := by decide +kernel
theorem dX6_tell_69 : decode cX6_tell 69 = .ok (.iaload, 1) := by decide +kernel
theorem dX6_tell_70 : decode cX6_tell 70 = .ok (.ireturn, 1) := by decide +kernel
theorem dX6_tell_71 : decode cX6_tell 71 = .ok (.aload_n 0, 1) := by decide +kernel
theorem dX6_tell_72 : decode cX6_tell 72 = .ok (.getfield 15, 3) := by decide +kernel
theorem dX6_tell_75 : decode cX6_tell 75 = .ok (.iload_n 1, 1) := by decide +kernel
theorem dX6_tell_76 : decode cX6_tell 76 = .ok (.iaload, 1) := by decide +kernel
theorem dX6_tell_77 : decode cX6_tell 77 = .ok (.ireturn, 1) := by decide +kernel
theorem dX6_tell_78 : decode cX6_tell 78 = .ok (.aload_n 0, 1) := by decide +kernel
theorem dX6_tell_79 : decode cX6_tell 79 = .ok (.getfield 18, 3) := by decide +kernel
theorem dX6_tell_82 : decode cX6_tell 82 = .ok (.iload_n 1, 1) := by decide +kernel
theorem dX6_tell_83 : decode cX6_tell 83 = .ok (.iaload, 1) := by decide +kernel
theorem dX6_tell_84 : decode cX6_tell 84 = .ok (.ireturn, 1) := by decide +kernel
theorem dX6_tell_85 : decode cX6_tell 85 = .ok (.aload_n 0, 1) := by decide +kernel
theorem dX6_tell_86 : decode cX6_tell 86 = .ok (.getfield 21, 3) := by decide +kernel
theorem dX6_tell_89 : decode cX6_tell 89 = .ok (.iload_n 1, 1) := by decide +kernel
theorem dX6_tell_90 : decode cX6_tell 90 = .ok (.iaload, 1) := by decide +kernel
theorem dX6_tell_91 : decode cX6_tell 91 = .ok (.ireturn, 1) := by decide +kernel
theorem dX6_tell_92 : decode cX6_tell 92 = .ok (.bipush (-2), 2) := by decide +kernel
theorem dX6_tell_94 : decode cX6_tell 94 = .ok (.ireturn, 1) := by decide +kernel
def fX6_tell (μ : zM) (x0 : Nat) (x1 : Int32) (x2 : Int32) : Option (Int32) := zgd (zm_ck μ 6 x0) <|
  if x1 = (-1) then (
  zb1 (if x2 = 0 then (
  zb1 (zm_gI μ 6 x0 0) fun v25 =>
  some v25)
  else (
  some (-2))) fun s23 =>
  some s23)
  else (
  if x1 < 0 then (
  some (-2))
  else (
  zb1 (zm_gI μ 6 x0 0) fun v1 =>
  if x1 < v1 then (
  if x2 = 0 then (
  zb1 (zm_gR μ 6 x0 1) fun v3 =>
  zb1 (zm_aI μ 0 v3 x1) fun v5 =>
  some v5)
  else (
  if x2 = 1 then (
  zb1 (zm_gR μ 6 x0 2) fun v8 =>
  zb1 (zm_aI μ 0 v8 x1) fun v10 =>
  some v10)
  else (
  if x2 = 2 then (
  zb1 (zm_gR μ 6 x0 3) fun v13 =>
  zb1 (zm_aI μ 0 v13 x1) fun v15 =>
  some v15)
  else (
  if x2 = 3 then (
  zb1 (zm_gR μ 6 x0 4) fun v18 =>
  zb1 (zm_aI μ 0 v18 x1) fun v20 =>
  some v20)
  else (
  some (-2))))))
  else (
  some (-2))))
theorem fX6_tell_ck {μ : zM} {x0 : Nat} {x1 : Int32} {x2 : Int32} {z : Int32} (h : fX6_tell μ x0 x1 x2 = some z) : zm_ck μ 6 x0 = true := (zgd_s h).1
set_option maxHeartbeats 4000000 in
set_option maxRecDepth 100000 in
theorem cX6_tell_ok {μ : zM} {x0 : Nat} {x1 : Int32} {x2 : Int32} {r : Int32} (hf : fX6_tell μ x0 x1 x2 = some r) : zC yX6_tell cX6_tell 3 (some .int) 0 0 0 [.ref x0, .int x1, .int x2] μ (some (.int r)) μ := by
  replace hf := (zgd_s hf).2
  refine zC.of (by decide) (Nat.le_of_ble_eq_true rfl) (fun K hin => ?_)
  clear hin
  show zz K cX6_tell (3, RX6, some .int, 0, 0, 0, some (.int r), μ) 0 0 0 [(0, .ref x0), (1, .int x1), (2, .int x2)] [] μ
  refine zr_iload_n 1 dX6_tell_0 rfl ?_
  refine zr_iconst (-1) dX6_tell_1 (by decide) ?_
  refine zr_icmp_ne 19 dX6_tell_2 (by decide) (fun hc => ?_) (fun hc => ?_)
  · rw [if_neg hc] at hf
    refine zr_iload_n 1 dX6_tell_19 rfl ?_
    refine zr_if_lt 31 dX6_tell_20 (by decide) (fun hc => ?_) (fun hc => ?_)
    · rw [if_pos hc] at hf
      refine zr_bipush (-2) dX6_tell_31 (by decide) ?_
      cases hf
      exact zr_iret dX6_tell_33
    · rw [if_neg hc] at hf
      refine zr_iload_n 1 dX6_tell_23 rfl ?_
      refine zr_aload_n 0 dX6_tell_24 rfl ?_
      replace hf := zb1_s hf
      obtain ⟨v1, h2, hf⟩ := hf
      refine zr_get (zm_gI_g h2) zk6 (by decide) zl_278 dX6_tell_25 ?_
      refine zr_icmp_lt 34 dX6_tell_28 (by decide) (fun hc => ?_) (fun hc => ?_)
      · rw [if_pos hc] at hf
        refine zr_iload_n 2 dX6_tell_34 rfl ?_
        rcases zdec (x2 = 0) with hs7 | hs7
        · rw [if_pos hs7] at hf
          refine zr_tableIn (off := 29) 64 dX6_tell_35 (by rw [hs7]; decide) (by rw [hs7]; decide) (by rw [hs7]; rfl) (by decide) ?_
          refine zr_aload_n 0 dX6_tell_64 rfl ?_
          replace hf := zb1_s hf
          obtain ⟨v3, h4, hf⟩ := hf
          refine zr_get (zm_gR_g h4) zk6 (by decide) zl_236 dX6_tell_65 ?_
          refine zr_iload_n 1 dX6_tell_68 rfl ?_
          replace hf := zb1_s hf
          obtain ⟨v5, h6, hf⟩ := hf
          refine zr_iald h6 dX6_tell_69 ?_
          cases hf
          exact zr_iret dX6_tell_70
        rw [if_neg hs7] at hf
        rcases zdec (x2 = 1) with hs12 | hs12
        · rw [if_pos hs12] at hf
          refine zr_tableIn (off := 36) 71 dX6_tell_35 (by rw [hs12]; decide) (by rw [hs12]; decide) (by rw [hs12]; rfl) (by decide) ?_
          refine zr_aload_n 0 dX6_tell_71 rfl ?_
          replace hf := zb1_s hf
          obtain ⟨v8, h9, hf⟩ := hf
          refine zr_get (zm_gR_g h9) zk6 (by decide) zl_237 dX6_tell_72 ?_
          refine zr_iload_n 1 dX6_tell_75 rfl ?_
          replace hf := zb1_s hf
          obtain ⟨v10, h11, hf⟩ := hf
          refine zr_iald h11 dX6_tell_76 ?_
          cases hf
          exact zr_iret dX6_tell_77
        rw [if_neg hs12] at hf
        rcases zdec (x2 = 2) with hs17 | hs17
        · rw [if_pos hs17] at hf
          refine zr_tableIn (off := 43) 78 dX6_tell_35 (by rw [hs17]; decide) (by rw [hs17]; decide) (by rw [hs17]; rfl) (by decide) ?_
          refine zr_aload_n 0 dX6_tell_78 rfl ?_
          replace hf := zb1_s hf
          obtain ⟨v13, h14, hf⟩ := hf
          refine zr_get (zm_gR_g h14) zk6 (by decide) zl_238 dX6_tell_79 ?_
          refine zr_iload_n 1 dX6_tell_82 rfl ?_
          replace hf := zb1_s hf
          obtain ⟨v15, h16, hf⟩ := hf
          refine zr_iald h16 dX6_tell_83 ?_
          cases hf
          exact zr_iret dX6_tell_84
        rw [if_neg hs17] at hf
        rcases zdec (x2 = 3) with hs22 | hs22
        · rw [if_pos hs22] at hf
          refine zr_tableIn (off := 50) 85 dX6_tell_35 (by rw [hs22]; decide) (by rw [hs22]; decide) (by rw [hs22]; rfl) (by decide) ?_
          refine zr_aload_n 0 dX6_tell_85 rfl ?_
          replace hf := zb1_s hf
          obtain ⟨v18, h19, hf⟩ := hf
          refine zr_get (zm_gR_g h19) zk6 (by decide) zl_239 dX6_tell_86 ?_
          refine zr_iload_n 1 dX6_tell_89 rfl ?_
          replace hf := zb1_s hf
          obtain ⟨v20, h21, hf⟩ := hf
          refine zr_iald h21 dX6_tell_90 ?_
          cases hf
          exact zr_iret dX6_tell_91
        rw [if_neg hs22] at hf
        refine zr_tableOut 92 dX6_tell_35 (by simp only [← Int32.toInt_inj] at hs7 hs12 hs17 hs22; simp at hs7 hs12 hs17 hs22; omega) (by decide) ?_
        refine zr_bipush (-2) dX6_tell_92 (by decide) ?_
        cases hf
        exact zr_iret dX6_tell_94
      · rw [if_neg hc] at hf
        refine zr_bipush (-2) dX6_tell_31 (by decide) ?_
        cases hf
        exact zr_iret dX6_tell_33
  · rw [if_pos hc] at hf
    refine zr_iload_n 2 dX6_tell_5 rfl ?_
    replace hf := zb1_s hf
    obtain ⟨s23, hg, hf⟩ := hf
    have hj24 : zz K cX6_tell (3, RX6, some .int, 0, 0, 0, some (.int r), μ) 0 0 18 [] [.int s23] μ := by
      cases hf
      exact zr_iret dX6_tell_18
    clear hf
    have hf := hg
    clear hg
    refine zr_if_ne 16 dX6_tell_6 (by decide) (fun hc => ?_) (fun hc => ?_)
    · rw [if_neg hc] at hf
      refine zr_bipush (-2) dX6_tell_16 (by decide) ?_
      cases hf
      exact zr_lv [] rfl hj24
    · rw [if_pos hc] at hf
      refine zr_aload_n 0 dX6_tell_9 rfl ?_
      replace hf := zb1_s hf
      obtain ⟨v25, h26, hf⟩ := hf
      refine zr_get (zm_gI_g h26) zk6 (by decide) zl_278 dX6_tell_10 ?_
      refine zr_goto 18 dX6_tell_13 (by decide) ?_
      cases hf
      exact zr_lv [] rfl hj24
theorem zl_417 : Cond.methodLink RX6 34 yX9_hasPlace ∈ zt := zt_at 1111 (by decide +kernel)
theorem dX6_isWithin_0 : decode cX6_isWithin 0 = .ok (.iconst 0, 1) := by decide +kernel
theorem dX6_isWithin_1 : decode cX6_isWithin 1 = .ok (.istore_n 2, 1) := by decide +kernel
theorem dX6_isWithin_2 : decode cX6_isWithin 2 = .ok (.iload_n 2, 1) := by decide +kernel
theorem dX6_isWithin_3 : decode cX6_isWithin 3 = .ok (.aload_n 0, 1) := by decide +kernel
theorem dX6_isWithin_4 : decode cX6_isWithin 4 = .ok (.getfield 24, 3) := by decide +kernel
theorem dX6_isWithin_7 : decode cX6_isWithin 7 = .ok (.if_icmp .ge 24, 3) := by decide +kernel
theorem dX6_isWithin_10 : decode cX6_isWithin 10 = .ok (.aload_n 1, 1) := by decide +kernel
theorem dX6_isWithin_11 : decode cX6_isWithin 11 = .ok (.aload_n 0, 1) := by decide +kernel
theorem dX6_isWithin_12 : decode cX6_isWithin 12 = .ok (.getfield 15, 3) := by decide +kernel
theorem dX6_isWithin_15 : decode cX6_isWithin 15 = .ok (.iload_n 2, 1) := by decide +kernel
theorem dX6_isWithin_16 : decode cX6_isWithin 16 = .ok (.iaload, 1) := by decide +kernel
theorem dX6_isWithin_17 : decode cX6_isWithin 17 = .ok (.invokevirtual 34, 3) := by decide +kernel
theorem dX6_isWithin_20 : decode cX6_isWithin 20 = .ok (.ifCond .ne 5, 3) := by decide +kernel
theorem dX6_isWithin_23 : decode cX6_isWithin 23 = .ok (.iconst 0, 1) := by decide +kernel
theorem dX6_isWithin_24 : decode cX6_isWithin 24 = .ok (.ireturn, 1) := by decide +kernel
theorem dX6_isWithin_25 : decode cX6_isWithin 25 = .ok (.iinc 2 1, 3) := by decide +kernel
theorem dX6_isWithin_28 : decode cX6_isWithin 28 = .ok (.goto (-26), 3) := by decide +kernel
theorem dX6_isWithin_31 : decode cX6_isWithin 31 = .ok (.iconst 1, 1) := by decide +kernel
theorem dX6_isWithin_32 : decode cX6_isWithin 32 = .ok (.ireturn, 1) := by decide +kernel
def fX6_isWithin_l2 (μ : zM) (x0 : Nat) (x1 : Nat) (F2 : Int32 → Option (Int32)) (x2_1 : Int32) : Option (Int32) :=
  zb1 (zm_gI μ 6 x0 0) fun v4 =>
  if v4 ≤ x2_1 then (
  some 1)
  else (
  zb1 (zm_gR μ 6 x0 2) fun v6 =>
  zb1 (zm_aI μ 0 v6 x2_1) fun v8 =>
  zb1 (fX9_hasPlace μ x1 v8) fun v11 =>
  if v11 = 0 then (
  some 0)
  else (
  F2 (x2_1 + 1)))
def fX6_isWithin (μ : zM) (x0 : Nat) (x1 : Nat) : Option (Int32) := zgd (zm_ck μ 6 x0) <|
  zf1 (fX6_isWithin_l2 μ x0 x1) zfu 0
theorem fX6_isWithin_ck {μ : zM} {x0 : Nat} {x1 : Nat} {z : Int32} (h : fX6_isWithin μ x0 x1 = some z) : zm_ck μ 6 x0 = true := (zgd_s h).1
set_option maxHeartbeats 4000000 in
set_option maxRecDepth 100000 in
theorem cX6_isWithin_ok {μ : zM} {x0 : Nat} {x1 : Nat} {r : Int32} (hf : fX6_isWithin μ x0 x1 = some r) : zC yX6_isWithin cX6_isWithin 3 (some .boolean) 1 0 0 [.ref x0, .ref x1] μ (some (.int r)) μ := by
  replace hf := (zgd_s hf).2
  refine zC.of (by decide) (Nat.le_of_ble_eq_true rfl) (fun K hin => ?_)
  clear hin
  show zz K cX6_isWithin (3, RX6, some .boolean, 1, 0, 0, some (.int r), μ) 0 0 0 [(0, .ref x0), (1, .ref x1)] [] μ
  refine zr_iconst 0 dX6_isWithin_0 (by decide) ?_
  refine zr_istore_n [(2, .int 0), (0, .ref x0), (1, .ref x1)] dX6_isWithin_1 (Nat.le_of_ble_eq_true rfl) rfl ?_
  have hL12 : ∀ (n : Nat) (x2_1 : Int32), zf1 (fX6_isWithin_l2 μ x0 x1) n x2_1 = some r → zz K cX6_isWithin (3, RX6, some .boolean, 1, 0, 0, some (.int r), μ) 0 0 2 [(0, .ref x0), (1, .ref x1), (2, .int x2_1)] [] μ := by
    intro n
    induction n with
    | zero => intro x2_1 hf; cases hf
    | succ n ih3 =>
      intro x2_1 hf
      replace hf := zf1_s hf
      generalize zf1 (fX6_isWithin_l2 μ x0 x1) n = F2 at hf ih3
      unfold fX6_isWithin_l2 at hf
      refine zr_iload_n 2 dX6_isWithin_2 rfl ?_
      refine zr_aload_n 0 dX6_isWithin_3 rfl ?_
      replace hf := zb1_s hf
      obtain ⟨v4, h5, hf⟩ := hf
      refine zr_get (zm_gI_g h5) zk6 (by decide) zl_278 dX6_isWithin_4 ?_
      refine zr_icmp_ge 31 dX6_isWithin_7 (by decide) (fun hc => ?_) (fun hc => ?_)
      · rw [if_pos hc] at hf
        refine zr_iconst 1 dX6_isWithin_31 (by decide) ?_
        cases hf
        exact zr_zret rfl dX6_isWithin_32
      · rw [if_neg hc] at hf
        refine zr_aload_n 1 dX6_isWithin_10 rfl ?_
        refine zr_aload_n 0 dX6_isWithin_11 rfl ?_
        replace hf := zb1_s hf
        obtain ⟨v6, h7, hf⟩ := hf
        refine zr_get (zm_gR_g h7) zk6 (by decide) zl_237 dX6_isWithin_12 ?_
        refine zr_iload_n 2 dX6_isWithin_15 rfl ?_
        replace hf := zb1_s hf
        obtain ⟨v8, h9, hf⟩ := hf
        refine zr_iald h9 dX6_isWithin_16 ?_
        replace hf := zb1_s hf
        obtain ⟨v11, h10, hf⟩ := hf
        refine zr_callV (ci := 9) [.int v8] (cX9_hasPlace_ok h10) zvs_X9_hasPlace zl_106 zl_107 (fX9_hasPlace_ck h10) rfl rfl zl_417 rfl (Nat.le_of_ble_eq_true rfl) (Nat.le_of_ble_eq_true rfl) (Nat.le_of_ble_eq_true rfl) (Nat.le_of_ble_eq_true rfl) dX6_isWithin_17 rfl ?_
        refine zr_if_ne 25 dX6_isWithin_20 (by decide) (fun hc => ?_) (fun hc => ?_)
        · rw [if_neg hc] at hf
          refine zr_iinc (j := 2) (x2_1 + 1) [(2, .int (x2_1 + 1)), (0, .ref x0), (1, .ref x1)] dX6_isWithin_25 rfl rfl (Nat.le_of_ble_eq_true rfl) rfl ?_
          refine zr_goto 2 dX6_isWithin_28 (by decide) ?_
          exact zr_lv [1, 2, 0] rfl (ih3 (x2_1 + 1) hf)
        · rw [if_pos hc] at hf
          refine zr_iconst 0 dX6_isWithin_23 (by decide) ?_
          cases hf
          exact zr_zret rfl dX6_isWithin_24
  exact zr_lv [1, 2, 0] rfl (hL12 _ 0 hf)
theorem zl_418 : Cond.methodLink RX7 3 Lib.objectInit ∈ zt := zt_at 163 (by decide +kernel)
theorem zl_419 : Cond.arrayClass .byte ∈ zt := zt_at 236 (by decide +kernel)
theorem zl_420 : Cond.fieldLink RX7 9 "TwoEchoes$Told" "tape" "[B" ∈ zt := zt_at 315 (by decide +kernel)
theorem zl_421 : Cond.fieldLink RX7 15 "TwoEchoes$Told" "length" "I" ∈ zt := zt_at 317 (by decide +kernel)
theorem zl_422 : Cond.fieldLink RX7 19 "TwoEchoes$Told" "fault" "I" ∈ zt := zt_at 319 (by decide +kernel)
theorem zl_423 : Cond.fieldLink RX7 22 "TwoEchoes$Told" "faultPlace" "I" ∈ zt := zt_at 321 (by decide +kernel)
theorem zl_424 : Cond.fieldLink RX7 25 "TwoEchoes$Told" "counts" "[I" ∈ zt := zt_at 323 (by decide +kernel)
theorem zl_425 : Cond.classLink RX7 29 RX9 ∈ zt := zt_at 164 (by decide +kernel)
theorem zl_426 : Cond.methodLinkNest RX7 31 yX9_init "TwoEchoes" ∈ zn := zn_at 167 (by decide +kernel)
theorem zl_427 : Cond.fieldLink RX7 32 "TwoEchoes$Told" "valleys" "[LTwoEchoes$Valley;" ∈ zt := zt_at 325 (by decide +kernel)
theorem zl_428 : Cond.classLink RX7 36 RX2 ∈ zt := zt_at 238 (by decide +kernel)
theorem zl_429 : Cond.methodLinkNest RX7 38 yX2_init "TwoEchoes" ∈ zn := zn_at 241 (by decide +kernel)
theorem zl_430 : Cond.fieldLink RX7 39 "TwoEchoes$Told" "days" "[LTwoEchoes$Day;" ∈ zt := zt_at 327 (by decide +kernel)
theorem zl_431 : Cond.classLink RX7 43 RX3 ∈ zt := zt_at 264 (by decide +kernel)
theorem zl_432 : Cond.methodLinkNest RX7 45 yX3_init "TwoEchoes" ∈ zn := zn_at 267 (by decide +kernel)
theorem zl_433 : Cond.fieldLink RX7 46 "TwoEchoes$Told" "lessons" "[LTwoEchoes$Lesson;" ∈ zt := zt_at 329 (by decide +kernel)
theorem zl_434 : Cond.classLink RX7 50 RX6 ∈ zt := zt_at 286 (by decide +kernel)
theorem zl_435 : Cond.methodLinkNest RX7 52 yX6_init "TwoEchoes" ∈ zn := zn_at 289 (by decide +kernel)
theorem zl_436 : Cond.fieldLink RX7 53 "TwoEchoes$Told" "sights" "[LTwoEchoes$Sight;" ∈ zt := zt_at 331 (by decide +kernel)
theorem dX7_init_0 : decode cX7_init 0 = .ok (.aload_n 0, 1) := by decide +kernel
theorem dX7_init_1 : decode cX7_init 1 = .ok (.invokespecial 3, 3) := by decide +kernel
theorem dX7_init_4 : decode cX7_init 4 = .ok (.aload_n 0, 1) := by decide +kernel
theorem dX7_init_5 : decode cX7_init 5 = .ok (.sipush 600, 3) := by decide +kernel
theorem dX7_init_8 : decode cX7_init 8 = .ok (.newarray .byte, 2) := by decide +kernel
theorem dX7_init_10 : decode cX7_init 10 = .ok (.putfield 9, 3) := by decide +kernel
theorem dX7_init_13 : decode cX7_init 13 = .ok (.aload_n 0, 1) := by decide +kernel
theorem dX7_init_14 : decode cX7_init 14 = .ok (.iconst 0, 1) := by decide +kernel
theorem dX7_init_15 : decode cX7_init 15 = .ok (.putfield 15, 3) := by decide +kernel
theorem dX7_init_18 : decode cX7_init 18 = .ok (.aload_n 0, 1) := by decide +kernel
theorem dX7_init_19 : decode cX7_init 19 = .ok (.iconst 0, 1) := by decide +kernel
theorem dX7_init_20 : decode cX7_init 20 = .ok (.putfield 19, 3) := by decide +kernel
theorem dX7_init_23 : decode cX7_init 23 = .ok (.aload_n 0, 1) := by decide +kernel
theorem dX7_init_24 : decode cX7_init 24 = .ok (.iconst (-1), 1) := by decide +kernel
theorem dX7_init_25 : decode cX7_init 25 = .ok (.putfield 22, 3) := by decide +kernel
theorem dX7_init_28 : decode cX7_init 28 = .ok (.aload_n 0, 1) := by decide +kernel
theorem dX7_init_29 : decode cX7_init 29 = .ok (.iconst 4, 1) := by decide +kernel
theorem dX7_init_30 : decode cX7_init 30 = .ok (.newarray .int, 2) := by decide +kernel
theorem dX7_init_32 : decode cX7_init 32 = .ok (.putfield 25, 3) := by decide +kernel
theorem dX7_init_35 : decode cX7_init 35 = .ok (.aload_n 0, 1) := by decide +kernel
theorem dX7_init_36 : decode cX7_init 36 = .ok (.iconst 2, 1) := by decide +kernel
theorem dX7_init_37 : decode cX7_init 37 = .ok (.anewarray 29, 3) := by decide +kernel
theorem dX7_init_40 : decode cX7_init 40 = .ok (.dup, 1) := by decide +kernel
theorem dX7_init_41 : decode cX7_init 41 = .ok (.iconst 0, 1) := by decide +kernel
theorem dX7_init_42 : decode cX7_init 42 = .ok (.new 29, 3) := by decide +kernel
theorem dX7_init_45 : decode cX7_init 45 = .ok (.dup, 1) := by decide +kernel
theorem dX7_init_46 : decode cX7_init 46 = .ok (.invokespecial 31, 3) := by decide +kernel
theorem dX7_init_49 : decode cX7_init 49 = .ok (.aastore, 1) := by decide +kernel
theorem dX7_init_50 : decode cX7_init 50 = .ok (.dup, 1) := by decide +kernel
theorem dX7_init_51 : decode cX7_init 51 = .ok (.iconst 1, 1) := by decide +kernel
theorem dX7_init_52 : decode cX7_init 52 = .ok (.new 29, 3) := by decide +kernel
theorem dX7_init_55 : decode cX7_init 55 = .ok (.dup, 1) := by decide +kernel
theorem dX7_init_56 : decode cX7_init 56 = .ok (.invokespecial 31, 3) := by decide +kernel
theorem dX7_init_59 : decode cX7_init 59 = .ok (.aastore, 1) := by decide +kernel
theorem dX7_init_60 : decode cX7_init 60 = .ok (.putfield 32, 3) := by decide +kernel
theorem dX7_init_63 : decode cX7_init 63 = .ok (.aload_n 0, 1) := by decide +kernel
theorem dX7_init_64 : decode cX7_init 64 = .ok (.iconst 2, 1) := by decide +kernel
theorem dX7_init_65 : decode cX7_init 65 = .ok (.anewarray 36, 3) := by decide +kernel
theorem dX7_init_68 : decode cX7_init 68 = .ok (.dup, 1) := by decide +kernel
theorem dX7_init_69 : decode cX7_init 69 = .ok (.iconst 0, 1) := by decide +kernel
theorem dX7_init_70 : decode cX7_init 70 = .ok (.new 36, 3) := by decide +kernel
theorem dX7_init_73 : decode cX7_init 73 = .ok (.dup, 1) := by decide +kernel
theorem dX7_init_74 : decode cX7_init 74 = .ok (.invokespecial 38, 3) := by decide +kernel
theorem dX7_init_77 : decode cX7_init 77 = .ok (.aastore, 1) := by decide +kernel
theorem dX7_init_78 : decode cX7_init 78 = .ok (.dup, 1) := by decide +kernel
theorem dX7_init_79 : decode cX7_init 79 = .ok (.iconst 1, 1) := by decide +kernel
theorem dX7_init_80 : decode cX7_init 80 = .ok (.new 36, 3) := by decide +kernel
theorem dX7_init_83 : decode cX7_init 83 = .ok (.dup, 1) := by decide +kernel
theorem dX7_init_84 : decode cX7_init 84 = .ok (.invokespecial 38, 3) := by decide +kernel
theorem dX7_init_87 : decode cX7_init 87 = .ok (.aastore, 1) := by decide +kernel
theorem dX7_init_88 : decode cX7_init 88 = .ok (.putfield 39, 3) := by decide +kernel
theorem dX7_init_91 : decode cX7_init 91 = .ok (.aload_n 0, 1) := by decide +kernel
theorem dX7_init_92 : decode cX7_init 92 = .ok (.iconst 2, 1) := by decide +kernel
theorem dX7_init_93 : decode cX7_init 93 = .ok (.anewarray 43, 3) := by decide +kernel
theorem dX7_init_96 : decode cX7_init 96 = .ok (.dup, 1) := by decide +kernel
theorem dX7_init_97 : decode cX7_init 97 = .ok (.iconst 0, 1) := by decide +kernel
theorem dX7_init_98 : decode cX7_init 98 = .ok (.new 43, 3) := by decide +kernel
theorem dX7_init_101 : decode cX7_init 101 = .ok (.dup, 1) := by decide +kernel
theorem dX7_init_102 : decode cX7_init 102 = .ok (.invokespecial 45, 3) := by decide +kernel
theorem dX7_init_105 : decode cX7_init 105 = .ok (.aastore, 1) := by decide +kernel
theorem dX7_init_106 : decode cX7_init 106 = .ok (.dup, 1) := by decide +kernel
theorem dX7_init_107 : decode cX7_init 107 = .ok (.iconst 1, 1) := by decide +kernel
theorem dX7_init_108 : decode cX7_init 108 = .ok (.new 43, 3) := by decide +kernel
theorem dX7_init_111 : decode cX7_init 111 = .ok (.dup, 1) := by decide +kernel
theorem dX7_init_112 : decode cX7_init 112 = .ok (.invokespecial 45, 3) := by decide +kernel
theorem dX7_init_115 : decode cX7_init 115 = .ok (.aastore, 1) := by decide +kernel
theorem dX7_init_116 : decode cX7_init 116 = .ok (.putfield 46, 3) := by decide +kernel
theorem dX7_init_119 : decode cX7_init 119 = .ok (.aload_n 0, 1) := by decide +kernel
theorem dX7_init_120 : decode cX7_init 120 = .ok (.iconst 2, 1) := by decide +kernel
theorem dX7_init_121 : decode cX7_init 121 = .ok (.anewarray 50, 3) := by decide +kernel
theorem dX7_init_124 : decode cX7_init 124 = .ok (.dup, 1) := by decide +kernel
theorem dX7_init_125 : decode cX7_init 125 = .ok (.iconst 0, 1) := by decide +kernel
theorem dX7_init_126 : decode cX7_init 126 = .ok (.new 50, 3) := by decide +kernel
theorem dX7_init_129 : decode cX7_init 129 = .ok (.dup, 1) := by decide +kernel
theorem dX7_init_130 : decode cX7_init 130 = .ok (.invokespecial 52, 3) := by decide +kernel
theorem dX7_init_133 : decode cX7_init 133 = .ok (.aastore, 1) := by decide +kernel
theorem dX7_init_134 : decode cX7_init 134 = .ok (.dup, 1) := by decide +kernel
theorem dX7_init_135 : decode cX7_init 135 = .ok (.iconst 1, 1) := by decide +kernel
theorem dX7_init_136 : decode cX7_init 136 = .ok (.new 50, 3) := by decide +kernel
theorem dX7_init_139 : decode cX7_init 139 = .ok (.dup, 1) := by decide +kernel
theorem dX7_init_140 : decode cX7_init 140 = .ok (.invokespecial 52, 3) := by decide +kernel
theorem dX7_init_143 : decode cX7_init 143 = .ok (.aastore, 1) := by decide +kernel
theorem dX7_init_144 : decode cX7_init 144 = .ok (.putfield 53, 3) := by decide +kernel
theorem dX7_init_147 : decode cX7_init 147 = .ok (.return_, 1) := by decide +kernel
def fX7_init (μ : zM) (x0 : Nat) : Option (zM) :=
  zb1 (some (zm_nw μ (.inl (1, 600, .inl (fun _ => 0))))) fun m1 =>
  zb1 (zm_p m1 7 x0 0 (.ref μ.2.1)) fun m3 =>
  zb1 (zm_p m3 7 x0 1 (.int 0)) fun m5 =>
  zb1 (zm_p m5 7 x0 2 (.int 0)) fun m7 =>
  zb1 (zm_p m7 7 x0 3 (.int (-1))) fun m9 =>
  zb1 (some (zm_nw m9 (.inl (0, 4, .inl (fun _ => 0))))) fun m11 =>
  zb1 (zm_p m11 7 x0 4 (.ref m9.2.1)) fun m13 =>
  zb1 (some (zm_nw m13 (.inl (4, 2, .inr (.inr (.inr (.inr (fun _ => none)))))))) fun m15 =>
  zb1 (some (zm_nw m15 (.inr (9, [.int 0, .null, .null, .null, .int 0, .null, .null, .null, .int 0, .null, .null, .null, .null])))) fun m17 =>
  zb1 (fX9_init m17 m15.2.1) fun m20 =>
  zb1 (zm_sQ m20 4 9 m13.2.1 0 m15.2.1) fun m21 =>
  zb1 (some (zm_nw m21 (.inr (9, [.int 0, .null, .null, .null, .int 0, .null, .null, .null, .int 0, .null, .null, .null, .null])))) fun m23 =>
  zb1 (fX9_init m23 m21.2.1) fun m26 =>
  zb1 (zm_sQ m26 4 9 m13.2.1 1 m21.2.1) fun m27 =>
  zb1 (zm_p m27 7 x0 5 (.ref m13.2.1)) fun m29 =>
  zb1 (some (zm_nw m29 (.inl (5, 2, .inr (.inr (.inr (.inr (fun _ => none)))))))) fun m31 =>
  zb1 (some (zm_nw m31 (.inr (2, [.int 0, .null, .null, .null])))) fun m33 =>
  zb1 (fX2_init m33 m31.2.1) fun m36 =>
  zb1 (zm_sQ m36 5 2 m29.2.1 0 m31.2.1) fun m37 =>
  zb1 (some (zm_nw m37 (.inr (2, [.int 0, .null, .null, .null])))) fun m39 =>
  zb1 (fX2_init m39 m37.2.1) fun m42 =>
  zb1 (zm_sQ m42 5 2 m29.2.1 1 m37.2.1) fun m43 =>
  zb1 (zm_p m43 7 x0 6 (.ref m29.2.1)) fun m45 =>
  zb1 (some (zm_nw m45 (.inl (6, 2, .inr (.inr (.inr (.inr (fun _ => none)))))))) fun m47 =>
  zb1 (some (zm_nw m47 (.inr (3, [.int 0, .int 0, .null, .null])))) fun m49 =>
  zb1 (fX3_init m49 m47.2.1) fun m52 =>
  zb1 (zm_sQ m52 6 3 m45.2.1 0 m47.2.1) fun m53 =>
  zb1 (some (zm_nw m53 (.inr (3, [.int 0, .int 0, .null, .null])))) fun m55 =>
  zb1 (fX3_init m55 m53.2.1) fun m58 =>
  zb1 (zm_sQ m58 6 3 m45.2.1 1 m53.2.1) fun m59 =>
  zb1 (zm_p m59 7 x0 7 (.ref m45.2.1)) fun m61 =>
  zb1 (some (zm_nw m61 (.inl (7, 2, .inr (.inr (.inr (.inr (fun _ => none)))))))) fun m63 =>
  zb1 (some (zm_nw m63 (.inr (6, [.int 0, .null, .null, .null, .null])))) fun m65 =>
  zb1 (fX6_init m65 m63.2.1) fun m68 =>
  zb1 (zm_sQ m68 7 6 m61.2.1 0 m63.2.1) fun m69 =>
  zb1 (some (zm_nw m69 (.inr (6, [.int 0, .null, .null, .null, .null])))) fun m71 =>
  zb1 (fX6_init m71 m69.2.1) fun m74 =>
  zb1 (zm_sQ m74 7 6 m61.2.1 1 m69.2.1) fun m75 =>
  zb1 (zm_p m75 7 x0 8 (.ref m61.2.1)) fun m77 =>
  some m77
set_option maxHeartbeats 4000000 in
set_option maxRecDepth 100000 in
theorem cX7_init_ok {μ : zM} {x0 : Nat} {mo : zM} (hf : fX7_init μ x0 = some mo) : zC yX7_init cX7_init 1 (none) 2 52 1316 [.ref x0] μ (none) mo := by
  unfold fX7_init at hf
  refine zC.of (by decide) (Nat.le_of_ble_eq_true rfl) (fun K hin => ?_)
  replace hin := hin rfl
  show zz K cX7_init (1, RX7, none, 2, 52, 1316, none, mo) 0 0 0 [(0, .ref x0)] [] μ
  refine zr_aload_n 0 dX7_init_0 rfl ?_
  refine zr_objInit zl_418 zl_1 zl_2 (Nat.le_of_ble_eq_true rfl) (Nat.le_of_ble_eq_true rfl) dX7_init_1 ?_
  refine zr_aload_n 0 dX7_init_4 rfl ?_
  refine zr_sipush 600 dX7_init_5 (by decide) ?_
  refine zr_newa (t := 1) (N := 600) (atype := .byte) (by decide) rfl zl_419 (by decide) (by decide) (by decide) (Nat.le_of_ble_eq_true rfl) (Nat.le_of_ble_eq_true rfl) dX7_init_8 ?_
  replace hf := zb1_s hf
  obtain ⟨m1, h2, hf⟩ := hf
  obtain rfl := Option.some.inj h2
  replace hf := zb1_s hf
  obtain ⟨m3, h4, hf⟩ := hf
  refine zr_putF h4 hin rfl zk7 (by decide) zl_420 rfl rfl rfl dX7_init_10 ?_
  refine zr_aload_n 0 dX7_init_13 rfl ?_
  refine zr_iconst 0 dX7_init_14 (by decide) ?_
  replace hf := zb1_s hf
  obtain ⟨m5, h6, hf⟩ := hf
  refine zr_put h6 zk7 (by decide) zl_421 rfl rfl rfl dX7_init_15 ?_
  refine zr_aload_n 0 dX7_init_18 rfl ?_
  refine zr_iconst 0 dX7_init_19 (by decide) ?_
  replace hf := zb1_s hf
  obtain ⟨m7, h8, hf⟩ := hf
  refine zr_put h8 zk7 (by decide) zl_422 rfl rfl rfl dX7_init_20 ?_
  refine zr_aload_n 0 dX7_init_23 rfl ?_
  refine zr_iconst (-1) dX7_init_24 (by decide) ?_
  replace hf := zb1_s hf
  obtain ⟨m9, h10, hf⟩ := hf
  refine zr_put h10 zk7 (by decide) zl_423 rfl rfl rfl dX7_init_25 ?_
  refine zr_aload_n 0 dX7_init_28 rfl ?_
  refine zr_iconst 4 dX7_init_29 (by decide) ?_
  refine zr_newa (t := 0) (N := 4) (atype := .int) (by decide) rfl zl_3 (by decide) (by decide) (by decide) (Nat.le_of_ble_eq_true rfl) (Nat.le_of_ble_eq_true rfl) dX7_init_30 ?_
  replace hf := zb1_s hf
  obtain ⟨m11, h12, hf⟩ := hf
  obtain rfl := Option.some.inj h12
  replace hf := zb1_s hf
  obtain ⟨m13, h14, hf⟩ := hf
  refine zr_putF h14 hin rfl zk7 (by decide) zl_424 rfl rfl rfl dX7_init_32 ?_
  refine zr_aload_n 0 dX7_init_35 rfl ?_
  refine zr_iconst 2 dX7_init_36 (by decide) ?_
  refine zr_newq (t := 4) (N := 2) (by decide) rfl zl_425 (by decide) (by decide) (by decide) (Nat.le_of_ble_eq_true rfl) (Nat.le_of_ble_eq_true rfl) dX7_init_37 ?_
  replace hf := zb1_s hf
  obtain ⟨m15, h16, hf⟩ := hf
  obtain rfl := Option.some.inj h16
  refine zr_dup dX7_init_40 rfl ?_
  refine zr_iconst 0 dX7_init_41 (by decide) ?_
  refine zr_new [.int 0, .null, .null, .null, .int 0, .null, .null, .null, .int 0, .null, .null, .null, .null] zk9 zl_425 zl_242 zl_14 (by decide +kernel) (Nat.le_of_ble_eq_true rfl) (Nat.le_of_ble_eq_true rfl) dX7_init_42 ?_
  replace hf := zb1_s hf
  obtain ⟨m17, h18, hf⟩ := hf
  obtain rfl := Option.some.inj h18
  refine zr_dup dX7_init_45 rfl ?_
  replace hf := zb1_s hf
  obtain ⟨m20, h19, hf⟩ := hf
  refine zr_callIN [] (cX9_init_ok h19) zvs_X9_init zl_245 rfl zl_426 rfl (Nat.le_of_ble_eq_true rfl) (Nat.le_of_ble_eq_true rfl) (Nat.le_of_ble_eq_true rfl) (Nat.le_of_ble_eq_true rfl) dX7_init_46 rfl ?_
  replace hf := zb1_s hf
  obtain ⟨m21, h22, hf⟩ := hf
  refine zr_aast h22 (by decide) rfl zk9 dX7_init_49 ?_
  refine zr_dup dX7_init_50 rfl ?_
  refine zr_iconst 1 dX7_init_51 (by decide) ?_
  refine zr_new [.int 0, .null, .null, .null, .int 0, .null, .null, .null, .int 0, .null, .null, .null, .null] zk9 zl_425 zl_242 zl_14 (by decide +kernel) (Nat.le_of_ble_eq_true rfl) (Nat.le_of_ble_eq_true rfl) dX7_init_52 ?_
  replace hf := zb1_s hf
  obtain ⟨m23, h24, hf⟩ := hf
  obtain rfl := Option.some.inj h24
  refine zr_dup dX7_init_55 rfl ?_
  replace hf := zb1_s hf
  obtain ⟨m26, h25, hf⟩ := hf
  refine zr_callIN [] (cX9_init_ok h25) zvs_X9_init zl_245 rfl zl_426 rfl (Nat.le_of_ble_eq_true rfl) (Nat.le_of_ble_eq_true rfl) (Nat.le_of_ble_eq_true rfl) (Nat.le_of_ble_eq_true rfl) dX7_init_56 rfl ?_
  replace hf := zb1_s hf
  obtain ⟨m27, h28, hf⟩ := hf
  refine zr_aast h28 (by decide) rfl zk9 dX7_init_59 ?_
  replace hf := zb1_s hf
  obtain ⟨m29, h30, hf⟩ := hf
  refine zr_putF h30 hin rfl zk7 (by decide) zl_427 rfl rfl rfl dX7_init_60 ?_
  refine zr_aload_n 0 dX7_init_63 rfl ?_
  refine zr_iconst 2 dX7_init_64 (by decide) ?_
  refine zr_newq (t := 5) (N := 2) (by decide) rfl zl_428 (by decide) (by decide) (by decide) (Nat.le_of_ble_eq_true rfl) (Nat.le_of_ble_eq_true rfl) dX7_init_65 ?_
  replace hf := zb1_s hf
  obtain ⟨m31, h32, hf⟩ := hf
  obtain rfl := Option.some.inj h32
  refine zr_dup dX7_init_68 rfl ?_
  refine zr_iconst 0 dX7_init_69 (by decide) ?_
  refine zr_new [.int 0, .null, .null, .null] zk2 zl_428 zl_248 zl_249 (by decide +kernel) (Nat.le_of_ble_eq_true rfl) (Nat.le_of_ble_eq_true rfl) dX7_init_70 ?_
  replace hf := zb1_s hf
  obtain ⟨m33, h34, hf⟩ := hf
  obtain rfl := Option.some.inj h34
  refine zr_dup dX7_init_73 rfl ?_
  replace hf := zb1_s hf
  obtain ⟨m36, h35, hf⟩ := hf
  refine zr_callIN [] (cX2_init_ok h35) zvs_X2_init zl_252 rfl zl_429 rfl (Nat.le_of_ble_eq_true rfl) (Nat.le_of_ble_eq_true rfl) (Nat.le_of_ble_eq_true rfl) (Nat.le_of_ble_eq_true rfl) dX7_init_74 rfl ?_
  replace hf := zb1_s hf
  obtain ⟨m37, h38, hf⟩ := hf
  refine zr_aast h38 (by decide) rfl zk2 dX7_init_77 ?_
  refine zr_dup dX7_init_78 rfl ?_
  refine zr_iconst 1 dX7_init_79 (by decide) ?_
  refine zr_new [.int 0, .null, .null, .null] zk2 zl_428 zl_248 zl_249 (by decide +kernel) (Nat.le_of_ble_eq_true rfl) (Nat.le_of_ble_eq_true rfl) dX7_init_80 ?_
  replace hf := zb1_s hf
  obtain ⟨m39, h40, hf⟩ := hf
  obtain rfl := Option.some.inj h40
  refine zr_dup dX7_init_83 rfl ?_
  replace hf := zb1_s hf
  obtain ⟨m42, h41, hf⟩ := hf
  refine zr_callIN [] (cX2_init_ok h41) zvs_X2_init zl_252 rfl zl_429 rfl (Nat.le_of_ble_eq_true rfl) (Nat.le_of_ble_eq_true rfl) (Nat.le_of_ble_eq_true rfl) (Nat.le_of_ble_eq_true rfl) dX7_init_84 rfl ?_
  replace hf := zb1_s hf
  obtain ⟨m43, h44, hf⟩ := hf
  refine zr_aast h44 (by decide) rfl zk2 dX7_init_87 ?_
  replace hf := zb1_s hf
  obtain ⟨m45, h46, hf⟩ := hf
  refine zr_putF h46 hin rfl zk7 (by decide) zl_430 rfl rfl rfl dX7_init_88 ?_
  refine zr_aload_n 0 dX7_init_91 rfl ?_
  refine zr_iconst 2 dX7_init_92 (by decide) ?_
  refine zr_newq (t := 6) (N := 2) (by decide) rfl zl_431 (by decide) (by decide) (by decide) (Nat.le_of_ble_eq_true rfl) (Nat.le_of_ble_eq_true rfl) dX7_init_93 ?_
  replace hf := zb1_s hf
  obtain ⟨m47, h48, hf⟩ := hf
  obtain rfl := Option.some.inj h48
  refine zr_dup dX7_init_96 rfl ?_
  refine zr_iconst 0 dX7_init_97 (by decide) ?_
  refine zr_new [.int 0, .int 0, .null, .null] zk3 zl_431 zl_255 zl_207 (by decide +kernel) (Nat.le_of_ble_eq_true rfl) (Nat.le_of_ble_eq_true rfl) dX7_init_98 ?_
  replace hf := zb1_s hf
  obtain ⟨m49, h50, hf⟩ := hf
  obtain rfl := Option.some.inj h50
  refine zr_dup dX7_init_101 rfl ?_
  replace hf := zb1_s hf
  obtain ⟨m52, h51, hf⟩ := hf
  refine zr_callIN [] (cX3_init_ok h51) zvs_X3_init zl_258 rfl zl_432 rfl (Nat.le_of_ble_eq_true rfl) (Nat.le_of_ble_eq_true rfl) (Nat.le_of_ble_eq_true rfl) (Nat.le_of_ble_eq_true rfl) dX7_init_102 rfl ?_
  replace hf := zb1_s hf
  obtain ⟨m53, h54, hf⟩ := hf
  refine zr_aast h54 (by decide) rfl zk3 dX7_init_105 ?_
  refine zr_dup dX7_init_106 rfl ?_
  refine zr_iconst 1 dX7_init_107 (by decide) ?_
  refine zr_new [.int 0, .int 0, .null, .null] zk3 zl_431 zl_255 zl_207 (by decide +kernel) (Nat.le_of_ble_eq_true rfl) (Nat.le_of_ble_eq_true rfl) dX7_init_108 ?_
  replace hf := zb1_s hf
  obtain ⟨m55, h56, hf⟩ := hf
  obtain rfl := Option.some.inj h56
  refine zr_dup dX7_init_111 rfl ?_
  replace hf := zb1_s hf
  obtain ⟨m58, h57, hf⟩ := hf
  refine zr_callIN [] (cX3_init_ok h57) zvs_X3_init zl_258 rfl zl_432 rfl (Nat.le_of_ble_eq_true rfl) (Nat.le_of_ble_eq_true rfl) (Nat.le_of_ble_eq_true rfl) (Nat.le_of_ble_eq_true rfl) dX7_init_112 rfl ?_
  replace hf := zb1_s hf
  obtain ⟨m59, h60, hf⟩ := hf
  refine zr_aast h60 (by decide) rfl zk3 dX7_init_115 ?_
  replace hf := zb1_s hf
  obtain ⟨m61, h62, hf⟩ := hf
  refine zr_putF h62 hin rfl zk7 (by decide) zl_433 rfl rfl rfl dX7_init_116 ?_
  refine zr_aload_n 0 dX7_init_119 rfl ?_
  refine zr_iconst 2 dX7_init_120 (by decide) ?_
  refine zr_newq (t := 7) (N := 2) (by decide) rfl zl_434 (by decide) (by decide) (by decide) (Nat.le_of_ble_eq_true rfl) (Nat.le_of_ble_eq_true rfl) dX7_init_121 ?_
  replace hf := zb1_s hf
  obtain ⟨m63, h64, hf⟩ := hf
  obtain rfl := Option.some.inj h64
  refine zr_dup dX7_init_124 rfl ?_
  refine zr_iconst 0 dX7_init_125 (by decide) ?_
  refine zr_new [.int 0, .null, .null, .null, .null] zk6 zl_434 zl_261 zl_262 (by decide +kernel) (Nat.le_of_ble_eq_true rfl) (Nat.le_of_ble_eq_true rfl) dX7_init_126 ?_
  replace hf := zb1_s hf
  obtain ⟨m65, h66, hf⟩ := hf
  obtain rfl := Option.some.inj h66
  refine zr_dup dX7_init_129 rfl ?_
  replace hf := zb1_s hf
  obtain ⟨m68, h67, hf⟩ := hf
  refine zr_callIN [] (cX6_init_ok h67) zvs_X6_init zl_265 rfl zl_435 rfl (Nat.le_of_ble_eq_true rfl) (Nat.le_of_ble_eq_true rfl) (Nat.le_of_ble_eq_true rfl) (Nat.le_of_ble_eq_true rfl) dX7_init_130 rfl ?_
  replace hf := zb1_s hf
  obtain ⟨m69, h70, hf⟩ := hf
  refine zr_aast h70 (by decide) rfl zk6 dX7_init_133 ?_
  refine zr_dup dX7_init_134 rfl ?_
  refine zr_iconst 1 dX7_init_135 (by decide) ?_
  refine zr_new [.int 0, .null, .null, .null, .null] zk6 zl_434 zl_261 zl_262 (by decide +kernel) (Nat.le_of_ble_eq_true rfl) (Nat.le_of_ble_eq_true rfl) dX7_init_136 ?_
  replace hf := zb1_s hf
  obtain ⟨m71, h72, hf⟩ := hf
  obtain rfl := Option.some.inj h72
  refine zr_dup dX7_init_139 rfl ?_
  replace hf := zb1_s hf
  obtain ⟨m74, h73, hf⟩ := hf
  refine zr_callIN [] (cX6_init_ok h73) zvs_X6_init zl_265 rfl zl_435 rfl (Nat.le_of_ble_eq_true rfl) (Nat.le_of_ble_eq_true rfl) (Nat.le_of_ble_eq_true rfl) (Nat.le_of_ble_eq_true rfl) dX7_init_140 rfl ?_
  replace hf := zb1_s hf
  obtain ⟨m75, h76, hf⟩ := hf
  refine zr_aast h76 (by decide) rfl zk6 dX7_init_143 ?_
  replace hf := zb1_s hf
  obtain ⟨m77, h78, hf⟩ := hf
  refine zr_putF h78 hin rfl zk7 (by decide) zl_436 rfl rfl rfl dX7_init_144 ?_
  cases hf
  exact zr_vret dX7_init_147
theorem dX7_put_0 : decode cX7_put 0 = .ok (.bipush 24, 2) := by decide +kernel
theorem dX7_put_2 : decode cX7_put 2 = .ok (.istore_n 2, 1) := by decide +kernel
theorem dX7_put_3 : decode cX7_put 3 = .ok (.iload_n 2, 1) := by decide +kernel
theorem dX7_put_4 : decode cX7_put 4 = .ok (.ifCond .lt 42, 3) := by decide +kernel
theorem dX7_put_7 : decode cX7_put 7 = .ok (.aload_n 0, 1) := by decide +kernel
theorem dX7_put_8 : decode cX7_put 8 = .ok (.getfield 15, 3) := by decide +kernel
theorem dX7_put_11 : decode cX7_put 11 = .ok (.sipush 600, 3) := by decide +kernel
theorem dX7_put_14 : decode cX7_put 14 = .ok (.if_icmp .ge 32, 3) := by decide +kernel
theorem dX7_put_17 : decode cX7_put 17 = .ok (.aload_n 0, 1) := by decide +kernel
theorem dX7_put_18 : decode cX7_put 18 = .ok (.getfield 9, 3) := by decide +kernel
theorem dX7_put_21 : decode cX7_put 21 = .ok (.aload_n 0, 1) := by decide +kernel
theorem dX7_put_22 : decode cX7_put 22 = .ok (.getfield 15, 3) := by decide +kernel
theorem dX7_put_25 : decode cX7_put 25 = .ok (.iload_n 1, 1) := by decide +kernel
theorem dX7_put_26 : decode cX7_put 26 = .ok (.iload_n 2, 1) := by decide +kernel
theorem dX7_put_27 : decode cX7_put 27 = .ok (.iushr, 1) := by decide +kernel
theorem dX7_put_28 : decode cX7_put 28 = .ok (.i2b, 1) := by decide +kernel
theorem dX7_put_29 : decode cX7_put 29 = .ok (.bastore, 1) := by decide +kernel
theorem dX7_put_30 : decode cX7_put 30 = .ok (.aload_n 0, 1) := by decide +kernel
theorem dX7_put_31 : decode cX7_put 31 = .ok (.dup, 1) := by decide +kernel
theorem dX7_put_32 : decode cX7_put 32 = .ok (.getfield 15, 3) := by decide +kernel
theorem dX7_put_35 : decode cX7_put 35 = .ok (.iconst 1, 1) := by decide +kernel
theorem dX7_put_36 : decode cX7_put 36 = .ok (.iadd, 1) := by decide +kernel
theorem dX7_put_37 : decode cX7_put 37 = .ok (.putfield 15, 3) := by decide +kernel
theorem dX7_put_40 : decode cX7_put 40 = .ok (.iinc 2 (-8), 3) := by decide +kernel
theorem dX7_put_43 : decode cX7_put 43 = .ok (.goto (-40), 3) := by decide +kernel
theorem dX7_put_46 : decode cX7_put 46 = .ok (.return_, 1) := by decide +kernel
def fX7_put_l3 (x0 : Nat) (x1 : Int32) (F3 : Int32 → zM → Option (zM)) (x2_1 : Int32) (m2 : zM) : Option (zM) :=
  if x2_1 < 0 then (
  some m2)
  else (
  zb1 (zm_gI m2 7 x0 1) fun v7 =>
  if 600 ≤ v7 then (
  some m2)
  else (
  zb1 (zm_gR m2 7 x0 0) fun v9 =>
  zb1 (zm_gI m2 7 x0 1) fun v11 =>
  zb1 (zm_sI m2 1 v9 v11 (vp_nar .byte ((((x1 : Int32).toUInt32 >>> ((x2_1 : Int32).toUInt32 &&& Int32.toUInt32 31)).toInt32 : Int32).toInt8.toInt32))) fun m13 =>
  zb1 (zm_gI m13 7 x0 1) fun v15 =>
  zb1 (zm_p m13 7 x0 1 (.int (v15 + 1))) fun m17 =>
  F3 (x2_1 + (-8)) m17))
def fX7_put (μ : zM) (x0 : Nat) (x1 : Int32) : Option (zM) := zgd (zm_ck μ 7 x0) <|
  zb1 (zf2 (fX7_put_l3 x0 x1) zfu 24 μ) fun m5 =>
  some m5
theorem fX7_put_ck {μ : zM} {x0 : Nat} {x1 : Int32} {z : zM} (h : fX7_put μ x0 x1 = some z) : zm_ck μ 7 x0 = true := (zgd_s h).1
set_option maxHeartbeats 4000000 in
set_option maxRecDepth 100000 in
theorem cX7_put_ok {μ : zM} {x0 : Nat} {x1 : Int32} {mo : zM} (hf : fX7_put μ x0 x1 = some mo) : zC yX7_put cX7_put 3 (none) 0 0 0 [.ref x0, .int x1] μ (none) mo := by
  replace hf := (zgd_s hf).2
  refine zC.of (by decide) (Nat.le_of_ble_eq_true rfl) (fun K hin => ?_)
  clear hin
  show zz K cX7_put (3, RX7, none, 0, 0, 0, none, mo) 0 0 0 [(0, .ref x0), (1, .int x1)] [] μ
  refine zr_bipush 24 dX7_put_0 (by decide) ?_
  refine zr_istore_n [(2, .int 24), (0, .ref x0), (1, .int x1)] dX7_put_2 (Nat.le_of_ble_eq_true rfl) rfl ?_
  replace hf := zb1_s hf
  obtain ⟨m5, hg, hf⟩ := hf
  have hj6 : zz K cX7_put (3, RX7, none, 0, 0, 0, none, mo) 0 0 46 [] [] m5 := by
    cases hf
    exact zr_vret dX7_put_46
  clear hf
  have hf := hg
  clear hg
  have hL19 : ∀ (n : Nat) (x2_1 : Int32) (m2 : zM), zf2 (fX7_put_l3 x0 x1) n x2_1 m2 = some m5 → zz K cX7_put (3, RX7, none, 0, 0, 0, none, mo) 0 0 3 [(0, .ref x0), (1, .int x1), (2, .int x2_1)] [] m2 := by
    intro n
    induction n with
    | zero => intro x2_1 m2 hf; cases hf
    | succ n ih4 =>
      intro x2_1 m2 hf
      replace hf := zf2_s hf
      generalize zf2 (fX7_put_l3 x0 x1) n = F3 at hf ih4
      unfold fX7_put_l3 at hf
      refine zr_iload_n 2 dX7_put_3 rfl ?_
      refine zr_if_lt 46 dX7_put_4 (by decide) (fun hc => ?_) (fun hc => ?_)
      · rw [if_pos hc] at hf
        cases hf
        exact zr_lv [] rfl hj6
      · rw [if_neg hc] at hf
        refine zr_aload_n 0 dX7_put_7 rfl ?_
        replace hf := zb1_s hf
        obtain ⟨v7, h8, hf⟩ := hf
        refine zr_get (zm_gI_g h8) zk7 (by decide) zl_421 dX7_put_8 ?_
        refine zr_sipush 600 dX7_put_11 (by decide) ?_
        refine zr_icmp_ge 46 dX7_put_14 (by decide) (fun hc => ?_) (fun hc => ?_)
        · rw [if_pos hc] at hf
          cases hf
          exact zr_lv [] rfl hj6
        · rw [if_neg hc] at hf
          refine zr_aload_n 0 dX7_put_17 rfl ?_
          replace hf := zb1_s hf
          obtain ⟨v9, h10, hf⟩ := hf
          refine zr_get (zm_gR_g h10) zk7 (by decide) zl_420 dX7_put_18 ?_
          refine zr_aload_n 0 dX7_put_21 rfl ?_
          replace hf := zb1_s hf
          obtain ⟨v11, h12, hf⟩ := hf
          refine zr_get (zm_gI_g h12) zk7 (by decide) zl_421 dX7_put_22 ?_
          refine zr_iload_n 1 dX7_put_25 rfl ?_
          refine zr_iload_n 2 dX7_put_26 rfl ?_
          refine zr_iushr dX7_put_27 ?_
          refine zr_i2b dX7_put_28 ?_
          replace hf := zb1_s hf
          obtain ⟨m13, h14, hf⟩ := hf
          refine zr_bast h14 dX7_put_29 ?_
          refine zr_aload_n 0 dX7_put_30 rfl ?_
          refine zr_dup dX7_put_31 rfl ?_
          replace hf := zb1_s hf
          obtain ⟨v15, h16, hf⟩ := hf
          refine zr_get (zm_gI_g h16) zk7 (by decide) zl_421 dX7_put_32 ?_
          refine zr_iconst 1 dX7_put_35 (by decide) ?_
          refine zr_iadd dX7_put_36 ?_
          replace hf := zb1_s hf
          obtain ⟨m17, h18, hf⟩ := hf
          refine zr_put h18 zk7 (by decide) zl_421 rfl rfl rfl dX7_put_37 ?_
          refine zr_iinc (j := 2) (x2_1 + (-8)) [(2, .int (x2_1 + (-8))), (0, .ref x0), (1, .int x1)] dX7_put_40 rfl rfl (Nat.le_of_ble_eq_true rfl) rfl ?_
          refine zr_goto 3 dX7_put_43 (by decide) ?_
          exact zr_lv [1, 2, 0] rfl (ih4 (x2_1 + (-8)) m17 hf)
  exact zr_lv [1, 2, 0] rfl (hL19 _ 24 μ hf)
theorem dX7_slotFor_0 : decode cX7_slotFor 0 = .ok (.iload_n 1, 1) := by decide +kernel
theorem dX7_slotFor_1 : decode cX7_slotFor 1 = .ok (.ifCond .lt 8, 3) := by decide +kernel
theorem dX7_slotFor_4 : decode cX7_slotFor 4 = .ok (.iload_n 1, 1) := by decide +kernel
theorem dX7_slotFor_5 : decode cX7_slotFor 5 = .ok (.iconst 4, 1) := by decide +kernel
theorem dX7_slotFor_6 : decode cX7_slotFor 6 = .ok (.if_icmp .lt 5, 3) := by decide +kernel
theorem dX7_slotFor_9 : decode cX7_slotFor 9 = .ok (.iconst (-1), 1) := by decide +kernel
theorem dX7_slotFor_10 : decode cX7_slotFor 10 = .ok (.ireturn, 1) := by decide +kernel
theorem dX7_slotFor_11 : decode cX7_slotFor 11 = .ok (.iload_n 2, 1) := by decide +kernel
theorem dX7_slotFor_12 : decode cX7_slotFor 12 = .ok (.iconst (-1), 1) := by decide +kernel
theorem dX7_slotFor_13 : decode cX7_slotFor 13 = .ok (.if_icmp .ne 24, 3) := by decide +kernel
theorem dX7_slotFor_16 : decode cX7_slotFor 16 = .ok (.aload_n 0, 1) := by decide +kernel
theorem dX7_slotFor_17 : decode cX7_slotFor 17 = .ok (.getfield 25, 3) := by decide +kernel
theorem dX7_slotFor_20 : decode cX7_slotFor 20 = .ok (.iload_n 1, 1) := by decide +kernel
theorem dX7_slotFor_21 : decode cX7_slotFor 21 = .ok (.iaload, 1) := by decide +kernel
theorem dX7_slotFor_22 : decode cX7_slotFor 22 = .ok (.iconst 2, 1) := by decide +kernel
theorem dX7_slotFor_23 : decode cX7_slotFor 23 = .ok (.if_icmp .ge 12, 3) := by decide +kernel
theorem dX7_slotFor_26 : decode cX7_slotFor 26 = .ok (.aload_n 0, 1) := by decide +kernel
theorem dX7_slotFor_27 : decode cX7_slotFor 27 = .ok (.getfield 25, 3) := by decide +kernel
theorem dX7_slotFor_30 : decode cX7_slotFor 30 = .ok (.iload_n 1, 1) := by decide +kernel
theorem dX7_slotFor_31 : decode cX7_slotFor 31 = .ok (.iaload, 1) := by decide +kernel
theorem dX7_slotFor_32 : decode cX7_slotFor 32 = .ok (.goto 4, 3) := by decide +kernel
theorem dX7_slotFor_35 : decode cX7_slotFor 35 = .ok (.iconst (-1), 1) := by decide +kernel
theorem dX7_slotFor_36 : decode cX7_slotFor 36 = .ok (.ireturn, 1) := by decide +kernel
theorem dX7_slotFor_37 : decode cX7_slotFor 37 = .ok (.iload_n 2, 1) := by decide +kernel
theorem dX7_slotFor_38 : decode cX7_slotFor 38 = .ok (.ifCond .lt 17, 3) := by decide +kernel
theorem dX7_slotFor_41 : decode cX7_slotFor 41 = .ok (.iload_n 2, 1) := by decide +kernel
theorem dX7_slotFor_42 : decode cX7_slotFor 42 = .ok (.aload_n 0, 1) := by decide +kernel
theorem dX7_slotFor_43 : decode cX7_slotFor 43 = .ok (.getfield 25, 3) := by decide +kernel
theorem dX7_slotFor_46 : decode cX7_slotFor 46 = .ok (.iload_n 1, 1) := by decide +kernel
theorem dX7_slotFor_47 : decode cX7_slotFor 47 = .ok (.iaload, 1) := by decide +kernel
theorem dX7_slotFor_48 : decode cX7_slotFor 48 = .ok (.if_icmp .ge 7, 3) := by decide +kernel
theorem dX7_slotFor_51 : decode cX7_slotFor 51 = .ok (.iload_n 2, 1) := by decide +kernel
theorem dX7_slotFor_52 : decode cX7_slotFor 52 = .ok (.goto 4, 3) := by decide +kernel
theorem dX7_slotFor_55 : decode cX7_slotFor 55 = .ok (.iconst (-1), 1) := by decide +kernel
theorem dX7_slotFor_56 : decode cX7_slotFor 56 = .ok (.ireturn, 1) := by decide +kernel
def fX7_slotFor (μ : zM) (x0 : Nat) (x1 : Int32) (x2 : Int32) : Option (Int32) := zgd (zm_ck μ 7 x0) <|
  if x1 < 0 then (
  some (-1))
  else (
  if x1 < 4 then (
  if x2 = (-1) then (
  zb1 (zm_gR μ 7 x0 4) fun v7 =>
  zb1 (zm_aI μ 0 v7 x1) fun v9 =>
  zb1 (if 2 ≤ v9 then (
  some (-1))
  else (
  zb1 (zm_gR μ 7 x0 4) fun v13 =>
  zb1 (zm_aI μ 0 v13 x1) fun v15 =>
  some v15)) fun s11 =>
  some s11)
  else (
  zb1 (if x2 < 0 then (
  some (-1))
  else (
  zb1 (zm_gR μ 7 x0 4) fun v3 =>
  zb1 (zm_aI μ 0 v3 x1) fun v5 =>
  if v5 ≤ x2 then (
  some (-1))
  else (
  some x2))) fun s1 =>
  some s1))
  else (
  some (-1)))
theorem fX7_slotFor_ck {μ : zM} {x0 : Nat} {x1 : Int32} {x2 : Int32} {z : Int32} (h : fX7_slotFor μ x0 x1 x2 = some z) : zm_ck μ 7 x0 = true := (zgd_s h).1
set_option maxHeartbeats 4000000 in
set_option maxRecDepth 100000 in
theorem cX7_slotFor_ok {μ : zM} {x0 : Nat} {x1 : Int32} {x2 : Int32} {r : Int32} (hf : fX7_slotFor μ x0 x1 x2 = some r) : zC yX7_slotFor cX7_slotFor 3 (some .int) 0 0 0 [.ref x0, .int x1, .int x2] μ (some (.int r)) μ := by
  replace hf := (zgd_s hf).2
  refine zC.of (by decide) (Nat.le_of_ble_eq_true rfl) (fun K hin => ?_)
  clear hin
  show zz K cX7_slotFor (3, RX7, some .int, 0, 0, 0, some (.int r), μ) 0 0 0 [(0, .ref x0), (1, .int x1), (2, .int x2)] [] μ
  refine zr_iload_n 1 dX7_slotFor_0 rfl ?_
  refine zr_if_lt 9 dX7_slotFor_1 (by decide) (fun hc => ?_) (fun hc => ?_)
  · rw [if_pos hc] at hf
    refine zr_iconst (-1) dX7_slotFor_9 (by decide) ?_
    cases hf
    exact zr_iret dX7_slotFor_10
  · rw [if_neg hc] at hf
    refine zr_iload_n 1 dX7_slotFor_4 rfl ?_
    refine zr_iconst 4 dX7_slotFor_5 (by decide) ?_
    refine zr_icmp_lt 11 dX7_slotFor_6 (by decide) (fun hc => ?_) (fun hc => ?_)
    · rw [if_pos hc] at hf
      refine zr_iload_n 2 dX7_slotFor_11 rfl ?_
      refine zr_iconst (-1) dX7_slotFor_12 (by decide) ?_
      refine zr_icmp_ne 37 dX7_slotFor_13 (by decide) (fun hc => ?_) (fun hc => ?_)
      · rw [if_neg hc] at hf
        refine zr_iload_n 2 dX7_slotFor_37 rfl ?_
        replace hf := zb1_s hf
        obtain ⟨s1, hg, hf⟩ := hf
        have hj2 : zz K cX7_slotFor (3, RX7, some .int, 0, 0, 0, some (.int r), μ) 0 0 56 [] [.int s1] μ := by
          cases hf
          exact zr_iret dX7_slotFor_56
        clear hf
        have hf := hg
        clear hg
        refine zr_if_lt 55 dX7_slotFor_38 (by decide) (fun hc => ?_) (fun hc => ?_)
        · rw [if_pos hc] at hf
          refine zr_iconst (-1) dX7_slotFor_55 (by decide) ?_
          cases hf
          exact zr_lv [] rfl hj2
        · rw [if_neg hc] at hf
          refine zr_iload_n 2 dX7_slotFor_41 rfl ?_
          refine zr_aload_n 0 dX7_slotFor_42 rfl ?_
          replace hf := zb1_s hf
          obtain ⟨v3, h4, hf⟩ := hf
          refine zr_get (zm_gR_g h4) zk7 (by decide) zl_424 dX7_slotFor_43 ?_
          refine zr_iload_n 1 dX7_slotFor_46 rfl ?_
          replace hf := zb1_s hf
          obtain ⟨v5, h6, hf⟩ := hf
          refine zr_iald h6 dX7_slotFor_47 ?_
          refine zr_icmp_ge 55 dX7_slotFor_48 (by decide) (fun hc => ?_) (fun hc => ?_)
          · rw [if_pos hc] at hf
            refine zr_iconst (-1) dX7_slotFor_55 (by decide) ?_
            cases hf
            exact zr_lv [] rfl hj2
          · rw [if_neg hc] at hf
            refine zr_iload_n 2 dX7_slotFor_51 rfl ?_
            refine zr_goto 56 dX7_slotFor_52 (by decide) ?_
            cases hf
            exact zr_lv [] rfl hj2
      · rw [if_pos hc] at hf
        refine zr_aload_n 0 dX7_slotFor_16 rfl ?_
        replace hf := zb1_s hf
        obtain ⟨v7, h8, hf⟩ := hf
        refine zr_get (zm_gR_g h8) zk7 (by decide) zl_424 dX7_slotFor_17 ?_
        refine zr_iload_n 1 dX7_slotFor_20 rfl ?_
        replace hf := zb1_s hf
        obtain ⟨v9, h10, hf⟩ := hf
        refine zr_iald h10 dX7_slotFor_21 ?_
        refine zr_iconst 2 dX7_slotFor_22 (by decide) ?_
        replace hf := zb1_s hf
        obtain ⟨s11, hg, hf⟩ := hf
        have hj12 : zz K cX7_slotFor (3, RX7, some .int, 0, 0, 0, some (.int r), μ) 0 0 36 [] [.int s11] μ := by
          cases hf
          exact zr_iret dX7_slotFor_36
        clear hf
        have hf := hg
        clear hg
        refine zr_icmp_ge 35 dX7_slotFor_23 (by decide) (fun hc => ?_) (fun hc => ?_)
        · rw [if_pos hc] at hf
          refine zr_iconst (-1) dX7_slotFor_35 (by decide) ?_
          cases hf
          exact zr_lv [] rfl hj12
        · rw [if_neg hc] at hf
          refine zr_aload_n 0 dX7_slotFor_26 rfl ?_
          replace hf := zb1_s hf
          obtain ⟨v13, h14, hf⟩ := hf
          refine zr_get (zm_gR_g h14) zk7 (by decide) zl_424 dX7_slotFor_27 ?_
          refine zr_iload_n 1 dX7_slotFor_30 rfl ?_
          replace hf := zb1_s hf
          obtain ⟨v15, h16, hf⟩ := hf
          refine zr_iald h16 dX7_slotFor_31 ?_
          refine zr_goto 36 dX7_slotFor_32 (by decide) ?_
          cases hf
          exact zr_lv [] rfl hj12
    · rw [if_neg hc] at hf
      refine zr_iconst (-1) dX7_slotFor_9 (by decide) ?_
      cases hf
      exact zr_iret dX7_slotFor_10
theorem zl_437 : Cond.methodLink RX9 58 arraycopyName ∈ zt := zt_at 736 (by decide +kernel)
theorem dX9_copyFrom_0 : decode cX9_copyFrom 0 = .ok (.aload_n 0, 1) := by decide +kernel
theorem dX9_copyFrom_1 : decode cX9_copyFrom 1 = .ok (.aload_n 1, 1) := by decide +kernel
theorem dX9_copyFrom_2 : decode cX9_copyFrom 2 = .ok (.getfield 42, 3) := by decide +kernel
theorem dX9_copyFrom_5 : decode cX9_copyFrom 5 = .ok (.putfield 42, 3) := by decide +kernel
theorem dX9_copyFrom_8 : decode cX9_copyFrom 8 = .ok (.aload_n 1, 1) := by decide +kernel
theorem dX9_copyFrom_9 : decode cX9_copyFrom 9 = .ok (.getfield 9, 3) := by decide +kernel
theorem dX9_copyFrom_12 : decode cX9_copyFrom 12 = .ok (.iconst 0, 1) := by decide +kernel
theorem dX9_copyFrom_13 : decode cX9_copyFrom 13 = .ok (.aload_n 0, 1) := by decide +kernel
theorem dX9_copyFrom_14 : decode cX9_copyFrom 14 = .ok (.getfield 9, 3) := by decide +kernel
theorem dX9_copyFrom_17 : decode cX9_copyFrom 17 = .ok (.iconst 0, 1) := by decide +kernel
theorem dX9_copyFrom_18 : decode cX9_copyFrom 18 = .ok (.bipush 8, 2) := by decide +kernel
theorem dX9_copyFrom_20 : decode cX9_copyFrom 20 = .ok (.invokestatic 58, 3) := by decide +kernel
theorem dX9_copyFrom_23 : decode cX9_copyFrom 23 = .ok (.aload_n 1, 1) := by decide +kernel
theorem dX9_copyFrom_24 : decode cX9_copyFrom 24 = .ok (.getfield 15, 3) := by decide +kernel
theorem dX9_copyFrom_27 : decode cX9_copyFrom 27 = .ok (.iconst 0, 1) := by decide +kernel
theorem dX9_copyFrom_28 : decode cX9_copyFrom 28 = .ok (.aload_n 0, 1) := by decide +kernel
theorem dX9_copyFrom_29 : decode cX9_copyFrom 29 = .ok (.getfield 15, 3) := by decide +kernel
theorem dX9_copyFrom_32 : decode cX9_copyFrom 32 = .ok (.iconst 0, 1) := by decide +kernel
theorem dX9_copyFrom_33 : decode cX9_copyFrom 33 = .ok (.bipush 8, 2) := by decide +kernel
theorem dX9_copyFrom_35 : decode cX9_copyFrom 35 = .ok (.invokestatic 58, 3) := by decide +kernel
theorem dX9_copyFrom_38 : decode cX9_copyFrom 38 = .ok (.aload_n 1, 1) := by decide +kernel
theorem dX9_copyFrom_39 : decode cX9_copyFrom 39 = .ok (.getfield 18, 3) := by decide +kernel
theorem dX9_copyFrom_42 : decode cX9_copyFrom 42 = .ok (.iconst 0, 1) := by decide +kernel
theorem dX9_copyFrom_43 : decode cX9_copyFrom 43 = .ok (.aload_n 0, 1) := by decide +kernel
theorem dX9_copyFrom_44 : decode cX9_copyFrom 44 = .ok (.getfield 18, 3) := by decide +kernel
theorem dX9_copyFrom_47 : decode cX9_copyFrom 47 = .ok (.iconst 0, 1) := by decide +kernel
theorem dX9_copyFrom_48 : decode cX9_copyFrom 48 = .ok (.bipush 8, 2) := by decide +kernel
theorem dX9_copyFrom_50 : decode cX9_copyFrom 50 = .ok (.invokestatic 58, 3) := by decide +kernel
theorem dX9_copyFrom_53 : decode cX9_copyFrom 53 = .ok (.aload_n 0, 1) := by decide +kernel
theorem dX9_copyFrom_54 : decode cX9_copyFrom 54 = .ok (.aload_n 1, 1) := by decide +kernel
theorem dX9_copyFrom_55 : decode cX9_copyFrom 55 = .ok (.getfield 46, 3) := by decide +kernel
theorem dX9_copyFrom_58 : decode cX9_copyFrom 58 = .ok (.putfield 46, 3) := by decide +kernel
theorem dX9_copyFrom_61 : decode cX9_copyFrom 61 = .ok (.aload_n 1, 1) := by decide +kernel
theorem dX9_copyFrom_62 : decode cX9_copyFrom 62 = .ok (.getfield 21, 3) := by decide +kernel
theorem dX9_copyFrom_65 : decode cX9_copyFrom 65 = .ok (.iconst 0, 1) := by decide +kernel
theorem dX9_copyFrom_66 : decode cX9_copyFrom 66 = .ok (.aload_n 0, 1) := by decide +kernel
theorem dX9_copyFrom_67 : decode cX9_copyFrom 67 = .ok (.getfield 21, 3) := by decide +kernel
theorem dX9_copyFrom_70 : decode cX9_copyFrom 70 = .ok (.iconst 0, 1) := by decide +kernel
theorem dX9_copyFrom_71 : decode cX9_copyFrom 71 = .ok (.bipush 6, 2) := by decide +kernel
theorem dX9_copyFrom_73 : decode cX9_copyFrom 73 = .ok (.invokestatic 58, 3) := by decide +kernel
theorem dX9_copyFrom_76 : decode cX9_copyFrom 76 = .ok (.aload_n 1, 1) := by decide +kernel
theorem dX9_copyFrom_77 : decode cX9_copyFrom 77 = .ok (.getfield 24, 3) := by decide +kernel
theorem dX9_copyFrom_80 : decode cX9_copyFrom 80 = .ok (.iconst 0, 1) := by decide +kernel
theorem dX9_copyFrom_81 : decode cX9_copyFrom 81 = .ok (.aload_n 0, 1) := by decide +kernel
theorem dX9_copyFrom_82 : decode cX9_copyFrom 82 = .ok (.getfield 24, 3) := by decide +kernel
theorem dX9_copyFrom_85 : decode cX9_copyFrom 85 = .ok (.iconst 0, 1) := by decide +kernel
theorem dX9_copyFrom_86 : decode cX9_copyFrom 86 = .ok (.bipush 6, 2) := by decide +kernel
theorem dX9_copyFrom_88 : decode cX9_copyFrom 88 = .ok (.invokestatic 58, 3) := by decide +kernel
theorem dX9_copyFrom_91 : decode cX9_copyFrom 91 = .ok (.aload_n 1, 1) := by decide +kernel
theorem dX9_copyFrom_92 : decode cX9_copyFrom 92 = .ok (.getfield 27, 3) := by decide +kernel
theorem dX9_copyFrom_95 : decode cX9_copyFrom 95 = .ok (.iconst 0, 1) := by decide +kernel
theorem dX9_copyFrom_96 : decode cX9_copyFrom 96 = .ok (.aload_n 0, 1) := by decide +kernel
theorem dX9_copyFrom_97 : decode cX9_copyFrom 97 = .ok (.getfield 27, 3) := by decide +kernel
theorem dX9_copyFrom_100 : decode cX9_copyFrom 100 = .ok (.iconst 0, 1) := by decide +kernel
theorem dX9_copyFrom_101 : decode cX9_copyFrom 101 = .ok (.bipush 6, 2) := by decide +kernel
theorem dX9_copyFrom_103 : decode cX9_copyFrom 103 = .ok (.invokestatic 58, 3) := by decide +kernel
theorem dX9_copyFrom_106 : decode cX9_copyFrom 106 = .ok (.aload_n 0, 1) := by decide +kernel
theorem dX9_copyFrom_107 : decode cX9_copyFrom 107 = .ok (.aload_n 1, 1) := by decide +kernel
theorem dX9_copyFrom_108 : decode cX9_copyFrom 108 = .ok (.getfield 49, 3) := by decide +kernel
theorem dX9_copyFrom_111 : decode cX9_copyFrom 111 = .ok (.putfield 49, 3) := by decide +kernel
theorem dX9_copyFrom_114 : decode cX9_copyFrom 114 = .ok (.aload_n 1, 1) := by decide +kernel
theorem dX9_copyFrom_115 : decode cX9_copyFrom 115 = .ok (.getfield 30, 3) := by decide +kernel
theorem dX9_copyFrom_118 : decode cX9_copyFrom 118 = .ok (.iconst 0, 1) := by decide +kernel
theorem dX9_copyFrom_119 : decode cX9_copyFrom 119 = .ok (.aload_n 0, 1) := by decide +kernel
theorem dX9_copyFrom_120 : decode cX9_copyFrom 120 = .ok (.getfield 30, 3) := by decide +kernel
theorem dX9_copyFrom_123 : decode cX9_copyFrom 123 = .ok (.iconst 0, 1) := by decide +kernel
theorem dX9_copyFrom_124 : decode cX9_copyFrom 124 = .ok (.iconst 4, 1) := by decide +kernel
theorem dX9_copyFrom_125 : decode cX9_copyFrom 125 = .ok (.invokestatic 58, 3) := by decide +kernel
theorem dX9_copyFrom_128 : decode cX9_copyFrom 128 = .ok (.aload_n 1, 1) := by decide +kernel
theorem dX9_copyFrom_129 : decode cX9_copyFrom 129 = .ok (.getfield 33, 3) := by decide +kernel
theorem dX9_copyFrom_132 : decode cX9_copyFrom 132 = .ok (.iconst 0, 1) := by decide +kernel
theorem dX9_copyFrom_133 : decode cX9_copyFrom 133 = .ok (.aload_n 0, 1) := by decide +kernel
theorem dX9_copyFrom_134 : decode cX9_copyFrom 134 = .ok (.getfield 33, 3) := by decide +kernel
theorem dX9_copyFrom_137 : decode cX9_copyFrom 137 = .ok (.iconst 0, 1) := by decide +kernel
theorem dX9_copyFrom_138 : decode cX9_copyFrom 138 = .ok (.iconst 4, 1) := by decide +kernel
theorem dX9_copyFrom_139 : decode cX9_copyFrom 139 = .ok (.invokestatic 58, 3) := by decide +kernel
theorem dX9_copyFrom_142 : decode cX9_copyFrom 142 = .ok (.aload_n 1, 1) := by decide +kernel
theorem dX9_copyFrom_143 : decode cX9_copyFrom 143 = .ok (.getfield 36, 3) := by decide +kernel
theorem dX9_copyFrom_146 : decode cX9_copyFrom 146 = .ok (.iconst 0, 1) := by decide +kernel
theorem dX9_copyFrom_147 : decode cX9_copyFrom 147 = .ok (.aload_n 0, 1) := by decide +kernel
theorem dX9_copyFrom_148 : decode cX9_copyFrom 148 = .ok (.getfield 36, 3) := by decide +kernel
theorem dX9_copyFrom_151 : decode cX9_copyFrom 151 = .ok (.iconst 0, 1) := by decide +kernel
theorem dX9_copyFrom_152 : decode cX9_copyFrom 152 = .ok (.iconst 4, 1) := by decide +kernel
theorem dX9_copyFrom_153 : decode cX9_copyFrom 153 = .ok (.invokestatic 58, 3) := by decide +kernel
theorem dX9_copyFrom_156 : decode cX9_copyFrom 156 = .ok (.aload_n 1, 1) := by decide +kernel
theorem dX9_copyFrom_157 : decode cX9_copyFrom 157 = .ok (.getfield 39, 3) := by decide +kernel
theorem dX9_copyFrom_160 : decode cX9_copyFrom 160 = .ok (.iconst 0, 1) := by decide +kernel
theorem dX9_copyFrom_161 : decode cX9_copyFrom 161 = .ok (.aload_n 0, 1) := by decide +kernel
theorem dX9_copyFrom_162 : decode cX9_copyFrom 162 = .ok (.getfield 39, 3) := by decide +kernel
theorem dX9_copyFrom_165 : decode cX9_copyFrom 165 = .ok (.iconst 0, 1) := by decide +kernel
theorem dX9_copyFrom_166 : decode cX9_copyFrom 166 = .ok (.bipush 100, 2) := by decide +kernel
theorem dX9_copyFrom_168 : decode cX9_copyFrom 168 = .ok (.invokestatic 58, 3) := by decide +kernel
theorem dX9_copyFrom_171 : decode cX9_copyFrom 171 = .ok (.return_, 1) := by decide +kernel
def fX9_copyFrom (μ : zM) (x0 : Nat) (x1 : Nat) : Option (zM) := zgd (zm_ck μ 9 x0) <|
  zb1 (zm_gI μ 9 x1 0) fun v1 =>
  zb1 (zm_p μ 9 x0 0 (.int v1)) fun m3 =>
  zb1 (zm_gR m3 9 x1 1) fun v5 =>
  zb1 (zm_gR m3 9 x0 1) fun v7 =>
  zb1 (zm_cpy m3 0 v5 0 v7 0 8) fun m9 =>
  zb1 (zm_gR m9 9 x1 2) fun v11 =>
  zb1 (zm_gR m9 9 x0 2) fun v13 =>
  zb1 (zm_cpy m9 0 v11 0 v13 0 8) fun m15 =>
  zb1 (zm_gR m15 9 x1 3) fun v17 =>
  zb1 (zm_gR m15 9 x0 3) fun v19 =>
  zb1 (zm_cpy m15 0 v17 0 v19 0 8) fun m21 =>
  zb1 (zm_gI m21 9 x1 4) fun v23 =>
  zb1 (zm_p m21 9 x0 4 (.int v23)) fun m25 =>
  zb1 (zm_gR m25 9 x1 5) fun v27 =>
  zb1 (zm_gR m25 9 x0 5) fun v29 =>
  zb1 (zm_cpy m25 0 v27 0 v29 0 6) fun m31 =>
  zb1 (zm_gR m31 9 x1 6) fun v33 =>
  zb1 (zm_gR m31 9 x0 6) fun v35 =>
  zb1 (zm_cpy m31 0 v33 0 v35 0 6) fun m37 =>
  zb1 (zm_gR m37 9 x1 7) fun v39 =>
  zb1 (zm_gR m37 9 x0 7) fun v41 =>
  zb1 (zm_cpy m37 0 v39 0 v41 0 6) fun m43 =>
  zb1 (zm_gI m43 9 x1 8) fun v45 =>
  zb1 (zm_p m43 9 x0 8 (.int v45)) fun m47 =>
  zb1 (zm_gR m47 9 x1 9) fun v49 =>
  zb1 (zm_gR m47 9 x0 9) fun v51 =>
  zb1 (zm_cpy m47 0 v49 0 v51 0 4) fun m53 =>
  zb1 (zm_gR m53 9 x1 10) fun v55 =>
  zb1 (zm_gR m53 9 x0 10) fun v57 =>
  zb1 (zm_cpy m53 0 v55 0 v57 0 4) fun m59 =>
  zb1 (zm_gR m59 9 x1 11) fun v61 =>
  zb1 (zm_gR m59 9 x0 11) fun v63 =>
  zb1 (zm_cpy m59 0 v61 0 v63 0 4) fun m65 =>
  zb1 (zm_gR m65 9 x1 12) fun v67 =>
  zb1 (zm_gR m65 9 x0 12) fun v69 =>
  zb1 (zm_cpy m65 0 v67 0 v69 0 100) fun m71 =>
  some m71
theorem fX9_copyFrom_ck {μ : zM} {x0 : Nat} {x1 : Nat} {z : zM} (h : fX9_copyFrom μ x0 x1 = some z) : zm_ck μ 9 x0 = true := (zgd_s h).1
set_option maxHeartbeats 4000000 in
set_option maxRecDepth 100000 in
theorem cX9_copyFrom_ok {μ : zM} {x0 : Nat} {x1 : Nat} {mo : zM} (hf : fX9_copyFrom μ x0 x1 = some mo) : zC yX9_copyFrom cX9_copyFrom 2 (none) 1 0 0 [.ref x0, .ref x1] μ (none) mo := by
  replace hf := (zgd_s hf).2
  refine zC.of (by decide) (Nat.le_of_ble_eq_true rfl) (fun K hin => ?_)
  clear hin
  show zz K cX9_copyFrom (2, RX9, none, 1, 0, 0, none, mo) 0 0 0 [(0, .ref x0), (1, .ref x1)] [] μ
  refine zr_aload_n 0 dX9_copyFrom_0 rfl ?_
  refine zr_aload_n 1 dX9_copyFrom_1 rfl ?_
  replace hf := zb1_s hf
  obtain ⟨v1, h2, hf⟩ := hf
  refine zr_get (zm_gI_g h2) zk9 (by decide) zl_8 dX9_copyFrom_2 ?_
  replace hf := zb1_s hf
  obtain ⟨m3, h4, hf⟩ := hf
  refine zr_put h4 zk9 (by decide) zl_8 rfl rfl rfl dX9_copyFrom_5 ?_
  refine zr_aload_n 1 dX9_copyFrom_8 rfl ?_
  replace hf := zb1_s hf
  obtain ⟨v5, h6, hf⟩ := hf
  refine zr_get (zm_gR_g h6) zk9 (by decide) zl_116 dX9_copyFrom_9 ?_
  refine zr_iconst 0 dX9_copyFrom_12 (by decide) ?_
  refine zr_aload_n 0 dX9_copyFrom_13 rfl ?_
  replace hf := zb1_s hf
  obtain ⟨v7, h8, hf⟩ := hf
  refine zr_get (zm_gR_g h8) zk9 (by decide) zl_116 dX9_copyFrom_14 ?_
  refine zr_iconst 0 dX9_copyFrom_17 (by decide) ?_
  refine zr_bipush 8 dX9_copyFrom_18 (by decide) ?_
  replace hf := zb1_s hf
  obtain ⟨m9, h10, hf⟩ := hf
  refine zr_cpy h10 (by decide) zl_437 zl_99 zl_100 zl_101 (Nat.le_of_ble_eq_true rfl) (Nat.le_of_ble_eq_true rfl) dX9_copyFrom_20 ?_
  refine zr_aload_n 1 dX9_copyFrom_23 rfl ?_
  replace hf := zb1_s hf
  obtain ⟨v11, h12, hf⟩ := hf
  refine zr_get (zm_gR_g h12) zk9 (by decide) zl_115 dX9_copyFrom_24 ?_
  refine zr_iconst 0 dX9_copyFrom_27 (by decide) ?_
  refine zr_aload_n 0 dX9_copyFrom_28 rfl ?_
  replace hf := zb1_s hf
  obtain ⟨v13, h14, hf⟩ := hf
  refine zr_get (zm_gR_g h14) zk9 (by decide) zl_115 dX9_copyFrom_29 ?_
  refine zr_iconst 0 dX9_copyFrom_32 (by decide) ?_
  refine zr_bipush 8 dX9_copyFrom_33 (by decide) ?_
  replace hf := zb1_s hf
  obtain ⟨m15, h16, hf⟩ := hf
  refine zr_cpy h16 (by decide) zl_437 zl_99 zl_100 zl_101 (Nat.le_of_ble_eq_true rfl) (Nat.le_of_ble_eq_true rfl) dX9_copyFrom_35 ?_
  refine zr_aload_n 1 dX9_copyFrom_38 rfl ?_
  replace hf := zb1_s hf
  obtain ⟨v17, h18, hf⟩ := hf
  refine zr_get (zm_gR_g h18) zk9 (by decide) zl_228 dX9_copyFrom_39 ?_
  refine zr_iconst 0 dX9_copyFrom_42 (by decide) ?_
  refine zr_aload_n 0 dX9_copyFrom_43 rfl ?_
  replace hf := zb1_s hf
  obtain ⟨v19, h20, hf⟩ := hf
  refine zr_get (zm_gR_g h20) zk9 (by decide) zl_228 dX9_copyFrom_44 ?_
  refine zr_iconst 0 dX9_copyFrom_47 (by decide) ?_
  refine zr_bipush 8 dX9_copyFrom_48 (by decide) ?_
  replace hf := zb1_s hf
  obtain ⟨m21, h22, hf⟩ := hf
  refine zr_cpy h22 (by decide) zl_437 zl_99 zl_100 zl_101 (Nat.le_of_ble_eq_true rfl) (Nat.le_of_ble_eq_true rfl) dX9_copyFrom_50 ?_
  refine zr_aload_n 0 dX9_copyFrom_53 rfl ?_
  refine zr_aload_n 1 dX9_copyFrom_54 rfl ?_
  replace hf := zb1_s hf
  obtain ⟨v23, h24, hf⟩ := hf
  refine zr_get (zm_gI_g h24) zk9 (by decide) zl_103 dX9_copyFrom_55 ?_
  replace hf := zb1_s hf
  obtain ⟨m25, h26, hf⟩ := hf
  refine zr_put h26 zk9 (by decide) zl_103 rfl rfl rfl dX9_copyFrom_58 ?_
  refine zr_aload_n 1 dX9_copyFrom_61 rfl ?_
  replace hf := zb1_s hf
  obtain ⟨v27, h28, hf⟩ := hf
  refine zr_get (zm_gR_g h28) zk9 (by decide) zl_229 dX9_copyFrom_62 ?_
  refine zr_iconst 0 dX9_copyFrom_65 (by decide) ?_
  refine zr_aload_n 0 dX9_copyFrom_66 rfl ?_
  replace hf := zb1_s hf
  obtain ⟨v29, h30, hf⟩ := hf
  refine zr_get (zm_gR_g h30) zk9 (by decide) zl_229 dX9_copyFrom_67 ?_
  refine zr_iconst 0 dX9_copyFrom_70 (by decide) ?_
  refine zr_bipush 6 dX9_copyFrom_71 (by decide) ?_
  replace hf := zb1_s hf
  obtain ⟨m31, h32, hf⟩ := hf
  refine zr_cpy h32 (by decide) zl_437 zl_99 zl_100 zl_101 (Nat.le_of_ble_eq_true rfl) (Nat.le_of_ble_eq_true rfl) dX9_copyFrom_73 ?_
  refine zr_aload_n 1 dX9_copyFrom_76 rfl ?_
  replace hf := zb1_s hf
  obtain ⟨v33, h34, hf⟩ := hf
  refine zr_get (zm_gR_g h34) zk9 (by decide) zl_230 dX9_copyFrom_77 ?_
  refine zr_iconst 0 dX9_copyFrom_80 (by decide) ?_
  refine zr_aload_n 0 dX9_copyFrom_81 rfl ?_
  replace hf := zb1_s hf
  obtain ⟨v35, h36, hf⟩ := hf
  refine zr_get (zm_gR_g h36) zk9 (by decide) zl_230 dX9_copyFrom_82 ?_
  refine zr_iconst 0 dX9_copyFrom_85 (by decide) ?_
  refine zr_bipush 6 dX9_copyFrom_86 (by decide) ?_
  replace hf := zb1_s hf
  obtain ⟨m37, h38, hf⟩ := hf
  refine zr_cpy h38 (by decide) zl_437 zl_99 zl_100 zl_101 (Nat.le_of_ble_eq_true rfl) (Nat.le_of_ble_eq_true rfl) dX9_copyFrom_88 ?_
  refine zr_aload_n 1 dX9_copyFrom_91 rfl ?_
  replace hf := zb1_s hf
  obtain ⟨v39, h40, hf⟩ := hf
  refine zr_get (zm_gR_g h40) zk9 (by decide) zl_231 dX9_copyFrom_92 ?_
  refine zr_iconst 0 dX9_copyFrom_95 (by decide) ?_
  refine zr_aload_n 0 dX9_copyFrom_96 rfl ?_
  replace hf := zb1_s hf
  obtain ⟨v41, h42, hf⟩ := hf
  refine zr_get (zm_gR_g h42) zk9 (by decide) zl_231 dX9_copyFrom_97 ?_
  refine zr_iconst 0 dX9_copyFrom_100 (by decide) ?_
  refine zr_bipush 6 dX9_copyFrom_101 (by decide) ?_
  replace hf := zb1_s hf
  obtain ⟨m43, h44, hf⟩ := hf
  refine zr_cpy h44 (by decide) zl_437 zl_99 zl_100 zl_101 (Nat.le_of_ble_eq_true rfl) (Nat.le_of_ble_eq_true rfl) dX9_copyFrom_103 ?_
  refine zr_aload_n 0 dX9_copyFrom_106 rfl ?_
  refine zr_aload_n 1 dX9_copyFrom_107 rfl ?_
  replace hf := zb1_s hf
  obtain ⟨v45, h46, hf⟩ := hf
  refine zr_get (zm_gI_g h46) zk9 (by decide) zl_276 dX9_copyFrom_108 ?_
  replace hf := zb1_s hf
  obtain ⟨m47, h48, hf⟩ := hf
  refine zr_put h48 zk9 (by decide) zl_276 rfl rfl rfl dX9_copyFrom_111 ?_
  refine zr_aload_n 1 dX9_copyFrom_114 rfl ?_
  replace hf := zb1_s hf
  obtain ⟨v49, h50, hf⟩ := hf
  refine zr_get (zm_gR_g h50) zk9 (by decide) zl_232 dX9_copyFrom_115 ?_
  refine zr_iconst 0 dX9_copyFrom_118 (by decide) ?_
  refine zr_aload_n 0 dX9_copyFrom_119 rfl ?_
  replace hf := zb1_s hf
  obtain ⟨v51, h52, hf⟩ := hf
  refine zr_get (zm_gR_g h52) zk9 (by decide) zl_232 dX9_copyFrom_120 ?_
  refine zr_iconst 0 dX9_copyFrom_123 (by decide) ?_
  refine zr_iconst 4 dX9_copyFrom_124 (by decide) ?_
  replace hf := zb1_s hf
  obtain ⟨m53, h54, hf⟩ := hf
  refine zr_cpy h54 (by decide) zl_437 zl_99 zl_100 zl_101 (Nat.le_of_ble_eq_true rfl) (Nat.le_of_ble_eq_true rfl) dX9_copyFrom_125 ?_
  refine zr_aload_n 1 dX9_copyFrom_128 rfl ?_
  replace hf := zb1_s hf
  obtain ⟨v55, h56, hf⟩ := hf
  refine zr_get (zm_gR_g h56) zk9 (by decide) zl_233 dX9_copyFrom_129 ?_
  refine zr_iconst 0 dX9_copyFrom_132 (by decide) ?_
  refine zr_aload_n 0 dX9_copyFrom_133 rfl ?_
  replace hf := zb1_s hf
  obtain ⟨v57, h58, hf⟩ := hf
  refine zr_get (zm_gR_g h58) zk9 (by decide) zl_233 dX9_copyFrom_134 ?_
  refine zr_iconst 0 dX9_copyFrom_137 (by decide) ?_
  refine zr_iconst 4 dX9_copyFrom_138 (by decide) ?_
  replace hf := zb1_s hf
  obtain ⟨m59, h60, hf⟩ := hf
  refine zr_cpy h60 (by decide) zl_437 zl_99 zl_100 zl_101 (Nat.le_of_ble_eq_true rfl) (Nat.le_of_ble_eq_true rfl) dX9_copyFrom_139 ?_
  refine zr_aload_n 1 dX9_copyFrom_142 rfl ?_
  replace hf := zb1_s hf
  obtain ⟨v61, h62, hf⟩ := hf
  refine zr_get (zm_gR_g h62) zk9 (by decide) zl_234 dX9_copyFrom_143 ?_
  refine zr_iconst 0 dX9_copyFrom_146 (by decide) ?_
  refine zr_aload_n 0 dX9_copyFrom_147 rfl ?_
  replace hf := zb1_s hf
  obtain ⟨v63, h64, hf⟩ := hf
  refine zr_get (zm_gR_g h64) zk9 (by decide) zl_234 dX9_copyFrom_148 ?_
  refine zr_iconst 0 dX9_copyFrom_151 (by decide) ?_
  refine zr_iconst 4 dX9_copyFrom_152 (by decide) ?_
  replace hf := zb1_s hf
  obtain ⟨m65, h66, hf⟩ := hf
  refine zr_cpy h66 (by decide) zl_437 zl_99 zl_100 zl_101 (Nat.le_of_ble_eq_true rfl) (Nat.le_of_ble_eq_true rfl) dX9_copyFrom_153 ?_
  refine zr_aload_n 1 dX9_copyFrom_156 rfl ?_
  replace hf := zb1_s hf
  obtain ⟨v67, h68, hf⟩ := hf
  refine zr_get (zm_gR_g h68) zk9 (by decide) zl_7 dX9_copyFrom_157 ?_
  refine zr_iconst 0 dX9_copyFrom_160 (by decide) ?_
  refine zr_aload_n 0 dX9_copyFrom_161 rfl ?_
  replace hf := zb1_s hf
  obtain ⟨v69, h70, hf⟩ := hf
  refine zr_get (zm_gR_g h70) zk9 (by decide) zl_7 dX9_copyFrom_162 ?_
  refine zr_iconst 0 dX9_copyFrom_165 (by decide) ?_
  refine zr_bipush 100 dX9_copyFrom_166 (by decide) ?_
  replace hf := zb1_s hf
  obtain ⟨m71, h72, hf⟩ := hf
  refine zr_cpy h72 (by decide) zl_437 zl_99 zl_100 zl_101 (Nat.le_of_ble_eq_true rfl) (Nat.le_of_ble_eq_true rfl) dX9_copyFrom_168 ?_
  cases hf
  exact zr_vret dX9_copyFrom_171
theorem zl_438 : Cond.methodLink RX7 88 Lib.Math.max.name ∈ zt := zt_at 754 (by decide +kernel)
theorem zl_439 : Cond.fieldLink RX7 57 "TwoEchoes$Reader" "valley" "LTwoEchoes$Valley;" ∈ zt := zt_at 368 (by decide +kernel)
theorem zl_440 : Cond.code yX9_copyFrom cX9_copyFrom 2 (none) ∈ zt := zt_at 735 (by decide +kernel)
theorem zvs_X9_copyFrom : zvS yX9_copyFrom cX9_copyFrom 2 (none) 1 := ⟨zl_440, zl_14, ⟨by decide +kernel, by decide +kernel, by decide +kernel⟩, by decide⟩
theorem zl_441 : Cond.methodLink RX7 63 yX9_copyFrom ∈ zt := zt_at 732 (by decide +kernel)
theorem zl_442 : Cond.instanceMethod yX9_copyFrom ∈ zt := zt_at 733 (by decide +kernel)
theorem zl_443 : Cond.selects RX9 yX9_copyFrom yX9_copyFrom ∈ zt := zt_at 734 (by decide +kernel)
theorem zl_444 : Cond.fieldLink RX7 67 "TwoEchoes$Reader" "day" "LTwoEchoes$Day;" ∈ zt := zt_at 370 (by decide +kernel)
theorem zl_445 : Cond.code yX2_copyFrom cX2_copyFrom 2 (none) ∈ zt := zt_at 742 (by decide +kernel)
theorem zvs_X2_copyFrom : zvS yX2_copyFrom cX2_copyFrom 2 (none) 1 := ⟨zl_445, zl_249, ⟨by decide +kernel, by decide +kernel, by decide +kernel⟩, by decide⟩
theorem zl_446 : Cond.methodLink RX7 71 yX2_copyFrom ∈ zt := zt_at 739 (by decide +kernel)
theorem zl_447 : Cond.instanceMethod yX2_copyFrom ∈ zt := zt_at 740 (by decide +kernel)
theorem zl_448 : Cond.selects RX2 yX2_copyFrom yX2_copyFrom ∈ zt := zt_at 741 (by decide +kernel)
theorem zl_449 : Cond.fieldLink RX7 74 "TwoEchoes$Reader" "lesson" "LTwoEchoes$Lesson;" ∈ zt := zt_at 372 (by decide +kernel)
theorem zl_450 : Cond.code yX3_copyFrom cX3_copyFrom 2 (none) ∈ zt := zt_at 747 (by decide +kernel)
theorem zvs_X3_copyFrom : zvS yX3_copyFrom cX3_copyFrom 2 (none) 1 := ⟨zl_450, zl_207, ⟨by decide +kernel, by decide +kernel, by decide +kernel⟩, by decide⟩
theorem zl_451 : Cond.methodLink RX7 78 yX3_copyFrom ∈ zt := zt_at 744 (by decide +kernel)
theorem zl_452 : Cond.instanceMethod yX3_copyFrom ∈ zt := zt_at 745 (by decide +kernel)
theorem zl_453 : Cond.selects RX3 yX3_copyFrom yX3_copyFrom ∈ zt := zt_at 746 (by decide +kernel)
theorem zl_454 : Cond.fieldLink RX7 81 "TwoEchoes$Reader" "sight" "LTwoEchoes$Sight;" ∈ zt := zt_at 374 (by decide +kernel)
theorem zl_455 : Cond.code yX6_copyFrom cX6_copyFrom 2 (none) ∈ zt := zt_at 752 (by decide +kernel)
theorem zvs_X6_copyFrom : zvS yX6_copyFrom cX6_copyFrom 2 (none) 1 := ⟨zl_455, zl_262, ⟨by decide +kernel, by decide +kernel, by decide +kernel⟩, by decide⟩
theorem zl_456 : Cond.methodLink RX7 85 yX6_copyFrom ∈ zt := zt_at 749 (by decide +kernel)
theorem zl_457 : Cond.instanceMethod yX6_copyFrom ∈ zt := zt_at 750 (by decide +kernel)
theorem zl_458 : Cond.selects RX6 yX6_copyFrom yX6_copyFrom ∈ zt := zt_at 751 (by decide +kernel)
theorem dX7_keep_0 : decode cX7_keep 0 = .ok (.iload_n 1, 1) := by decide +kernel
theorem dX7_keep_1 : decode cX7_keep 1 = .ok (.tableswitch 75 0 2 #[27, 43, 59], 27) := by decide +kernel
theorem dX7_keep_28 : decode cX7_keep 28 = .ok (.aload_n 0, 1) := by decide +kernel
theorem dX7_keep_29 : decode cX7_keep 29 = .ok (.getfield 32, 3) := by decide +kernel
theorem dX7_keep_32 : decode cX7_keep 32 = .ok (.iload_n 2, 1) := by decide +kernel
theorem dX7_keep_33 : decode cX7_keep 33 = .ok (.aaload, 1) := by decide +kernel
theorem dX7_keep_34 : decode cX7_keep 34 = .ok (.aload_n 3, 1) := by decide +kernel
theorem dX7_keep_35 : decode cX7_keep 35 = .ok (.getfield 57, 3) := by decide +kernel
theorem dX7_keep_38 : decode cX7_keep 38 = .ok (.invokevirtual 63, 3) := by decide +kernel
theorem dX7_keep_41 : decode cX7_keep 41 = .ok (.goto 48, 3) := by decide +kernel
theorem dX7_keep_44 : decode cX7_keep 44 = .ok (.aload_n 0, 1) := by decide +kernel
theorem dX7_keep_45 : decode cX7_keep 45 = .ok (.getfield 39, 3) := by decide +kernel
theorem dX7_keep_48 : decode cX7_keep 48 = .ok (.iload_n 2, 1) := by decide +kernel
theorem dX7_keep_49 : decode cX7_keep 49 = .ok (.aaload, 1) := by decide +kernel
theorem dX7_keep_50 : decode cX7_keep 50 = .ok (.aload_n 3, 1) := by decide +kernel
theorem dX7_keep_51 : decode cX7_keep 51 = .ok (.getfield 67, 3) := by decide +kernel
theorem dX7_keep_54 : decode cX7_keep 54 = .ok (.invokevirtual 71, 3) := by decide +kernel
theorem dX7_keep_57 : decode cX7_keep 57 = .ok (.goto 32, 3) := by decide +kernel
theorem dX7_keep_60 : decode cX7_keep 60 = .ok (.aload_n 0, 1) := by decide +kernel
theorem dX7_keep_61 : decode cX7_keep 61 = .ok (.getfield 46, 3) := by decide +kernel
theorem dX7_keep_64 : decode cX7_keep 64 = .ok (.iload_n 2, 1) := by decide +kernel
theorem dX7_keep_65 : decode cX7_keep 65 = .ok (.aaload, 1) := by decide +kernel
theorem dX7_keep_66 : decode cX7_keep 66 = .ok (.aload_n 3, 1) := by decide +kernel
theorem dX7_keep_67 : decode cX7_keep 67 = .ok (.getfield 74, 3) := by decide +kernel
theorem dX7_keep_70 : decode cX7_keep 70 = .ok (.invokevirtual 78, 3) := by decide +kernel
theorem dX7_keep_73 : decode cX7_keep 73 = .ok (.goto 16, 3) := by decide +kernel
theorem dX7_keep_76 : decode cX7_keep 76 = .ok (.aload_n 0, 1) := by decide +kernel
theorem dX7_keep_77 : decode cX7_keep 77 = .ok (.getfield 53, 3) := by decide +kernel
theorem dX7_keep_80 : decode cX7_keep 80 = .ok (.iload_n 2, 1) := by decide +kernel
theorem dX7_keep_81 : decode cX7_keep 81 = .ok (.aaload, 1) := by decide +kernel
theorem dX7_keep_82 : decode cX7_keep 82 = .ok (.aload_n 3, 1) := by decide +kernel
theorem dX7_keep_83 : decode cX7_keep 83 = .ok (.getfield 81, 3) := by decide +kernel
theorem dX7_keep_86 : decode cX7_keep 86 = .ok (.invokevirtual 85, 3) := by decide +kernel
theorem dX7_keep_89 : decode cX7_keep 89 = .ok (.aload_n 0, 1) := by decide +kernel
theorem dX7_keep_90 : decode cX7_keep 90 = .ok (.getfield 25, 3) := by decide +kernel
theorem dX7_keep_93 : decode cX7_keep 93 = .ok (.iload_n 1, 1) := by decide +kernel
theorem dX7_keep_94 : decode cX7_keep 94 = .ok (.aload_n 0, 1) := by decide +kernel
theorem dX7_keep_95 : decode cX7_keep 95 = .ok (.getfield 25, 3) := by decide +kernel
theorem dX7_keep_98 : decode cX7_keep 98 = .ok (.iload_n 1, 1) := by decide +kernel
theorem dX7_keep_99 : decode cX7_keep 99 = .ok (.iaload, 1) := by decide +kernel
theorem dX7_keep_100 : decode cX7_keep 100 = .ok (.iload_n 2, 1) := by decide +kernel
theorem dX7_keep_101 : decode cX7_keep 101 = .ok (.iconst 1, 1) := by decide +kernel
theorem dX7_keep_102 : decode cX7_keep 102 = .ok (.iadd, 1) := by decide +kernel
theorem dX7_keep_103 : decode cX7_keep 103 = .ok (.invokestatic 88, 3) := by decide +kernel
theorem dX7_keep_106 : decode cX7_keep 106 = .ok (.iastore, 1) := by decide +kernel
theorem dX7_keep_107 : decode cX7_keep 107 = .ok (.return_, 1) := by decide +kernel
def fX7_keep (μ : zM) (x0 : Nat) (x1 : Int32) (x2 : Int32) (x3 : Nat) : Option (zM) := zgd (zm_ck μ 7 x0) <|
  zb1 (if x1 = 0 then (
  zb1 (zm_gR μ 7 x0 5) fun v11 =>
  zb1 (zm_aQ μ 4 v11 x2) fun v13 =>
  zb1 (zm_gR μ 4 x3 0) fun v15 =>
  zb1 v13 fun a17 =>
  zb1 (fX9_copyFrom μ a17 v15) fun m20 =>
  some m20)
  else (
  if x1 = 1 then (
  zb1 (zm_gR μ 7 x0 6) fun v22 =>
  zb1 (zm_aQ μ 5 v22 x2) fun v24 =>
  zb1 (zm_gR μ 4 x3 1) fun v26 =>
  zb1 v24 fun a28 =>
  zb1 (fX2_copyFrom μ a28 v26) fun m31 =>
  some m31)
  else (
  if x1 = 2 then (
  zb1 (zm_gR μ 7 x0 7) fun v33 =>
  zb1 (zm_aQ μ 6 v33 x2) fun v35 =>
  zb1 (zm_gR μ 4 x3 2) fun v37 =>
  zb1 v35 fun a39 =>
  zb1 (fX3_copyFrom μ a39 v37) fun m42 =>
  some m42)
  else (
  zb1 (zm_gR μ 7 x0 8) fun v44 =>
  zb1 (zm_aQ μ 7 v44 x2) fun v46 =>
  zb1 (zm_gR μ 4 x3 3) fun v48 =>
  zb1 v46 fun a50 =>
  zb1 (fX6_copyFrom μ a50 v48) fun m53 =>
  some m53)))) fun m1 =>
  zb1 (zm_gR m1 7 x0 4) fun v3 =>
  zb1 (zm_gR m1 7 x0 4) fun v5 =>
  zb1 (zm_aI m1 0 v5 x1) fun v7 =>
  zb1 (zm_sI m1 0 v3 x1 (if v7 < (x2 + 1) then (x2 + 1) else v7 : Int32)) fun m9 =>
  some m9
theorem fX7_keep_ck {μ : zM} {x0 : Nat} {x1 : Int32} {x2 : Int32} {x3 : Nat} {z : zM} (h : fX7_keep μ x0 x1 x2 x3 = some z) : zm_ck μ 7 x0 = true := (zgd_s h).1
set_option maxHeartbeats 4000000 in
set_option maxRecDepth 100000 in
theorem cX7_keep_ok {μ : zM} {x0 : Nat} {x1 : Int32} {x2 : Int32} {x3 : Nat} {mo : zM} (hf : fX7_keep μ x0 x1 x2 x3 = some mo) : zC yX7_keep cX7_keep 4 (none) 2 0 0 [.ref x0, .int x1, .int x2, .ref x3] μ (none) mo := by
  replace hf := (zgd_s hf).2
  refine zC.of (by decide) (Nat.le_of_ble_eq_true rfl) (fun K hin => ?_)
  clear hin
  show zz K cX7_keep (4, RX7, none, 2, 0, 0, none, mo) 0 0 0 [(0, .ref x0), (1, .int x1), (2, .int x2), (3, .ref x3)] [] μ
  refine zr_iload_n 1 dX7_keep_0 rfl ?_
  replace hf := zb1_s hf
  obtain ⟨m1, hg, hf⟩ := hf
  have hj2 : zz K cX7_keep (4, RX7, none, 2, 0, 0, none, mo) 0 0 89 [(0, .ref x0), (1, .int x1), (2, .int x2)] [] m1 := by
    refine zr_aload_n 0 dX7_keep_89 rfl ?_
    replace hf := zb1_s hf
    obtain ⟨v3, h4, hf⟩ := hf
    refine zr_get (zm_gR_g h4) zk7 (by decide) zl_424 dX7_keep_90 ?_
    refine zr_iload_n 1 dX7_keep_93 rfl ?_
    refine zr_aload_n 0 dX7_keep_94 rfl ?_
    replace hf := zb1_s hf
    obtain ⟨v5, h6, hf⟩ := hf
    refine zr_get (zm_gR_g h6) zk7 (by decide) zl_424 dX7_keep_95 ?_
    refine zr_iload_n 1 dX7_keep_98 rfl ?_
    replace hf := zb1_s hf
    obtain ⟨v7, h8, hf⟩ := hf
    refine zr_iald h8 dX7_keep_99 ?_
    refine zr_iload_n 2 dX7_keep_100 rfl ?_
    refine zr_iconst 1 dX7_keep_101 (by decide) ?_
    refine zr_iadd dX7_keep_102 ?_
    refine zr_mmax zl_438 zl_55 zl_11 zl_56 (Nat.le_of_ble_eq_true rfl) (Nat.le_of_ble_eq_true rfl) (Nat.le_of_ble_eq_true rfl) (Nat.le_of_ble_eq_true rfl) dX7_keep_103 ?_
    replace hf := zb1_s hf
    obtain ⟨m9, h10, hf⟩ := hf
    refine zr_iast h10 dX7_keep_106 ?_
    cases hf
    exact zr_vret dX7_keep_107
  clear hf
  have hf := hg
  clear hg
  rcases zdec (x1 = 0) with hs21 | hs21
  · rw [if_pos hs21] at hf
    refine zr_tableIn (off := 27) 28 dX7_keep_1 (by rw [hs21]; decide) (by rw [hs21]; decide) (by rw [hs21]; rfl) (by decide) ?_
    refine zr_aload_n 0 dX7_keep_28 rfl ?_
    replace hf := zb1_s hf
    obtain ⟨v11, h12, hf⟩ := hf
    refine zr_get (zm_gR_g h12) zk7 (by decide) zl_427 dX7_keep_29 ?_
    refine zr_iload_n 2 dX7_keep_32 rfl ?_
    replace hf := zb1_s hf
    obtain ⟨v13, h14, hf⟩ := hf
    refine zr_aald h14 (by decide) rfl dX7_keep_33 ?_
    refine zr_aload_n 3 dX7_keep_34 rfl ?_
    replace hf := zb1_s hf
    obtain ⟨v15, h16, hf⟩ := hf
    refine zr_get (zm_gR_g h16) zk4 (by decide) zl_439 dX7_keep_35 ?_
    replace hf := zb1_s hf
    obtain ⟨a17, h18, hf⟩ := hf
    subst h18
    replace hf := zb1_s hf
    obtain ⟨m20, h19, hf⟩ := hf
    refine zr_callV (ci := 9) [.ref v15] (cX9_copyFrom_ok h19) zvs_X9_copyFrom zl_442 zl_443 (fX9_copyFrom_ck h19) rfl rfl zl_441 rfl (Nat.le_of_ble_eq_true rfl) (Nat.le_of_ble_eq_true rfl) (Nat.le_of_ble_eq_true rfl) (Nat.le_of_ble_eq_true rfl) dX7_keep_38 rfl ?_
    refine zr_goto 89 dX7_keep_41 (by decide) ?_
    cases hf
    exact zr_lv [0, 1, 2] rfl hj2
  rw [if_neg hs21] at hf
  rcases zdec (x1 = 1) with hs32 | hs32
  · rw [if_pos hs32] at hf
    refine zr_tableIn (off := 43) 44 dX7_keep_1 (by rw [hs32]; decide) (by rw [hs32]; decide) (by rw [hs32]; rfl) (by decide) ?_
    refine zr_aload_n 0 dX7_keep_44 rfl ?_
    replace hf := zb1_s hf
    obtain ⟨v22, h23, hf⟩ := hf
    refine zr_get (zm_gR_g h23) zk7 (by decide) zl_430 dX7_keep_45 ?_
    refine zr_iload_n 2 dX7_keep_48 rfl ?_
    replace hf := zb1_s hf
    obtain ⟨v24, h25, hf⟩ := hf
    refine zr_aald h25 (by decide) rfl dX7_keep_49 ?_
    refine zr_aload_n 3 dX7_keep_50 rfl ?_
    replace hf := zb1_s hf
    obtain ⟨v26, h27, hf⟩ := hf
    refine zr_get (zm_gR_g h27) zk4 (by decide) zl_444 dX7_keep_51 ?_
    replace hf := zb1_s hf
    obtain ⟨a28, h29, hf⟩ := hf
    subst h29
    replace hf := zb1_s hf
    obtain ⟨m31, h30, hf⟩ := hf
    refine zr_callV (ci := 2) [.ref v26] (cX2_copyFrom_ok h30) zvs_X2_copyFrom zl_447 zl_448 (fX2_copyFrom_ck h30) rfl rfl zl_446 rfl (Nat.le_of_ble_eq_true rfl) (Nat.le_of_ble_eq_true rfl) (Nat.le_of_ble_eq_true rfl) (Nat.le_of_ble_eq_true rfl) dX7_keep_54 rfl ?_
    refine zr_goto 89 dX7_keep_57 (by decide) ?_
    cases hf
    exact zr_lv [0, 1, 2] rfl hj2
  rw [if_neg hs32] at hf
  rcases zdec (x1 = 2) with hs43 | hs43
  · rw [if_pos hs43] at hf
    refine zr_tableIn (off := 59) 60 dX7_keep_1 (by rw [hs43]; decide) (by rw [hs43]; decide) (by rw [hs43]; rfl) (by decide) ?_
    refine zr_aload_n 0 dX7_keep_60 rfl ?_
    replace hf := zb1_s hf
    obtain ⟨v33, h34, hf⟩ := hf
    refine zr_get (zm_gR_g h34) zk7 (by decide) zl_433 dX7_keep_61 ?_
    refine zr_iload_n 2 dX7_keep_64 rfl ?_
    replace hf := zb1_s hf
    obtain ⟨v35, h36, hf⟩ := hf
    refine zr_aald h36 (by decide) rfl dX7_keep_65 ?_
    refine zr_aload_n 3 dX7_keep_66 rfl ?_
    replace hf := zb1_s hf
    obtain ⟨v37, h38, hf⟩ := hf
    refine zr_get (zm_gR_g h38) zk4 (by decide) zl_449 dX7_keep_67 ?_
    replace hf := zb1_s hf
    obtain ⟨a39, h40, hf⟩ := hf
    subst h40
    replace hf := zb1_s hf
    obtain ⟨m42, h41, hf⟩ := hf
    refine zr_callV (ci := 3) [.ref v37] (cX3_copyFrom_ok h41) zvs_X3_copyFrom zl_452 zl_453 (fX3_copyFrom_ck h41) rfl rfl zl_451 rfl (Nat.le_of_ble_eq_true rfl) (Nat.le_of_ble_eq_true rfl) (Nat.le_of_ble_eq_true rfl) (Nat.le_of_ble_eq_true rfl) dX7_keep_70 rfl ?_
    refine zr_goto 89 dX7_keep_73 (by decide) ?_
    cases hf
    exact zr_lv [0, 1, 2] rfl hj2
  rw [if_neg hs43] at hf
  refine zr_tableOut 76 dX7_keep_1 (by simp only [← Int32.toInt_inj] at hs21 hs32 hs43; simp at hs21 hs32 hs43; omega) (by decide) ?_
  refine zr_aload_n 0 dX7_keep_76 rfl ?_
  replace hf := zb1_s hf
  obtain ⟨v44, h45, hf⟩ := hf
  refine zr_get (zm_gR_g h45) zk7 (by decide) zl_436 dX7_keep_77 ?_
  refine zr_iload_n 2 dX7_keep_80 rfl ?_
  replace hf := zb1_s hf
  obtain ⟨v46, h47, hf⟩ := hf
  refine zr_aald h47 (by decide) rfl dX7_keep_81 ?_
  refine zr_aload_n 3 dX7_keep_82 rfl ?_
  replace hf := zb1_s hf
  obtain ⟨v48, h49, hf⟩ := hf
  refine zr_get (zm_gR_g h49) zk4 (by decide) zl_454 dX7_keep_83 ?_
  replace hf := zb1_s hf
  obtain ⟨a50, h51, hf⟩ := hf
  subst h51
  replace hf := zb1_s hf
  obtain ⟨m53, h52, hf⟩ := hf
  refine zr_callV (ci := 6) [.ref v48] (cX6_copyFrom_ok h52) zvs_X6_copyFrom zl_457 zl_458 (fX6_copyFrom_ck h52) rfl rfl zl_456 rfl (Nat.le_of_ble_eq_true rfl) (Nat.le_of_ble_eq_true rfl) (Nat.le_of_ble_eq_true rfl) (Nat.le_of_ble_eq_true rfl) dX7_keep_86 rfl ?_
  cases hf
  exact zr_lv [0, 1, 2] rfl hj2
