/-! the calls: sky, trade, company -/
theorem T_weather {X : Nat} {ν : zM} {sh : Nat → Nat} {U : zCS} {M : zMS} (h : WSt X ν sh U M) (x1 x2 : Int32) : OKq X (mm X ν sh U M) (fX11_weather (mm X ν sh U M) X x1 x2) (fun μ => fX12_weather μ (X + 95) x1 x2) := by
  refine OKq_q (g := fun m => gX12_weather m x1 x2) h (fun ν' m => eX12_weather) ?_
  have hX := h.1.1
  have hck : zm_ck (mm X ν sh U M) 11 X = true := ck_X11 hX
  have hq : gX12_in x2 (-1) 99 = some (bJ (decide (x2 = NN) || inb 100 x2)) := by
    rw [R_in]
    refine congrArg (fun z => some (bJ z)) ?_
    obtain ⟨q, hq, rfl⟩ | hx := J_all x2
    · rw [inb_J (by omega) hq, decide_eq_false (show ¬ J q = NN by rw [J_eN hq]; exact fun z => z), Bool.false_or]
      refine decide_eq_decide.mpr ?_
      show (¬ J q < NN ∧ ¬ J 99 < J q) ↔ _
      rw [J_lN hq, J_lt (by omega) hq]
      exact ⟨fun z => by have := z.2; omega, fun z => ⟨fun y => y, by omega⟩⟩
    · rw [inb_n hx, Bool.or_false]
      refine decide_eq_decide.mpr ?_
      show (¬ x2 < NN ∧ ¬ J 99 < x2) ↔ _
      rw [Int32.lt_iff_toInt_lt, J_toInt (by omega)] at hx
      rw [Int32.lt_iff_toInt_lt, Int32.lt_iff_toInt_lt, NN_toInt, J_toInt (by omega), ← Int32.toInt_inj, NN_toInt]
      omega
  have hn0 : ¬ (1 : Int32) = 0 := by decide
  rcases V_at h x1 with ⟨n1, n2⟩ | ⟨a, v, v1, h9, hv, hV, l1, l2, hm⟩
  · cases g : (decide (x2 = NN) || inb 100 x2) with
    | false => exact ⟨-1, zsI M 0 0, by unfold fX11_weather; rw [hck, zgd_t, n1, wb1, wmn], by unfold gX12_weather; rw [wb1, hq, g, wb1, if_pos (show bJ false = 0 from rfl)], Msame_I⟩
    | true =>
      obtain ⟨M4, e1, e2⟩ := n2 (zsI M 0 (J 0)) Msame_I
      have e1 : gX12_hand (zsI M 0 0) x1 = some (0, M4) := e1
      exact ⟨-1, M4, by unfold fX11_weather; rw [hck, zgd_t, n1, wb1, wmn], by unfold gX12_weather; rw [wb1, hq, g, wb1, if_neg (show ¬ bJ true = 0 by decide), e1, wb2, if_pos rfl], e2⟩
  · obtain ⟨M4, e1, e2, e3, -⟩ := hm (zsI M 0 (J 0)) Msame_I
    have e1 : gX12_hand (zsI M 0 0) x1 = some (1, M4) := e1
    unfold mm at v1 hck ⊢
    by_cases c : x2 = NN
    · subst c
      exact ⟨J (cmx v 100), M4, by unfold fX11_weather; rw [hck, zgd_t, v1, wb1, wms, if_pos (show NN = -1 from rfl), eX9_longestClear h9, C_longestClear hv, wb1], by unfold gX12_weather; rw [wb1, hq, decide_eq_true (show NN = NN from rfl), Bool.true_or, wb1, if_neg (show ¬ bJ true = 0 by decide), e1, wb2, if_neg hn0, if_pos (show NN = -1 from rfl), show zf3 (gX12_weather_l68 M4) zfu 0 0 0 = some (J (cmx v 100)) from R_weather_l e2 hV, wb1], e3⟩
    · have c' : ¬ x2 = -1 := c
      cases g : inb 100 x2 with
      | false => exact ⟨-1, zsI M 0 0, by unfold fX11_weather; rw [hck, zgd_t, v1, wb1, wms, if_neg c', G_min, g, wb1, if_pos (show bJ false = 0 from rfl), wb1], by unfold gX12_weather; rw [wb1, hq, decide_eq_false c, g, Bool.false_or, wb1, if_pos (show bJ false = 0 from rfl)], Msame_I⟩
      | true =>
        obtain ⟨k, hk, rfl⟩ := inb_t (by omega) g
        have s0 : gX12_isSky M4 0 (J k) = some (bJ (skyB v 0 k)) := R_isSky e2 hV (s := 0) (by omega) hk
        have s1 : gX12_isSky M4 1 (J k) = some (bJ (skyB v 1 k)) := R_isSky e2 hV (s := 1) (by omega) hk
        refine ⟨J ((if skyB v 0 k then 1 else 0) + (if skyB v 1 k then 2 else 0)), M4, by unfold fX11_weather; rw [hck, zgd_t, v1, wb1, wms, if_neg c', G_min, g, wb1, if_neg (show ¬ bJ true = 0 by decide), cgr_X9_12 h9, wb1, ca_1100 (isX9_10 h9), zag_J hk (by omega), wb1, hv.2.2.2.2.2.2.2.2 k hk, wb1], ?_, e3⟩
        unfold gX12_weather
        rw [wb1, hq, decide_eq_false c, g, Bool.false_or, wb1, if_neg (show ¬ bJ true = 0 by decide), e1, wb2, if_neg hn0, if_neg c', s0, wb1]
        cases skyB v 0 k <;> rw [s1] <;> cases skyB v 1 k <;> rfl
theorem T_unsure {X : Nat} {ν : zM} {sh : Nat → Nat} {U : zCS} {M : zMS} (h : WSt X ν sh U M) (x1 x2 x3 : Int32) (hx3 : x3 = 0 ∨ x3 = 1) : OKq X (mm X ν sh U M) (fX11_unsure (mm X ν sh U M) X x1 x2 x3) (fun μ => fX12_unsure μ (X + 95) x1 x2 x3) := by
  refine OKq_q (g := fun m => gX12_unsure m x1 x2 x3) h (fun ν' m => eX12_unsure) ?_
  have hX := h.1.1
  have hck : zm_ck (mm X ν sh U M) 11 X = true := ck_X11 hX
  have hn0 : ¬ (1 : Int32) = 0 := by decide
  have hq : gX12_in x2 0 6 = some (bJ (inb 7 x2)) := R_inX (n := 6) (by omega) x2
  have hcl : ∀ K : Option Int64, inb 7 x2 = false → (if x2 < 0 then some (-1) else if x2 ≤ 6 then K else some (-1)) = some (-1) := by
    intro K g
    obtain ⟨q, hql, rfl⟩ | hx := J_all x2
    · rw [inb_J (by omega) hql] at g
      have := of_decide_eq_false g
      rw [if_neg (show ¬ J q < 0 by rw [show (0 : Int32) = J 0 from rfl, J_lt hql (by omega)]; omega), if_neg (show ¬ J q ≤ 6 by rw [show (6 : Int32) = J 6 from rfl, J_le hql (by omega)]; omega)]
    · rw [if_pos (show x2 < 0 from hx)]
  rcases V_at h x1 with ⟨n1, n2⟩ | ⟨a, v, v1, h9, hv, hV, l1, l2, hm⟩
  · cases g : inb 7 x2 with
    | false => exact ⟨-1, zsI M 0 0, by unfold fX11_unsure; rw [hck, zgd_t, n1, wb1, wmn], by unfold gX12_unsure; rw [wb1, hq, g, wb1, if_pos (show bJ false = 0 from rfl)], Msame_I⟩
    | true =>
      obtain ⟨M4, e1, e2⟩ := n2 (zsI M 0 (J 0)) Msame_I
      have e1 : gX12_hand (zsI M 0 0) x1 = some (0, M4) := e1
      exact ⟨-1, M4, by unfold fX11_unsure; rw [hck, zgd_t, n1, wb1, wmn], by unfold gX12_unsure; rw [wb1, hq, g, wb1, if_neg (show ¬ bJ true = 0 by decide), e1, wb2, if_pos rfl], e2⟩
  · obtain ⟨M4, e1, e2, e3, -⟩ := hm (zsI M 0 (J 0)) Msame_I
    have e1 : gX12_hand (zsI M 0 0) x1 = some (1, M4) := e1
    unfold mm at v1 hck ⊢
    cases g : inb 7 x2 with
    | false => exact ⟨-1, zsI M 0 0, by unfold fX11_unsure; rw [hck, zgd_t, v1, wb1, wms, hcl _ g], by unfold gX12_unsure; rw [wb1, hq, g, wb1, if_pos (show bJ false = 0 from rfl)], Msame_I⟩
    | true =>
      obtain ⟨n, hn, rfl⟩ := inb_t (by omega) g
      have w1 := wal_le (v := v) 8
      have w2 := wsl_le (v := v) 8
      have hu : zf3 (gX12_unsure_l36 M4) zfu 0 0 0 = some (J (wsl v 8), J (wal v 8)) := R_unsure_s e2
      have hc1 : ¬ J n < 0 := by rw [show (0 : Int32) = J 0 from rfl, J_lt (by omega) (by omega)]; omega
      have hc2 : J n ≤ 6 := by rw [show (6 : Int32) = J 6 from rfl, J_le (by omega) (by omega)]; omega
      by_cases cz : wal v 8 = 0
      · exact ⟨-1, M4, by unfold fX11_unsure; rw [hck, zgd_t, v1, wb1, wms, if_neg hc1, if_pos hc2, eX10_weightOfAll h9, C_weightOfAll hv, wb1, eX10_weightOfSelfSame h9, C_weightOfSelfSame hv, wb1, eX10_commonDivisor, C_commonDivisor w2 (by omega), wb1, if_pos ((Jl_cmp (by omega)).mpr cz)], by unfold gX12_unsure; rw [wb1, hq, g, wb1, if_neg (show ¬ bJ true = 0 by decide), e1, wb2, if_neg hn0, hu, wb2, if_pos (show J (wal v 8) = 0 by rw [cz]; rfl)], e3⟩
      · have hg0 : 0 < Nat.gcd (wsl v 8) (wal v 8) := Nat.gcd_pos_of_pos_right _ (by omega)
        have hgl : Nat.gcd (wsl v 8) (wal v 8) ≤ wal v 8 := Nat.gcd_le_right _ (by omega)
        have hgn : ¬ Jl (Nat.gcd (wsl v 8) (wal v 8)) = 0 := fun z => by
          have := (Jl_eq (a := Nat.gcd (wsl v 8) (wal v 8)) (b := 0) (by omega) (by omega)).mp z
          omega
        have hR : ∀ t, t < 2 → x3 = J t → gX12_unsure M x1 (J n) x3 = some (Jl (pwr ((if t = 0 then wsl v 8 else wal v 8) / Nat.gcd (wsl v 8) (wal v 8)) n), M4) := by
          intro t ht hxt
          unfold gX12_unsure
          rw [wb1, hq, g, wb1, if_neg (show ¬ bJ true = 0 by decide), e1, wb2, if_neg hn0, hu, wb2, if_neg (show ¬ J (wal v 8) = 0 by rw [show (0 : Int32) = J 0 from rfl, J_eq (by omega) (by omega)]; exact cz), R_unsure_g w2 (by omega) (by omega), wb1, hxt, show zf2 (gX12_unsure_l135 (J n) (J t) (J (wsl v 8)) (J (wal v 8)) (J (Nat.gcd (wsl v 8) (wal v 8)))) zfu 1 0 = some _ from R_unsure_p (by omega) ht (by omega) (by omega) (by omega) hg0, wb1]
        have hC : ∀ y, (if x3 = 0 then some (Jl (wsl v 8)) else some (Jl (wal v 8)) : Option Int64) = some (Jl y) → y < 1000000 → fX11_unsure (cmem (mdl ν (X + 95) M) sh U) X x1 (J n) x3 = some (Jl (pwr (y / Nat.gcd (wsl v 8) (wal v 8)) n)) := by
          intro y hy hyl
          unfold fX11_unsure
          rw [hck, zgd_t, v1, wb1, wms, if_neg hc1, if_pos hc2, eX10_weightOfAll h9, C_weightOfAll hv, wb1, eX10_weightOfSelfSame h9, C_weightOfSelfSame hv, wb1, eX10_commonDivisor, C_commonDivisor w2 (by omega), wb1, if_neg (fun z => cz ((Jl_cmp (by omega)).mp z)), if_neg (fun z => by have := (Jl_cmp (by omega)).mp z; omega), hy, wb1]
          unfold zni
          rw [if_neg hgn, Jl_div hyl (by omega), eX10_power, C_power (by omega), wb1]
        rcases hx3 with z | z
        · exact ⟨_, M4, hC (wsl v 8) (by rw [if_pos z]) (by omega), hR 0 (by omega) z, e3⟩
        · exact ⟨_, M4, hC (wal v 8) (by rw [if_neg (by rw [z]; decide)]) (by omega), hR 1 (by omega) z, e3⟩
theorem T_bargain {X : Nat} {ν : zM} {sh : Nat → Nat} {U : zCS} {M : zMS} (h : WSt X ν sh U M) (x1 x2 x3 x4 : Int32) (hx4 : x4 = 0 ∨ x4 = 1) : OKc X (fX11_bargain (mm X ν sh U M) X x1 x2 x3 x4) (fun μ => fX12_bargain μ (X + 95) x1 x2 x3 x4) := by
  refine OKc_q (g := fun m => gX12_bargain m x1 x2 x3 x4) h (fun ν' m => eX12_bargain) ?_
  have hX := h.1.1
  have hck : zm_ck (mm X ν sh U M) 11 X = true := ck_X11 hX
  rcases V_at h x1 with ⟨n1, n2⟩ | ⟨a, v, v1, h9, hv, hV, l1, l2, hm⟩
  · obtain ⟨M4, e1, e2⟩ := n2 (zsI M 0 (J 0)) Msame_I
    have e1 : gX12_hand (zsI M 0 0) x1 = some (0, M4) := e1
    exact ⟨-1, U, M4, by unfold fX11_bargain; rw [hck, zgd_t, n1, wb1, wmn], by unfold gX12_bargain; rw [wb1, e1, wb2, if_pos rfl], Ufr_r, e2⟩
  · obtain ⟨M4, e1, e2, e3, -⟩ := hm (zsI M 0 (J 0)) Msame_I
    have e1 : gX12_hand (zsI M 0 0) x1 = some (1, M4) := e1
    have hst : stOk (mdl ν (X + 95) M) sh := SHp_st h.1
    have hb0 : (v 0 : Nat) ≤ 30 := hV.2.1
    have hb1 : (v 1 : Nat) ≤ 6 := hV.2.2.1
    unfold mm at v1 hck ⊢
    cases g0 : kdB v 0 x2 with
    | false => exact ⟨-1, U, M4, by unfold fX11_bargain; rw [hck, zgd_t, v1, wb1, wms, show fX9_isOfKind (cmem (mdl ν (X + 95) M) sh U) a x2 0 = some (bJ (kdB v 0 x2)) from G_kind h9 hv hV (κ := 0) (by omega), g0, wb1, if_pos (show bJ false = 0 from rfl)], by unfold gX12_bargain; rw [wb1, e1, wb2, if_neg (show ¬ (1 : Int32) = 0 by decide), show gX12_isKind M4 x2 0 = some (bJ (kdB v 0 x2)) from Q_kind e2 hV (κ := 0) (by omega), g0, wb1, if_pos (show bJ false = 0 from rfl)], Ufr_r, e3⟩
    | true =>
      cases g1 : kdB v 1 x3 with
      | false => exact ⟨-1, U, M4, by unfold fX11_bargain; rw [hck, zgd_t, v1, wb1, wms, show fX9_isOfKind (cmem (mdl ν (X + 95) M) sh U) a x2 0 = some (bJ (kdB v 0 x2)) from G_kind h9 hv hV (κ := 0) (by omega), g0, wb1, if_neg (show ¬ bJ true = 0 by decide), show fX9_isOfKind (cmem (mdl ν (X + 95) M) sh U) a x3 1 = some (bJ (kdB v 1 x3)) from G_kind h9 hv hV (κ := 1) (by omega), g1, wb1, if_pos (show bJ false = 0 from rfl)], by unfold gX12_bargain; rw [wb1, e1, wb2, if_neg (show ¬ (1 : Int32) = 0 by decide), show gX12_isKind M4 x2 0 = some (bJ (kdB v 0 x2)) from Q_kind e2 hV (κ := 0) (by omega), g0, wb1, if_neg (show ¬ bJ true = 0 by decide), show gX12_isKind M4 x3 1 = some (bJ (kdB v 1 x3)) from Q_kind e2 hV (κ := 1) (by omega), g1, wb1, if_pos (show bJ false = 0 from rfl)], Ufr_r, e3⟩
      | true =>
        have gg0 := g0
        have gg1 := g1
        obtain ⟨p, hp, hxp, hkp⟩ := kdB_t g0
        obtain ⟨b, hb, hxb, hkb⟩ := kdB_t g1
        have hwp : zm_aI (cmem (mdl ν (X + 95) M) sh U) 0 (a + 6) x2 = some (J (v (39 + p))) := by rw [hxp, ca_1006 (isX9_6 h9), zag_J (by omega) (by omega), (hv.2.2.2.2.2.2.1 p hp).2.2]
        have hwb : zm_aI (cmem (mdl ν (X + 95) M) sh U) 0 (a + 6) x3 = some (J (v (39 + b))) := by rw [hxb, ca_1006 (isX9_6 h9), zag_J (by omega) (by omega), (hv.2.2.2.2.2.2.1 b hb).2.2]
        have hop : gX12_of M4 (39 + x2) = some (J (v (39 + p))) := by rw [hxp, show (39 + J p : Int32) = J (39 + p) from J_add 39 p, R_of e2 (by omega)]
        have hob : gX12_of M4 (39 + x3) = some (J (v (39 + b))) := by rw [hxb, show (39 + J b : Int32) = J (39 + b) from J_add 39 b, R_of e2 (by omega)]
        obtain ⟨m18, r1, r2, r3, r4, r5⟩ := R_bargain_l (ws := (v (39 + p) : Nat)) (wb := (v (39 + b) : Nat)) e2 (by omega) (by omega)
        have r6 := R_bargain_c r4 r5
        have r1 : zf2 (gX12_bargain_l56 (J (v (39 + p))) (J (v (39 + b)))) zfu 0 M4 = some m18 := r1
        have r6 : zf3 (gX12_bargain_l166 (J (v (39 + p))) m18 (J (v (39 + b)))) zfu 0 0 0 = _ := r6
        have hall : ∀ t, t < 2 → x4 = J t → ∃ v_1 U' M', fX11_bargain (cmem (mdl ν (X + 95) M) sh U) X x1 x2 x3 x4 = some (v_1, cmem (mdl ν (X + 95) M) sh U') ∧ gX12_bargain M x1 x2 x3 x4 = some (v_1, M') ∧ Ufr U U' (fun q => X + 55 ≤ q ∧ q ≤ X + 94) ∧ Msame M M' := by
          intro t ht hxt
          obtain ⟨U2, c1, c2⟩ := C_rests (U := U) (t := X + 88) (ws := (v (39 + p) : Nat)) (wb := (v (39 + b) : Nat)) ht
          refine ⟨J (rst (v (39 + p)) (v (39 + b)) t), U2, m18, ?_, ?_, Ufr_U c2 (fun q hq => ⟨by omega, by omega⟩), Msame_t e3 r3⟩
          · unfold fX11_bargain
            rw [hck, zgd_t, v1, wb1, wms, show fX9_isOfKind (cmem (mdl ν (X + 95) M) sh U) a x2 0 = some (bJ (kdB v 0 x2)) from G_kind h9 hv hV (κ := 0) (by omega), gg0, wb1, if_neg (show ¬ bJ true = 0 by decide), show fX9_isOfKind (cmem (mdl ν (X + 95) M) sh U) a x3 1 = some (bJ (kdB v 1 x3)) from G_kind h9 hv hV (κ := 1) (by omega), gg1, wb1, if_neg (show ¬ bJ true = 0 by decide), cgr_X11_5 hX, wb1, cgr_X9_7 h9, wb1, hwp, wb1, wb1, hwb, wb1, hxt, eX8_rests (isX11_88 hX), c1, zmap_some, zq2_k, wb2]
          · unfold gX12_bargain
            rw [wb1, e1, wb2, if_neg (show ¬ (1 : Int32) = 0 by decide), show gX12_isKind M4 x2 0 = some (bJ (kdB v 0 x2)) from Q_kind e2 hV (κ := 0) (by omega), gg0, wb1, if_neg (show ¬ bJ true = 0 by decide), show gX12_isKind M4 x3 1 = some (bJ (kdB v 1 x3)) from Q_kind e2 hV (κ := 1) (by omega), gg1, wb1, if_neg (show ¬ bJ true = 0 by decide), hop, wb1, hob, wb1, r1, wb1, r6, wb2, hxt]
            match t, ht with
            | 0, _ => rfl
            | 1, _ => rfl
        rcases hx4 with z | z
        · exact hall 0 (by omega) z
        · exact hall 1 (by omega) z
theorem T_spread {X : Nat} {ν : zM} {sh : Nat → Nat} {U : zCS} {M : zMS} (h : WSt X ν sh U M) (x1 x2 x3 x4 : Int32) : OKc X (fX11_spread (mm X ν sh U M) X x1 x2 x3 x4) (fun μ => fX12_spread μ (X + 95) x1 x2 x3 x4) := by
  refine OKc_q (g := fun m => gX12_spread m x1 x2 x3 x4) h (fun ν' m => eX12_spread) ?_
  have hX := h.1.1
  have hck : zm_ck (mm X ν sh U M) 11 X = true := ck_X11 hX
  rcases V_at h x1 with ⟨n1, n2⟩ | ⟨a, v, v1, h9, hv, hV, l1, l2, hm⟩
  · obtain ⟨M4, e1, e2⟩ := n2 (zsI M 0 (J 0)) Msame_I
    have e1 : gX12_hand (zsI M 0 0) x1 = some (0, M4) := e1
    exact ⟨-1, U, M4, by unfold fX11_spread; rw [hck, zgd_t, n1, wb1, wmn], by unfold gX12_spread; rw [wb1, e1, wb2, if_pos rfl], Ufr_r, e2⟩
  · obtain ⟨M4, e1, e2, e3, -⟩ := hm (zsI M 0 (J 0)) Msame_I
    have e1 : gX12_hand (zsI M 0 0) x1 = some (1, M4) := e1
    have hst : stOk (mdl ν (X + 95) M) sh := SHp_st h.1
    have hb0 : (v 0 : Nat) ≤ 30 := hV.2.1
    have hb1 : (v 1 : Nat) ≤ 6 := hV.2.2.1
    unfold mm at v1 hck ⊢
    cases g0 : inb (v 1) x2 with
    | false =>
      exact ⟨-1, U, M4, by unfold fX11_spread; rw [hck, zgd_t, v1, wb1, wms, G_person h9 hv, g0, wb1, if_pos (show bJ false = 0 from rfl)], by unfold gX12_spread; rw [wb1, e1, wb2, if_neg (show ¬ (1 : Int32) = 0 by decide), R_isPersonX e2 hV, g0, wb1, if_pos (show bJ false = 0 from rfl)], Ufr_r, e3⟩
    | true =>
      cases g1 : inb 3 x3 with
      | false =>
        exact ⟨-1, U, M4, by unfold fX11_spread; rw [hck, zgd_t, v1, wb1, wms, G_person h9 hv, g0, wb1, if_neg (show ¬ bJ true = 0 by decide), G_loud, g1, wb1, if_pos (show bJ false = 0 from rfl)], by unfold gX12_spread; rw [wb1, e1, wb2, if_neg (show ¬ (1 : Int32) = 0 by decide), R_isPersonX e2 hV, g0, wb1, if_neg (show ¬ bJ true = 0 by decide), Q_loud, g1, wb1, if_pos (show bJ false = 0 from rfl)], Ufr_r, e3⟩
      | true =>
        obtain ⟨k2, hk2, rfl⟩ := inb_t (by omega) g0
        obtain ⟨k3, hk3, rfl⟩ := inb_t (by omega) g1
        obtain ⟨U2, c1, c2, c3, c4⟩ := C_reach (U := U) (a := a) (c := X + 91) hv hV (fun j hj => by omega) (l := k3) (t := 0) (f := k2) hk3 (by omega) hk2
        obtain ⟨M11, r1, r2, r3, r4⟩ := R_findSoon hV e2 (l := k3) (t := 0) (f := k2) hk3 (by omega) hk2
        have r1 : gX12_findSoon M4 (J k2) (J k3) 0 = some M11 := r1
        have c1 : gX0_reach U (X + 91) a (J k2) (J k3) 0 = some U2 := c1
        have r5 : zf3 (gX12_spread_l48 M11) zfu 0 0 0 = _ := R_spread_l hV r2 r4 c4
        have hfr : Ufr U U2 (fun q => X + 55 ≤ q ∧ q ≤ X + 94) := Ufr_U c2 (fun q hq => ⟨by omega, by omega⟩)
        by_cases c : x4 = 0
        · exact ⟨J (rcd v k3 k2), U2, M11, by unfold fX11_spread; rw [hck, zgd_t, v1, wb1, wms, G_person h9 hv, g0, wb1, if_neg (show ¬ bJ true = 0 by decide), G_loud, g1, wb1, if_neg (show ¬ bJ true = 0 by decide), cgr_X11_6 hX, wb1, eX0_reach (isX11_91 hX) h9 hst, c1, zmap_some, wb1, if_pos c, cgr_X11_6 hX, wb1, eX0_howManyReached (isX11_91 hX), C_howMany hV c3 c4, wb1, wb1], by unfold gX12_spread; rw [wb1, e1, wb2, if_neg (show ¬ (1 : Int32) = 0 by decide), R_isPersonX e2 hV, g0, wb1, if_neg (show ¬ bJ true = 0 by decide), Q_loud, g1, wb1, if_neg (show ¬ bJ true = 0 by decide), r1, wb1, r5, wb2, if_pos c, wb1], hfr, Msame_t e3 r3⟩
        · exact ⟨J (lsr v k3 k2 (v 1)), U2, M11, by unfold fX11_spread; rw [hck, zgd_t, v1, wb1, wms, G_person h9 hv, g0, wb1, if_neg (show ¬ bJ true = 0 by decide), G_loud, g1, wb1, if_neg (show ¬ bJ true = 0 by decide), cgr_X11_6 hX, wb1, eX0_reach (isX11_91 hX) h9 hst, c1, zmap_some, wb1, if_neg c, cgr_X11_6 hX, wb1, eX0_lastReached (isX11_91 hX), C_lastReached hV c3 c4, wb1, wb1], by unfold gX12_spread; rw [wb1, e1, wb2, if_neg (show ¬ (1 : Int32) = 0 by decide), R_isPersonX e2 hV, g0, wb1, if_neg (show ¬ bJ true = 0 by decide), Q_loud, g1, wb1, if_neg (show ¬ bJ true = 0 by decide), r1, wb1, r5, wb2, if_neg c, wb1], hfr, Msame_t e3 r3⟩
theorem T_relayed {X : Nat} {ν : zM} {sh : Nat → Nat} {U : zCS} {M : zMS} (h : WSt X ν sh U M) (x1 x2 x3 x4 : Int32) : OKc X (fX11_relayed (mm X ν sh U M) X x1 x2 x3 x4) (fun μ => fX12_relayed μ (X + 95) x1 x2 x3 x4) := by
  refine OKc_q (g := fun m => gX12_relayed m x1 x2 x3 x4) h (fun ν' m => eX12_relayed) ?_
  have hX := h.1.1
  have hck : zm_ck (mm X ν sh U M) 11 X = true := ck_X11 hX
  rcases V_at h x1 with ⟨n1, n2⟩ | ⟨a, v, v1, h9, hv, hV, l1, l2, hm⟩
  · obtain ⟨M4, e1, e2⟩ := n2 (zsI M 0 (J 0)) Msame_I
    have e1 : gX12_hand (zsI M 0 0) x1 = some (0, M4) := e1
    exact ⟨-1, U, M4, by unfold fX11_relayed; rw [hck, zgd_t, n1, wb1, wmn], by unfold gX12_relayed; rw [wb1, e1, wb2, if_pos rfl], Ufr_r, e2⟩
  · obtain ⟨M4, e1, e2, e3, -⟩ := hm (zsI M 0 (J 0)) Msame_I
    have e1 : gX12_hand (zsI M 0 0) x1 = some (1, M4) := e1
    have hst : stOk (mdl ν (X + 95) M) sh := SHp_st h.1
    have hb0 : (v 0 : Nat) ≤ 30 := hV.2.1
    have hb1 : (v 1 : Nat) ≤ 6 := hV.2.2.1
    unfold mm at v1 hck ⊢
    cases g0 : inb (v 1) x2 with
    | false =>
      exact ⟨-1, U, M4, by unfold fX11_relayed; rw [hck, zgd_t, v1, wb1, wms, G_person h9 hv, g0, wb1, if_pos (show bJ false = 0 from rfl)], by unfold gX12_relayed; rw [wb1, e1, wb2, if_neg (show ¬ (1 : Int32) = 0 by decide), R_isPersonX e2 hV, g0, wb1, if_pos (show bJ false = 0 from rfl)], Ufr_r, e3⟩
    | true =>
      cases g1 : inb (v 1) x3 with
      | false =>
        exact ⟨-1, U, M4, by unfold fX11_relayed; rw [hck, zgd_t, v1, wb1, wms, G_person h9 hv, g0, wb1, if_neg (show ¬ bJ true = 0 by decide), G_person h9 hv, g1, wb1, if_pos (show bJ false = 0 from rfl)], by unfold gX12_relayed; rw [wb1, e1, wb2, if_neg (show ¬ (1 : Int32) = 0 by decide), R_isPersonX e2 hV, g0, wb1, if_neg (show ¬ bJ true = 0 by decide), R_isPersonX e2 hV, g1, wb1, if_pos (show bJ false = 0 from rfl)], Ufr_r, e3⟩
      | true =>
        cases g2 : inb 3 x4 with
        | false =>
          exact ⟨-1, U, M4, by unfold fX11_relayed; rw [hck, zgd_t, v1, wb1, wms, G_person h9 hv, g0, wb1, if_neg (show ¬ bJ true = 0 by decide), G_person h9 hv, g1, wb1, if_neg (show ¬ bJ true = 0 by decide), G_loud, g2, wb1, if_pos (show bJ false = 0 from rfl)], by unfold gX12_relayed; rw [wb1, e1, wb2, if_neg (show ¬ (1 : Int32) = 0 by decide), R_isPersonX e2 hV, g0, wb1, if_neg (show ¬ bJ true = 0 by decide), R_isPersonX e2 hV, g1, wb1, if_neg (show ¬ bJ true = 0 by decide), Q_loud, g2, wb1, if_pos (show bJ false = 0 from rfl)], Ufr_r, e3⟩
        | true =>
          obtain ⟨k2, hk2, rfl⟩ := inb_t (by omega) g0
          obtain ⟨k3, hk3, rfl⟩ := inb_t (by omega) g1
          obtain ⟨k4, hk4, rfl⟩ := inb_t (by omega) g2
          obtain ⟨U2, c1, c2, c3, c4⟩ := C_reach (U := U) (a := a) (c := X + 91) hv hV (fun j hj => by omega) (l := k4) (t := 1) (f := k2) hk4 (by omega) hk2
          obtain ⟨M13, r1, r2, r3, r4⟩ := R_findSoon hV e2 (l := k4) (t := 1) (f := k2) hk4 (by omega) hk2
          have r1 : gX12_findSoon M4 (J k2) (J k4) 1 = some M13 := r1
          have c1 : gX0_reach U (X + 91) a (J k2) (J k4) 1 = some U2 := c1
          have hz : zag 6 (M13.2.2 50) (J k3) = some (J (sn v k4 1 k2 k3)) := by rw [zag_J (by omega) (by omega), r4 k3 hk3]
          have hfr : Ufr U U2 (fun q => X + 55 ≤ q ∧ q ≤ X + 94) := Ufr_U c2 (fun q hq => ⟨by omega, by omega⟩)
          have hsn := c4 k3 hk3
          refine ⟨rJ (sn v k4 1 k2 k3), U2, M13, ?_, ?_, hfr, Msame_t e3 r3⟩
          · unfold fX11_relayed
            rw [hck, zgd_t, v1, wb1, wms, G_person h9 hv, g0, wb1, if_neg (show ¬ bJ true = 0 by decide), G_person h9 hv, g1, wb1, if_neg (show ¬ bJ true = 0 by decide), G_loud, g2, wb1, if_neg (show ¬ bJ true = 0 by decide), cgr_X11_6 hX, wb1, eX0_reach (isX11_91 hX) h9 hst, c1, zmap_some, wb1, cgr_X11_6 hX, wb1, cgr_X0_0 (isX11_91 hX), wb1, ca_1006 (isX0_1 (isX11_91 hX)), zag_J (by omega) (by omega), wb1, c3 k3 (by omega), if_pos hk3]
          · unfold gX12_relayed rJ
            rw [wb1, e1, wb2, if_neg (show ¬ (1 : Int32) = 0 by decide), R_isPersonX e2 hV, g0, wb1, if_neg (show ¬ bJ true = 0 by decide), R_isPersonX e2 hV, g1, wb1, if_neg (show ¬ bJ true = 0 by decide), Q_loud, g2, wb1, if_neg (show ¬ bJ true = 0 by decide), r1, wb1, hz, wb1]
            rcases hsn with z | z
            · rw [if_neg (show ¬ J (sn v k4 1 k2 k3) < 1000000 by rw [z]; decide), wb1, if_pos z]; rfl
            · rw [if_pos (show J (sn v k4 1 k2 k3) < 1000000 by rw [show (1000000 : Int32) = J 1000000 from rfl, J_lt (by omega) (by omega)]; omega), wb1, wb1, if_neg (show ¬ sn v k4 1 k2 k3 = FAR by unfold FAR; omega)]
