/-! the calls: people, words, trade, sky -/
theorem inb_ne {n k : Nat} {x : Int32} (h : inb n x = false) (hk : k < n) (hn : n < 1000) : ¬ x = J k := by
  intro z
  rw [z, inb_J (by omega) (by omega)] at h
  exact of_decide_eq_false h hk
theorem G_set {x E : Int32} {n : Nat} {R : Type} {K : Option R} {e : R} (hn : n < 1000) (h : inb n x = false) : (if x < 0 then some e else if x < J n then K else some e) = some e := by
  obtain ⟨q, hq, rfl⟩ | hx := J_all x
  · rw [inb_J (by omega) hq] at h
    have := of_decide_eq_false h
    rw [if_neg (show ¬ J q < 0 by rw [show (0 : Int32) = J 0 from rfl, J_lt hq (by omega)]; omega), if_neg (show ¬ J q < J n by rw [J_lt hq (by omega)]; omega)]
  · rw [if_pos (show x < 0 from hx)]
def kdB (v : zV) (κ : Nat) (x : Int32) : Bool := inb (v 1) x && knd v κ x.toNatClampNeg
theorem G_kind {ν : zM} {sh : Nat → Nat} {U : zCS} {a κ : Nat} {v : zV} {x : Int32} (h9 : isX9 sh a) (h : isVal U a v) (hV : VOK v) (hκ : κ < 100) : fX9_isOfKind (cmem ν sh U) a x (J κ) = some (bJ (kdB v κ x)) := by
  rw [eX9_isOfKind h9]
  have hb1 : (v 1 : Nat) ≤ 6 := hV.2.2.1
  unfold kdB
  cases g : inb (v 1) x with
  | true =>
    obtain ⟨p, hp, rfl⟩ := inb_t (by omega) g
    rw [C_isOfKind h hV hp hκ, J_nat (by omega), Bool.true_and]
  | false =>
    unfold gX9_isOfKind
    have := G_person (ν := ν) (x := x) h9 h
    rw [eX9_hasPerson h9] at this
    rw [this, g, wb1, if_pos (show bJ false = 0 from rfl)]; rfl
theorem Q_kind {M : zMS} {κ : Nat} {v : zV} {x : Int32} (h : isMV M v) (hV : VOK v) (hκ : κ < 100) : gX12_isKind M x (J κ) = some (bJ (kdB v κ x)) := by
  have hb1 : (v 1 : Nat) ≤ 6 := hV.2.2.1
  unfold kdB
  cases g : inb (v 1) x with
  | true =>
    obtain ⟨p, hp, rfl⟩ := inb_t (by omega) g
    rw [R_isKind h hV hp hκ, J_nat (by omega), Bool.true_and]
  | false =>
    unfold gX12_isKind
    rw [R_isPersonX h hV, g, wb1, if_pos (show bJ false = 0 from rfl)]; rfl
theorem kdB_t {v : zV} {κ : Nat} {x : Int32} (h : kdB v κ x = true) : ∃ p, p < (v 1 : Nat) ∧ x = J p ∧ knd v κ p = true := by
  unfold kdB at h
  rw [Bool.and_eq_true] at h
  obtain ⟨p, hp, rfl⟩ := inb_t (by omega) h.1
  refine ⟨p, hp, rfl, ?_⟩
  have := h.2
  rwa [J_nat (by omega)] at this
theorem T_hush {X : Nat} {ν : zM} {sh : Nat → Nat} {U : zCS} {M : zMS} (h : WSt X ν sh U M) (x1 x2 x3 x4 x5 : Int32) : OKq X (mm X ν sh U M) (fX11_hush (mm X ν sh U M) X x1 x2 x3 x4 x5) (fun μ => fX12_hush μ (X + 95) x1 x2 x3 x4 x5) := by
  refine OKq_q (g := fun m => gX12_hush m x1 x2 x3 x4 x5) h (fun ν' m => eX12_hush) ?_
  have hX := h.1.1
  have hck : zm_ck (mm X ν sh U M) 11 X = true := ck_X11 hX
  rcases V_at h x1 with ⟨n1, n2⟩ | ⟨a, v, v1, h9, hv, hV, l1, l2, hm⟩
  · obtain ⟨M4, e1, e2⟩ := n2 (zsI M 0 (J 0)) Msame_I
    have e1 : gX12_hand (zsI M 0 0) x1 = some (0, M4) := e1
    exact ⟨-2, M4, by unfold fX11_hush; rw [hck, zgd_t, n1, wb1, wmn], by unfold gX12_hush; rw [wb1, e1, wb2, if_pos rfl], e2⟩
  · obtain ⟨M4, e1, e2, e3, -⟩ := hm (zsI M 0 (J 0)) Msame_I
    have e1 : gX12_hand (zsI M 0 0) x1 = some (1, M4) := e1
    have hst : stOk (mdl ν (X + 95) M) sh := SHp_st h.1
    have hb0 : (v 0 : Nat) ≤ 30 := hV.2.1
    have hb1 : (v 1 : Nat) ≤ 6 := hV.2.2.1
    unfold mm at v1 hck ⊢
    have h64 : 2 ^ (v 1 : Nat) ≤ 2 ^ 6 := Nat.pow_le_pow_right (by omega) hb1
    have hs1 : ((1 : Int32) <<< (J (v 1) &&& 31)) = J (2 ^ (v 1 : Nat)) := J_shl (v 1) (by omega)
    have hq : gX12_in x2 0 (((1 : Int32) <<< ((M4.1 25) &&& 31)) - 1) = some (bJ (inb (2 ^ (v 1 : Nat)) x2)) := by rw [R_p e2, hs1]; exact R_in0 (by omega) x2
    cases g0 : inb (2 ^ (v 1 : Nat)) x2 with
    | false =>
      refine ⟨-2, M4, ?_, by unfold gX12_hush; rw [wb1, e1, wb2, if_neg (show ¬ (1 : Int32) = 0 by decide), hq, g0, wb1, if_pos (show bJ false = 0 from rfl)], e3⟩
      unfold fX11_hush
      rw [hck, zgd_t, v1, wb1, wms, cgr_X9_4 h9, wb1, hv.2.1, hs1]
      exact G_set (E := 0) (by omega) g0
    | true =>
      obtain ⟨k2, hk2, rfl⟩ := inb_t (by omega) g0
      have hcl : ∀ K : Option Int32, (if J k2 < 0 then some (-2) else zb1 (zm_gI (cmem (mdl ν (X + 95) M) sh U) 9 a 4) fun v4 => if J k2 < ((1 : Int32) <<< (v4 &&& 31)) then K else some (-2)) = K := by
        intro K
        rw [if_neg (show ¬ J k2 < 0 by rw [show (0 : Int32) = J 0 from rfl, J_lt (by omega) (by omega)]; omega), cgr_X9_4 h9, wb1, hv.2.1, hs1, if_pos (show J k2 < J (2 ^ (v 1 : Nat)) by rw [J_lt (by omega) (by omega)]; exact hk2)]
      cases g1 : inb 3 x3 with
      | false => exact ⟨-2, M4, by unfold fX11_hush; rw [hck, zgd_t, v1, wb1, wms, hcl, G_loud, g1, wb1, if_pos (show bJ false = 0 from rfl)], by unfold gX12_hush; rw [wb1, e1, wb2, if_neg (show ¬ (1 : Int32) = 0 by decide), hq, g0, wb1, if_neg (show ¬ bJ true = 0 by decide), Q_loud, g1, wb1, if_pos (show bJ false = 0 from rfl)], e3⟩
      | true =>
        cases g2 : inb 100 x4 with
        | false => exact ⟨-2, M4, by unfold fX11_hush; rw [hck, zgd_t, v1, wb1, wms, hcl, G_loud, g1, wb1, if_neg (show ¬ bJ true = 0 by decide), G_min, g2, wb1, if_pos (show bJ false = 0 from rfl)], by unfold gX12_hush; rw [wb1, e1, wb2, if_neg (show ¬ (1 : Int32) = 0 by decide), hq, g0, wb1, if_neg (show ¬ bJ true = 0 by decide), Q_loud, g1, wb1, if_neg (show ¬ bJ true = 0 by decide), Q_min, g2, wb1, if_pos (show bJ false = 0 from rfl)], e3⟩
        | true =>
          obtain ⟨k3, hk3, rfl⟩ := inb_t (by omega) g1
          obtain ⟨k4, hk4, rfl⟩ := inb_t (by omega) g2
          have hl := R_hush_l e2 hV (show k2 < 64 by omega) hk3 hk4
          rw [← R_w e2] at hl
          have hl : zf3 (gX12_hush_l64 M4 (J k2) (J k3) (J k4)) zfu 0 (-1) (M4.1 24) = _ := hl
          by_cases c : x5 = 0
          · exact ⟨J (cnt (fun c => !hrd v c k2 k3 k4) (v 0 + 1)), M4, by unfold fX11_hush; rw [hck, zgd_t, v1, wb1, wms, hcl, G_loud, g1, wb1, if_neg (show ¬ bJ true = 0 by decide), G_min, g2, wb1, if_neg (show ¬ bJ true = 0 by decide), if_pos c, eX0_silentPlaces h9 hst, C_silentPlaces hv hV (by omega) hk3 hk4, wb1, wb1], by unfold gX12_hush; rw [wb1, e1, wb2, if_neg (show ¬ (1 : Int32) = 0 by decide), hq, g0, wb1, if_neg (show ¬ bJ true = 0 by decide), Q_loud, g1, wb1, if_neg (show ¬ bJ true = 0 by decide), Q_min, g2, wb1, if_neg (show ¬ bJ true = 0 by decide), hl, wb2, if_pos c, wb1], e3⟩
          · exact ⟨oJ (fstI (fun c => !hrd v c k2 k3 k4) (v 0 + 1)), M4, by unfold fX11_hush; rw [hck, zgd_t, v1, wb1, wms, hcl, G_loud, g1, wb1, if_neg (show ¬ bJ true = 0 by decide), G_min, g2, wb1, if_neg (show ¬ bJ true = 0 by decide), if_neg c, eX0_leastSilent h9 hst, C_leastSilent hv hV (by omega) hk3 hk4, wb1, wb1], by unfold gX12_hush; rw [wb1, e1, wb2, if_neg (show ¬ (1 : Int32) = 0 by decide), hq, g0, wb1, if_neg (show ¬ bJ true = 0 by decide), Q_loud, g1, wb1, if_neg (show ¬ bJ true = 0 by decide), Q_min, g2, wb1, if_neg (show ¬ bJ true = 0 by decide), hl, wb2, if_neg c, wb1], e3⟩
theorem T_rings {X : Nat} {ν : zM} {sh : Nat → Nat} {U : zCS} {M : zMS} (h : WSt X ν sh U M) (x1 x2 : Int32) : OKq X (mm X ν sh U M) (fX11_rings (mm X ν sh U M) X x1 x2) (fun μ => fX12_rings μ (X + 95) x1 x2) := by
  refine OKq_q (g := fun m => gX12_rings m x1 x2) h (fun ν' m => eX12_rings) ?_
  have hX := h.1.1
  have hck : zm_ck (mm X ν sh U M) 11 X = true := ck_X11 hX
  rcases V_at h x1 with ⟨n1, n2⟩ | ⟨a, v, v1, h9, hv, hV, l1, l2, hm⟩
  · obtain ⟨M4, e1, e2⟩ := n2 (zsI M 0 (J 0)) Msame_I
    have e1 : gX12_hand (zsI M 0 0) x1 = some (0, M4) := e1
    exact ⟨-1, M4, by unfold fX11_rings; rw [hck, zgd_t, n1, wb1, wmn], by unfold gX12_rings; rw [wb1, e1, wb2, if_pos rfl], e2⟩
  · obtain ⟨M4, e1, e2, e3, -⟩ := hm (zsI M 0 (J 0)) Msame_I
    have e1 : gX12_hand (zsI M 0 0) x1 = some (1, M4) := e1
    have hst : stOk (mdl ν (X + 95) M) sh := SHp_st h.1
    have hb0 : (v 0 : Nat) ≤ 30 := hV.2.1
    have hb1 : (v 1 : Nat) ≤ 6 := hV.2.2.1
    unfold mm at v1 hck ⊢
    cases g0 : inb 3 x2 with
    | false =>
      exact ⟨-1, M4, by unfold fX11_rings; rw [hck, zgd_t, v1, wb1, wms, if_neg (show ¬ x2 = 0 from inb_ne (k := 0) g0 (by omega) (by omega)), if_neg (show ¬ x2 = 1 from inb_ne (k := 1) g0 (by omega) (by omega)), if_neg (show ¬ x2 = 2 from inb_ne (k := 2) g0 (by omega) (by omega))], by unfold gX12_rings; rw [wb1, e1, wb2, if_neg (show ¬ (1 : Int32) = 0 by decide), show gX12_in x2 0 2 = some (bJ (inb 3 x2)) from R_inX (n := 2) (by omega) x2, g0, wb1, if_pos (show bJ false = 0 from rfl)], e3⟩
    | true =>
      obtain ⟨k2, hk2, rfl⟩ := inb_t (by omega) g0
      match k2, hk2, g0 with
      | 0, _, g0 => exact ⟨J (cnt (lrg v) 8), M4, by unfold fX11_rings; rw [hck, zgd_t, v1, wb1, wms, if_pos (show J 0 = 0 from rfl), eX10_ringCount h9, C_ringCount hv hV, wb1], by unfold gX12_rings; rw [wb1, e1, wb2, if_neg (show ¬ (1 : Int32) = 0 by decide), show gX12_in (J 0) 0 2 = some (bJ (inb 3 (J 0))) from R_inX (n := 2) (by omega) (J 0), g0, wb1, if_neg (show ¬ bJ true = 0 by decide), show zf4 (gX12_rings_l35 M4) zfu 0 0 0 0 = some _ from R_rings_l e2 hV, wb3, if_pos (show J 0 = 0 from rfl), wb1], e3⟩
      | 1, _, g0 => exact ⟨J (mxr v 8), M4, by unfold fX11_rings; rw [hck, zgd_t, v1, wb1, wms, if_neg (show ¬ J 1 = 0 by decide), if_pos (show J 1 = 1 from rfl), eX10_longestRing h9, C_longestRing hv hV, wb1], by unfold gX12_rings; rw [wb1, e1, wb2, if_neg (show ¬ (1 : Int32) = 0 by decide), show gX12_in (J 1) 0 2 = some (bJ (inb 3 (J 1))) from R_inX (n := 2) (by omega) (J 1), g0, wb1, if_neg (show ¬ bJ true = 0 by decide), show zf4 (gX12_rings_l35 M4) zfu 0 0 0 0 = some _ from R_rings_l e2 hV, wb3, if_neg (show ¬ J 1 = 0 by decide), if_pos (show J 1 = 1 from rfl), wb1], e3⟩
      | 2, _, g0 => exact ⟨J (bts (fun w => (chn v w w).isSome) 8), M4, by unfold fX11_rings; rw [hck, zgd_t, v1, wb1, wms, if_neg (show ¬ J 2 = 0 by decide), if_neg (show ¬ J 2 = 1 by decide), if_pos (show J 2 = 2 from rfl), eX10_wordsInRings h9, C_wordsInRings hv hV, wb1], by unfold gX12_rings; rw [wb1, e1, wb2, if_neg (show ¬ (1 : Int32) = 0 by decide), show gX12_in (J 2) 0 2 = some (bJ (inb 3 (J 2))) from R_inX (n := 2) (by omega) (J 2), g0, wb1, if_neg (show ¬ bJ true = 0 by decide), show zf4 (gX12_rings_l35 M4) zfu 0 0 0 0 = some _ from R_rings_l e2 hV, wb3, if_neg (show ¬ J 2 = 0 by decide), if_neg (show ¬ J 2 = 1 by decide), wb1], e3⟩
theorem T_middle {X : Nat} {ν : zM} {sh : Nat → Nat} {U : zCS} {M : zMS} (h : WSt X ν sh U M) (x1 x2 : Int32) : OKq X (mm X ν sh U M) (fX11_middle (mm X ν sh U M) X x1 x2) (fun μ => fX12_middle μ (X + 95) x1 x2) := by
  refine OKq_q (g := fun m => gX12_middle m x1 x2) h (fun ν' m => eX12_middle) ?_
  have hX := h.1.1
  have hck : zm_ck (mm X ν sh U M) 11 X = true := ck_X11 hX
  rcases V_at h x1 with ⟨n1, n2⟩ | ⟨a, v, v1, h9, hv, hV, l1, l2, hm⟩
  · obtain ⟨M4, e1, e2⟩ := n2 (zsI M 0 (J 0)) Msame_I
    have e1 : gX12_hand (zsI M 0 0) x1 = some (0, M4) := e1
    exact ⟨-1, M4, by unfold fX11_middle; rw [hck, zgd_t, n1, wb1, wmn], by unfold gX12_middle; rw [wb1, e1, wb2, if_pos rfl], e2⟩
  · obtain ⟨M4, e1, e2, e3, -⟩ := hm (zsI M 0 (J 0)) Msame_I
    have e1 : gX12_hand (zsI M 0 0) x1 = some (1, M4) := e1
    have hst : stOk (mdl ν (X + 95) M) sh := SHp_st h.1
    have hb0 : (v 0 : Nat) ≤ 30 := hV.2.1
    have hb1 : (v 1 : Nat) ≤ 6 := hV.2.2.1
    unfold mm at v1 hck ⊢
    have f0 : far v 0 = fun c => tog v c (v 1) := funext fun c => if_pos rfl
    have f1 : far v 1 = fun c => fur v c (v 1) := funext fun c => if_neg (by omega)
    have b0 := amin_le (f := far v 0) (v 0 : Nat)
    have b1 := amin_le (f := far v 1) (v 0 : Nat)
    have n0 : fX0_nearestPlace (cmem (mdl ν (X + 95) M) sh U) a (J 0) = _ := (eX0_nearestPlace h9).trans (C_nearestPlace hv hV (t := 0) (by omega))
    have q0 : fX0_nearestPlace (cmem (mdl ν (X + 95) M) sh U) a (J 1) = _ := (eX0_nearestPlace h9).trans (C_nearestPlace hv hV (t := 1) (by omega))
    have p0 : fX0_farness (cmem (mdl ν (X + 95) M) sh U) a (J (amin (far v 0) (v 0))) (J 0) = _ := (eX0_farness h9).trans (C_farness hv hV (t := 0) b0 (by omega))
    have r0 : fX0_farness (cmem (mdl ν (X + 95) M) sh U) a (J (amin (far v 1) (v 0))) (J 1) = _ := (eX0_farness h9).trans (C_farness hv hV (t := 1) b1 (by omega))
    have hl : zf3 (gX12_middle_l32 M4) zfu 0 0 1 = some (J (amin (far v 0) (v 0)), J (amin (far v 1) (v 0))) := by rw [f0, f1]; exact R_middle_l e2 hV
    have s0 : gX12_together M4 (J (amin (far v 0) (v 0))) = some (J (far v 0 (amin (far v 0) (v 0)))) := by rw [R_together e2 hV b0]; rfl
    have t0 : gX12_furthest M4 (J (amin (far v 1) (v 0))) = some (J (far v 1 (amin (far v 1) (v 0)))) := by rw [R_furthest e2 hV b1]; rfl
    cases g0 : inb 4 x2 with
    | false =>
      exact ⟨-1, M4, by unfold fX11_middle; rw [hck, zgd_t, v1, wb1, wms, if_neg (show ¬ x2 = 0 from inb_ne (k := 0) g0 (by omega) (by omega)), if_neg (show ¬ x2 = 1 from inb_ne (k := 1) g0 (by omega) (by omega)), if_neg (show ¬ x2 = 2 from inb_ne (k := 2) g0 (by omega) (by omega)), if_neg (show ¬ x2 = 3 from inb_ne (k := 3) g0 (by omega) (by omega))], by unfold gX12_middle; rw [wb1, e1, wb2, if_neg (show ¬ (1 : Int32) = 0 by decide), show gX12_in x2 0 3 = some (bJ (inb 4 x2)) from R_inX (n := 3) (by omega) x2, g0, wb1, if_pos (show bJ false = 0 from rfl)], e3⟩
    | true =>
      obtain ⟨k2, hk2, rfl⟩ := inb_t (by omega) g0
      match k2, hk2, g0 with
      | 0, _, g0 => exact ⟨J (amin (far v 0) (v 0)), M4, by unfold fX11_middle; rw [hck, zgd_t, v1, wb1, wms, if_pos (show J 0 = 0 from rfl), show fX0_nearestPlace (cmem (mdl ν (X + 95) M) sh U) a 0 = some (J (amin (far v 0) (v 0))) from n0, wb1], by unfold gX12_middle; rw [wb1, e1, wb2, if_neg (show ¬ (1 : Int32) = 0 by decide), show gX12_in (J 0) 0 3 = some (bJ (inb 4 (J 0))) from R_inX (n := 3) (by omega) (J 0), g0, wb1, if_neg (show ¬ bJ true = 0 by decide), hl, wb2, if_pos (show J 0 = 0 from rfl), wb1], e3⟩
      | 1, _, g0 => exact ⟨J (far v 0 (amin (far v 0) (v 0))), M4, by unfold fX11_middle; rw [hck, zgd_t, v1, wb1, wms, if_neg (show ¬ J 1 = 0 by decide), if_pos (show J 1 = 1 from rfl), show fX0_nearestPlace (cmem (mdl ν (X + 95) M) sh U) a 0 = some (J (amin (far v 0) (v 0))) from n0, wb1, show fX0_farness (cmem (mdl ν (X + 95) M) sh U) a (J (amin (far v 0) (v 0))) 0 = some _ from p0, wb1], by unfold gX12_middle; rw [wb1, e1, wb2, if_neg (show ¬ (1 : Int32) = 0 by decide), show gX12_in (J 1) 0 3 = some (bJ (inb 4 (J 1))) from R_inX (n := 3) (by omega) (J 1), g0, wb1, if_neg (show ¬ bJ true = 0 by decide), hl, wb2, if_neg (show ¬ J 1 = 0 by decide), if_pos (show J 1 = 1 from rfl), s0, wb1, wb1], e3⟩
      | 2, _, g0 => exact ⟨J (amin (far v 1) (v 0)), M4, by unfold fX11_middle; rw [hck, zgd_t, v1, wb1, wms, if_neg (show ¬ J 2 = 0 by decide), if_neg (show ¬ J 2 = 1 by decide), if_pos (show J 2 = 2 from rfl), show fX0_nearestPlace (cmem (mdl ν (X + 95) M) sh U) a 1 = some (J (amin (far v 1) (v 0))) from q0, wb1], by unfold gX12_middle; rw [wb1, e1, wb2, if_neg (show ¬ (1 : Int32) = 0 by decide), show gX12_in (J 2) 0 3 = some (bJ (inb 4 (J 2))) from R_inX (n := 3) (by omega) (J 2), g0, wb1, if_neg (show ¬ bJ true = 0 by decide), hl, wb2, if_neg (show ¬ J 2 = 0 by decide), if_neg (show ¬ J 2 = 1 by decide), if_pos (show J 2 = 2 from rfl), wb1], e3⟩
      | 3, _, g0 => exact ⟨J (far v 1 (amin (far v 1) (v 0))), M4, by unfold fX11_middle; rw [hck, zgd_t, v1, wb1, wms, if_neg (show ¬ J 3 = 0 by decide), if_neg (show ¬ J 3 = 1 by decide), if_neg (show ¬ J 3 = 2 by decide), if_pos (show J 3 = 3 from rfl), show fX0_nearestPlace (cmem (mdl ν (X + 95) M) sh U) a 1 = some (J (amin (far v 1) (v 0))) from q0, wb1, show fX0_farness (cmem (mdl ν (X + 95) M) sh U) a (J (amin (far v 1) (v 0))) 1 = some _ from r0, wb1], by unfold gX12_middle; rw [wb1, e1, wb2, if_neg (show ¬ (1 : Int32) = 0 by decide), show gX12_in (J 3) 0 3 = some (bJ (inb 4 (J 3))) from R_inX (n := 3) (by omega) (J 3), g0, wb1, if_neg (show ¬ bJ true = 0 by decide), hl, wb2, if_neg (show ¬ J 3 = 0 by decide), if_neg (show ¬ J 3 = 1 by decide), if_neg (show ¬ J 3 = 2 by decide), t0, wb1, wb1], e3⟩
theorem T_market {X : Nat} {ν : zM} {sh : Nat → Nat} {U : zCS} {M : zMS} (h : WSt X ν sh U M) (x1 x2 : Int32) : OKq X (mm X ν sh U M) (fX11_market (mm X ν sh U M) X x1 x2) (fun μ => fX12_market μ (X + 95) x1 x2) := by
  refine OKq_q (g := fun m => gX12_market m x1 x2) h (fun ν' m => eX12_market) ?_
  have hX := h.1.1
  have hck : zm_ck (mm X ν sh U M) 11 X = true := ck_X11 hX
  rcases V_at h x1 with ⟨n1, n2⟩ | ⟨a, v, v1, h9, hv, hV, l1, l2, hm⟩
  · obtain ⟨M4, e1, e2⟩ := n2 (zsI M 0 (J 0)) Msame_I
    have e1 : gX12_hand (zsI M 0 0) x1 = some (0, M4) := e1
    exact ⟨-1, M4, by unfold fX11_market; rw [hck, zgd_t, n1, wb1, wmn], by unfold gX12_market; rw [wb1, e1, wb2, if_pos rfl], e2⟩
  · obtain ⟨M4, e1, e2, e3, -⟩ := hm (zsI M 0 (J 0)) Msame_I
    have e1 : gX12_hand (zsI M 0 0) x1 = some (1, M4) := e1
    have hst : stOk (mdl ν (X + 95) M) sh := SHp_st h.1
    have hb0 : (v 0 : Nat) ≤ 30 := hV.2.1
    have hb1 : (v 1 : Nat) ≤ 6 := hV.2.2.1
    unfold mm at v1 hck ⊢
    obtain ⟨M9, m1, m2, m3, m4⟩ := R_layMarket e2 hV
    cases g0 : inb 4 x2 with
    | false =>
      exact ⟨-1, M4, by unfold fX11_market; rw [hck, zgd_t, v1, wb1, wms, if_neg (show ¬ x2 = 0 from inb_ne (k := 0) g0 (by omega) (by omega)), if_neg (show ¬ x2 = 1 from inb_ne (k := 1) g0 (by omega) (by omega)), if_neg (show ¬ x2 = 2 from inb_ne (k := 2) g0 (by omega) (by omega)), if_neg (show ¬ x2 = 3 from inb_ne (k := 3) g0 (by omega) (by omega))], by unfold gX12_market; rw [wb1, e1, wb2, if_neg (show ¬ (1 : Int32) = 0 by decide), show gX12_in x2 0 3 = some (bJ (inb 4 x2)) from R_inX (n := 3) (by omega) x2, g0, wb1, if_pos (show bJ false = 0 from rfl)], e3⟩
    | true =>
      obtain ⟨k2, hk2, rfl⟩ := inb_t (by omega) g0
      match k2, hk2, g0 with
      | 0, _, g0 => exact ⟨J (gsm v (cpl v)), M9, by unfold fX11_market; rw [hck, zgd_t, v1, wb1, wms, if_pos (show J 0 = 0 from rfl), eX8_gain h9, C_gain hv hV, wb1], by unfold gX12_market; rw [wb1, e1, wb2, if_neg (show ¬ (1 : Int32) = 0 by decide), show gX12_in (J 0) 0 3 = some (bJ (inb 4 (J 0))) from R_inX (n := 3) (by omega) (J 0), g0, wb1, if_neg (show ¬ bJ true = 0 by decide), m1, wb1, show zf2 (gX12_market_l33 M9) zfu 0 0 = some _ from R_market_l hV m4, wb2, show zf3 (gX12_market_l101 M9) zfu (-1) (-1) 0 = some _ from R_market_p hV m4, wb2, if_pos (show J 0 = 0 from rfl), wb1], Msame_t e3 m3⟩
      | 1, _, g0 => exact ⟨J (cpl v), M9, by unfold fX11_market; rw [hck, zgd_t, v1, wb1, wms, if_neg (show ¬ J 1 = 0 by decide), if_pos (show J 1 = 1 from rfl), eX8_couples h9, C_couples hv hV, wb1], by unfold gX12_market; rw [wb1, e1, wb2, if_neg (show ¬ (1 : Int32) = 0 by decide), show gX12_in (J 1) 0 3 = some (bJ (inb 4 (J 1))) from R_inX (n := 3) (by omega) (J 1), g0, wb1, if_neg (show ¬ bJ true = 0 by decide), m1, wb1, show zf2 (gX12_market_l33 M9) zfu 0 0 = some _ from R_market_l hV m4, wb2, show zf3 (gX12_market_l101 M9) zfu (-1) (-1) 0 = some _ from R_market_p hV m4, wb2, if_neg (show ¬ J 1 = 0 by decide), if_pos (show J 1 = 1 from rfl), wb1], Msame_t e3 m3⟩
      | 2, _, g0 => exact ⟨oJ (fstI (fai v) 100), M9, by unfold fX11_market; rw [hck, zgd_t, v1, wb1, wms, if_neg (show ¬ J 2 = 0 by decide), if_neg (show ¬ J 2 = 1 by decide), if_pos (show J 2 = 2 from rfl), eX8_leastPrice h9, C_leastPrice hv hV, wb1], by unfold gX12_market; rw [wb1, e1, wb2, if_neg (show ¬ (1 : Int32) = 0 by decide), show gX12_in (J 2) 0 3 = some (bJ (inb 4 (J 2))) from R_inX (n := 3) (by omega) (J 2), g0, wb1, if_neg (show ¬ bJ true = 0 by decide), m1, wb1, show zf2 (gX12_market_l33 M9) zfu 0 0 = some _ from R_market_l hV m4, wb2, show zf3 (gX12_market_l101 M9) zfu (-1) (-1) 0 = some _ from R_market_p hV m4, wb2, if_neg (show ¬ J 2 = 0 by decide), if_neg (show ¬ J 2 = 1 by decide), if_pos (show J 2 = 2 from rfl), wb1], Msame_t e3 m3⟩
      | 3, _, g0 => exact ⟨oJ (lstU (fai v) 100), M9, by unfold fX11_market; rw [hck, zgd_t, v1, wb1, wms, if_neg (show ¬ J 3 = 0 by decide), if_neg (show ¬ J 3 = 1 by decide), if_neg (show ¬ J 3 = 2 by decide), if_pos (show J 3 = 3 from rfl), eX8_greatestPrice h9, C_greatestPrice hv hV, wb1], by unfold gX12_market; rw [wb1, e1, wb2, if_neg (show ¬ (1 : Int32) = 0 by decide), show gX12_in (J 3) 0 3 = some (bJ (inb 4 (J 3))) from R_inX (n := 3) (by omega) (J 3), g0, wb1, if_neg (show ¬ bJ true = 0 by decide), m1, wb1, show zf2 (gX12_market_l33 M9) zfu 0 0 = some _ from R_market_l hV m4, wb2, show zf3 (gX12_market_l101 M9) zfu (-1) (-1) 0 = some _ from R_market_p hV m4, wb2, if_neg (show ¬ J 3 = 0 by decide), if_neg (show ¬ J 3 = 1 by decide), if_neg (show ¬ J 3 = 2 by decide), wb1], Msame_t e3 m3⟩
theorem T_auction {X : Nat} {ν : zM} {sh : Nat → Nat} {U : zCS} {M : zMS} (h : WSt X ν sh U M) (x1 x2 x3 : Int32) : OKq X (mm X ν sh U M) (fX11_auction (mm X ν sh U M) X x1 x2 x3) (fun μ => fX12_auction μ (X + 95) x1 x2 x3) := by
  refine OKq_q (g := fun m => gX12_auction m x1 x2 x3) h (fun ν' m => eX12_auction) ?_
  have hX := h.1.1
  have hck : zm_ck (mm X ν sh U M) 11 X = true := ck_X11 hX
  rcases V_at h x1 with ⟨n1, n2⟩ | ⟨a, v, v1, h9, hv, hV, l1, l2, hm⟩
  · obtain ⟨M4, e1, e2⟩ := n2 (zsI M 0 (J 0)) Msame_I
    have e1 : gX12_hand (zsI M 0 0) x1 = some (0, M4) := e1
    exact ⟨-1, M4, by unfold fX11_auction; rw [hck, zgd_t, n1, wb1, wmn], by unfold gX12_auction; rw [wb1, e1, wb2, if_pos rfl], e2⟩
  · obtain ⟨M4, e1, e2, e3, -⟩ := hm (zsI M 0 (J 0)) Msame_I
    have e1 : gX12_hand (zsI M 0 0) x1 = some (1, M4) := e1
    have hst : stOk (mdl ν (X + 95) M) sh := SHp_st h.1
    have hb0 : (v 0 : Nat) ≤ 30 := hV.2.1
    have hb1 : (v 1 : Nat) ≤ 6 := hV.2.2.1
    unfold mm at v1 hck ⊢
    cases g0 : kdB v 0 x2 with
    | false => exact ⟨-1, M4, by unfold fX11_auction; rw [hck, zgd_t, v1, wb1, wms, show fX9_isOfKind (cmem (mdl ν (X + 95) M) sh U) a x2 0 = some (bJ (kdB v 0 x2)) from G_kind h9 hv hV (κ := 0) (by omega), g0, wb1, if_pos (show bJ false = 0 from rfl)], by unfold gX12_auction; rw [wb1, e1, wb2, if_neg (show ¬ (1 : Int32) = 0 by decide), show gX12_isKind M4 x2 0 = some (bJ (kdB v 0 x2)) from Q_kind e2 hV (κ := 0) (by omega), g0, wb1, if_pos (show bJ false = 0 from rfl)], e3⟩
    | true =>
      obtain ⟨p, hp, rfl, hkp⟩ := kdB_t g0
      have hA : ∀ E, fX11_auction (cmem (mdl ν (X + 95) M) sh U) X x1 (J p) x3 = E ↔ (zb1 (some (oJ (bl v 1 0 (v 1)))) fun v7 => if v7 = (-1) then some (-1) else zb1 (zm_gR (cmem (mdl ν (X + 95) M) sh U) 9 a 7) fun v8 => zb1 (zm_aI (cmem (mdl ν (X + 95) M) sh U) 0 v8 v7) fun v10 => zb1 (zm_gR (cmem (mdl ν (X + 95) M) sh U) 9 a 7) fun v12 => zb1 (zm_aI (cmem (mdl ν (X + 95) M) sh U) 0 v12 (J p)) fun v14 => if v14 ≤ v10 then zb1 (if x3 = 0 then some v7 else zb1 (fX8_priceFor (cmem (mdl ν (X + 95) M) sh U) a (J p) v7) fun v19 => some v19 : Option Int32) fun s16 => some s16 else some (-1)) = E := by
        intro E
        unfold fX11_auction
        rw [hck, zgd_t, v1, wb1, wms, show fX9_isOfKind (cmem (mdl ν (X + 95) M) sh U) a (J p) 0 = some (bJ (kdB v 0 (J p))) from G_kind h9 hv hV (κ := 0) (by omega), g0, wb1, if_neg (show ¬ bJ true = 0 by decide), eX8_greatestBuyer h9, show gX8_greatestBuyer U a (-1) = some (oJ (bl v 1 0 (v 1))) from C_greatestBuyer hv hV]
      have hB : ∀ E, gX12_auction M x1 (J p) x3 = E ↔ (zb1 (some (oJ (bl v 1 0 (v 1)))) fun x4_12 => if x4_12 = (-1) then some ((-1), M4) else zb1 (gX12_of M4 (39 + x4_12)) fun v26 => zb1 (gX12_of M4 (39 + J p)) fun v28 => if v28 ≤ v26 then zb1 (gX12_of M4 (39 + J p)) fun v30 => zb1 (zf2 (gX12_auction_l132 M4 x4_12) zfu v30 0 : Option Int32) fun x5_35 => zb1 (if x3 = 0 then some x4_12 else some x5_35 : Option Int32) fun s48 => some (s48, M4) else some ((-1), M4)) = E := by
        intro E
        unfold gX12_auction
        rw [wb1, e1, wb2, if_neg (show ¬ (1 : Int32) = 0 by decide), show gX12_isKind M4 (J p) 0 = some (bJ (kdB v 0 (J p))) from Q_kind e2 hV (κ := 0) (by omega), g0, wb1, if_neg (show ¬ bJ true = 0 by decide), show zf2 (gX12_auction_l30 M4) zfu (-1) 0 = some (oJ (bl v 1 0 (v 1))) from R_auction_b e2 hV]
      have hwp : zm_aI (cmem (mdl ν (X + 95) M) sh U) 0 (a + 6) (J p) = some (J (v (39 + p))) := by rw [ca_1006 (isX9_6 h9), zag_J (by omega) (by omega), (hv.2.2.2.2.2.2.1 p hp).2.2]
      have hop : gX12_of M4 (39 + J p) = some (J (v (39 + p))) := by rw [show (39 + J p : Int32) = J (39 + p) from J_add 39 p, R_of e2 (by omega)]
      cases hb : bl v 1 0 (v 1) with
      | none => exact ⟨-1, M4, (hA _).mpr (by rw [hb, wb1]; rfl), (hB _).mpr (by rw [hb, wb1]; rfl), e3⟩
      | some b =>
        have hbl : b < (v 1 : Nat) := by have hbo := bl_ok (v := v) (k := 1) (s := 0) (v 1 : Nat); rw [hb] at hbo; exact hbo.1
        have hwb : zm_aI (cmem (mdl ν (X + 95) M) sh U) 0 (a + 6) (J b) = some (J (v (39 + b))) := by rw [ca_1006 (isX9_6 h9), zag_J (by omega) (by omega), (hv.2.2.2.2.2.2.1 b hbl).2.2]
        have hob : gX12_of M4 (39 + J b) = some (J (v (39 + b))) := by rw [show (39 + J b : Int32) = J (39 + b) from J_add 39 b, R_of e2 (by omega)]
        have hm1 : ¬ J b = -1 := J_m1 (by omega)
        by_cases cw : (v (39 + p) : Nat) ≤ (v (39 + b) : Nat)
        · have cw2 : J (v (39 + p)) ≤ J (v (39 + b)) := by rw [J_le (by omega) (by omega)]; exact cw
          have hpr := R_auction_p e2 hV (s := p) hbl
          by_cases c : x3 = 0
          · exact ⟨J b, M4, (hA _).mpr (by rw [hb, wb1, oJ_s, if_neg hm1, cgr_X9_7 h9, wb1, hwb, wb1, wb1, hwp, wb1, if_pos cw2, if_pos c, wb1]), (hB _).mpr (by rw [hb, wb1, oJ_s, if_neg hm1, hob, wb1, hop, wb1, if_pos cw2, wb1, show zf2 (gX12_auction_l132 M4 (J b)) zfu (J (v (39 + p))) 0 = some _ from hpr, wb1, if_pos c, wb1]), e3⟩
          · exact ⟨J (nxp v p b (v 1)), M4, (hA _).mpr (by rw [hb, wb1, oJ_s, if_neg hm1, cgr_X9_7 h9, wb1, hwb, wb1, wb1, hwp, wb1, if_pos cw2, if_neg c, eX8_priceFor h9, C_priceFor hv hV hp hbl, wb1, wb1]), (hB _).mpr (by rw [hb, wb1, oJ_s, if_neg hm1, hob, wb1, hop, wb1, if_pos cw2, wb1, show zf2 (gX12_auction_l132 M4 (J b)) zfu (J (v (39 + p))) 0 = some _ from hpr, wb1, if_neg c, wb1]), e3⟩
        · have cw2 : ¬ J (v (39 + p)) ≤ J (v (39 + b)) := by rw [J_le (by omega) (by omega)]; exact cw
          exact ⟨-1, M4, (hA _).mpr (by rw [hb, wb1, oJ_s, if_neg hm1, cgr_X9_7 h9, wb1, hwb, wb1, wb1, hwp, wb1, if_neg cw2]), (hB _).mpr (by rw [hb, wb1, oJ_s, if_neg hm1, hob, wb1, hop, wb1, if_neg cw2]), e3⟩
