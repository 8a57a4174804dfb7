/-! the calls: valleys and words -/
theorem T_valley {X : Nat} {ν : zM} {sh : Nat → Nat} {U : zCS} {M : zMS} (h : WSt X ν sh U M) (x1 x2 : Int32) : OKq X (mm X ν sh U M) (fX11_valley (mm X ν sh U M) X x1 x2) (fun μ => fX12_valley μ (X + 95) x1 x2) := by
  refine OKq_q (g := fun m => gX12_valley m x1 x2) h (fun ν' m => eX12_valley) ?_
  have hX := h.1.1
  have hck : zm_ck (mm X ν sh U M) 11 X = true := ck_X11 hX
  rcases V_at h x1 with ⟨n1, n2⟩ | ⟨a, v, v1, h9, hv, hV, l1, l2, hm⟩
  · obtain ⟨M4, e1, e2⟩ := n2 (zsI M 0 (J 0)) Msame_I
    have e1 : gX12_hand (zsI M 0 0) x1 = some (0, M4) := e1
    exact ⟨-1, M4, by unfold fX11_valley; rw [hck, zgd_t, n1, wb1, wmn, wb1], by unfold gX12_valley; rw [wb1, e1, wb2, if_pos rfl], e2⟩
  · obtain ⟨M4, e1, e2, e3, -⟩ := hm (zsI M 0 (J 0)) Msame_I
    have hst : stOk (mdl ν (X + 95) M) sh := SHp_st h.1
    unfold mm at v1 hck ⊢
    obtain ⟨k, hk, rfl⟩ | hx := J_all x2
    · exact ⟨tlv v k, M4, by unfold fX11_valley; rw [hck, zgd_t, v1, wb1, wms, eX9_tell h9, C_tellV hv hV hk, wb1, wb1], R_valleyT e1 e2 hV hk, e3⟩
    · exact ⟨NN, M4, by unfold fX11_valley; rw [hck, zgd_t, v1, wb1, wms, eX9_tell h9, C_tellVn hx, wb1, wb1], R_valleyN e1 hx, e3⟩
theorem T_heard {X : Nat} {ν : zM} {sh : Nat → Nat} {U : zCS} {M : zMS} (h : WSt X ν sh U M) (x1 x2 x3 x4 x5 x6 x7 : Int32) : OKq X (mm X ν sh U M) (fX11_heard (mm X ν sh U M) X x1 x2 x3 x4 x5 x6 x7) (fun μ => fX12_heard μ (X + 95) x1 x2 x3 x4 x5 x6 x7) := by
  refine OKq_q (g := fun m => gX12_heard m x1 x2 x3 x4 x5 x6 x7) h (fun ν' m => eX12_heard) ?_
  have hX := h.1.1
  have hck : zm_ck (mm X ν sh U M) 11 X = true := ck_X11 hX
  rcases V_at h x1 with ⟨n1, n2⟩ | ⟨a, v, v1, h9, hv, hV, l1, l2, hm⟩
  · obtain ⟨M4, e1, e2⟩ := n2 (zsI M 0 (J 0)) Msame_I
    have e1 : gX12_hand (zsI M 0 0) x1 = some (0, M4) := e1
    exact ⟨-1, M4, by unfold fX11_heard; rw [hck, zgd_t, n1, wb1, wmn], by unfold gX12_heard; rw [wb1, e1, wb2, if_pos rfl], e2⟩
  · obtain ⟨M4, e1, e2, e3, -⟩ := hm (zsI M 0 (J 0)) Msame_I
    have e1 : gX12_hand (zsI M 0 0) x1 = some (1, M4) := e1
    have hst : stOk (mdl ν (X + 95) M) sh := SHp_st h.1
    have hb0 : (v 0 : Nat) ≤ 30 := hV.2.1
    have hb1 : (v 1 : Nat) ≤ 6 := hV.2.2.1
    unfold mm at v1 hck ⊢
    cases g0 : inb ((v 0 : Nat) + 1) x2 with
    | false =>
      exact ⟨-1, M4, by unfold fX11_heard; rw [hck, zgd_t, v1, wb1, wms, G_place h9 hv, g0, wb1, if_pos (show bJ false = 0 from rfl)], by unfold gX12_heard; rw [wb1, e1, wb2, if_neg (show ¬ (1 : Int32) = 0 by decide), Q_place e2, g0, wb1, if_pos (show bJ false = 0 from rfl)], e3⟩
    | true =>
      cases g1 : inb 8 x3 with
      | false =>
        exact ⟨-1, M4, by unfold fX11_heard; rw [hck, zgd_t, v1, wb1, wms, G_place h9 hv, g0, wb1, if_neg (show ¬ bJ true = 0 by decide), G_word, g1, wb1, if_pos (show bJ false = 0 from rfl)], by unfold gX12_heard; rw [wb1, e1, wb2, if_neg (show ¬ (1 : Int32) = 0 by decide), Q_place e2, g0, wb1, if_neg (show ¬ bJ true = 0 by decide), Q_word, g1, wb1, if_pos (show bJ false = 0 from rfl)], e3⟩
      | true =>
        cases g2 : inb 3 x4 with
        | false =>
          exact ⟨-1, M4, by unfold fX11_heard; rw [hck, zgd_t, v1, wb1, wms, G_place h9 hv, g0, wb1, if_neg (show ¬ bJ true = 0 by decide), G_word, g1, wb1, if_neg (show ¬ bJ true = 0 by decide), G_loud, g2, wb1, if_pos (show bJ false = 0 from rfl)], by unfold gX12_heard; rw [wb1, e1, wb2, if_neg (show ¬ (1 : Int32) = 0 by decide), Q_place e2, g0, wb1, if_neg (show ¬ bJ true = 0 by decide), Q_word, g1, wb1, if_neg (show ¬ bJ true = 0 by decide), Q_loud, g2, wb1, if_pos (show bJ false = 0 from rfl)], e3⟩
        | true =>
          cases g3 : inb 100 x5 with
          | false =>
            exact ⟨-1, M4, by unfold fX11_heard; rw [hck, zgd_t, v1, wb1, wms, G_place h9 hv, g0, wb1, if_neg (show ¬ bJ true = 0 by decide), G_word, g1, wb1, if_neg (show ¬ bJ true = 0 by decide), G_loud, g2, wb1, if_neg (show ¬ bJ true = 0 by decide), G_min, g3, wb1, if_pos (show bJ false = 0 from rfl)], by unfold gX12_heard; rw [wb1, e1, wb2, if_neg (show ¬ (1 : Int32) = 0 by decide), Q_place e2, g0, wb1, if_neg (show ¬ bJ true = 0 by decide), Q_word, g1, wb1, if_neg (show ¬ bJ true = 0 by decide), Q_loud, g2, wb1, if_neg (show ¬ bJ true = 0 by decide), Q_min, g3, wb1, if_pos (show bJ false = 0 from rfl)], e3⟩
          | true =>
            cases g4 : inb ((v 0 : Nat) + 1) x6 with
            | false =>
              exact ⟨-1, M4, by unfold fX11_heard; rw [hck, zgd_t, v1, wb1, wms, G_place h9 hv, g0, wb1, if_neg (show ¬ bJ true = 0 by decide), G_word, g1, wb1, if_neg (show ¬ bJ true = 0 by decide), G_loud, g2, wb1, if_neg (show ¬ bJ true = 0 by decide), G_min, g3, wb1, if_neg (show ¬ bJ true = 0 by decide), G_place h9 hv, g4, wb1, if_pos (show bJ false = 0 from rfl)], by unfold gX12_heard; rw [wb1, e1, wb2, if_neg (show ¬ (1 : Int32) = 0 by decide), Q_place e2, g0, wb1, if_neg (show ¬ bJ true = 0 by decide), Q_word, g1, wb1, if_neg (show ¬ bJ true = 0 by decide), Q_loud, g2, wb1, if_neg (show ¬ bJ true = 0 by decide), Q_min, g3, wb1, if_neg (show ¬ bJ true = 0 by decide), Q_place e2, g4, wb1, if_pos (show bJ false = 0 from rfl)], e3⟩
            | true =>
              obtain ⟨k2, hk2, rfl⟩ := inb_t (by omega) g0
              obtain ⟨k3, hk3, rfl⟩ := inb_t (by omega) g1
              obtain ⟨k4, hk4, rfl⟩ := inb_t (by omega) g2
              obtain ⟨k5, hk5, rfl⟩ := inb_t (by omega) g3
              obtain ⟨k6, hk6, rfl⟩ := inb_t (by omega) g4
              cases g5 : inb 3 x7 with
              | false =>
                refine ⟨-1, M4, ?_, by unfold gX12_heard; rw [wb1, e1, wb2, if_neg (show ¬ (1 : Int32) = 0 by decide), Q_place e2, g0, wb1, if_neg (show ¬ bJ true = 0 by decide), Q_word, g1, wb1, if_neg (show ¬ bJ true = 0 by decide), Q_loud, g2, wb1, if_neg (show ¬ bJ true = 0 by decide), Q_min, g3, wb1, if_neg (show ¬ bJ true = 0 by decide), Q_place e2, g4, wb1, if_neg (show ¬ bJ true = 0 by decide), Q_loud, g5, wb1, if_pos (show bJ false = 0 from rfl)], e3⟩
                unfold fX11_heard
                rw [hck, zgd_t, v1, wb1, wms, G_place h9 hv, g0, wb1, if_neg (show ¬ bJ true = 0 by decide), G_word, g1, wb1, if_neg (show ¬ bJ true = 0 by decide), G_loud, g2, wb1, if_neg (show ¬ bJ true = 0 by decide), G_min, g3, wb1, if_neg (show ¬ bJ true = 0 by decide), G_place h9 hv, g4, wb1, if_neg (show ¬ bJ true = 0 by decide)]
                obtain ⟨q, hq, rfl⟩ | hx := J_all x7
                · rw [inb_J (by omega) hq] at g5
                  have := of_decide_eq_false g5
                  rw [if_neg (show ¬ J q < 0 by rw [show (0 : Int32) = J 0 from rfl, J_lt hq (by omega)]; omega), if_neg (show ¬ J q ≤ 2 by rw [show (2 : Int32) = J 2 from rfl, J_le hq (by omega)]; omega)]
                · rw [if_pos (show x7 < 0 from hx)]
              | true =>
                obtain ⟨k7, hk7, rfl⟩ := inb_t (by omega) g5
                exact ⟨oJ (arr v k2 k3 k4 k5 k6 k7), M4, by unfold fX11_heard; rw [hck, zgd_t, v1, wb1, wms, G_place h9 hv, g0, wb1, if_neg (show ¬ bJ true = 0 by decide), G_word, g1, wb1, if_neg (show ¬ bJ true = 0 by decide), G_loud, g2, wb1, if_neg (show ¬ bJ true = 0 by decide), G_min, g3, wb1, if_neg (show ¬ bJ true = 0 by decide), G_place h9 hv, g4, wb1, if_neg (show ¬ bJ true = 0 by decide), if_neg (show ¬ J k7 < 0 by rw [show (0 : Int32) = J 0 from rfl, J_lt (by omega) (by omega)]; omega), if_pos (show J k7 ≤ 2 by rw [show (2 : Int32) = J 2 from rfl, J_le (by omega) (by omega)]; omega), eX9_arrival h9 hst, C_arrival hv hV (by omega) hk3 hk4 hk5 (by omega) hk7, wb1], by unfold gX12_heard; rw [wb1, e1, wb2, if_neg (show ¬ (1 : Int32) = 0 by decide), Q_place e2, g0, wb1, if_neg (show ¬ bJ true = 0 by decide), Q_word, g1, wb1, if_neg (show ¬ bJ true = 0 by decide), Q_loud, g2, wb1, if_neg (show ¬ bJ true = 0 by decide), Q_min, g3, wb1, if_neg (show ¬ bJ true = 0 by decide), Q_place e2, g4, wb1, if_neg (show ¬ bJ true = 0 by decide), Q_loud, g5, wb1, if_neg (show ¬ bJ true = 0 by decide), R_comes e2 hV (by omega) hk3 hk4 hk5 (by omega) hk7, wb1], e3⟩
theorem T_gives {X : Nat} {ν : zM} {sh : Nat → Nat} {U : zCS} {M : zMS} (h : WSt X ν sh U M) (x1 x2 x3 x4 : Int32) : OKq X (mm X ν sh U M) (fX11_gives (mm X ν sh U M) X x1 x2 x3 x4) (fun μ => fX12_gives μ (X + 95) x1 x2 x3 x4) := by
  refine OKq_q (g := fun m => gX12_gives m x1 x2 x3 x4) h (fun ν' m => eX12_gives) ?_
  have hX := h.1.1
  have hck : zm_ck (mm X ν sh U M) 11 X = true := ck_X11 hX
  rcases V_at h x1 with ⟨n1, n2⟩ | ⟨a, v, v1, h9, hv, hV, l1, l2, hm⟩
  · obtain ⟨M4, e1, e2⟩ := n2 (zsI M 0 (J 0)) Msame_I
    have e1 : gX12_hand (zsI M 0 0) x1 = some (0, M4) := e1
    exact ⟨-1, M4, by unfold fX11_gives; rw [hck, zgd_t, n1, wb1, wmn], by unfold gX12_gives; rw [wb1, e1, wb2, if_pos rfl, wb1], e2⟩
  · obtain ⟨M4, e1, e2, e3, -⟩ := hm (zsI M 0 (J 0)) Msame_I
    have e1 : gX12_hand (zsI M 0 0) x1 = some (1, M4) := e1
    have hst : stOk (mdl ν (X + 95) M) sh := SHp_st h.1
    have hb0 : (v 0 : Nat) ≤ 30 := hV.2.1
    have hb1 : (v 1 : Nat) ≤ 6 := hV.2.2.1
    unfold mm at v1 hck ⊢
    cases g0 : inb 8 x2 with
    | false =>
      exact ⟨-1, M4, by unfold fX11_gives; rw [hck, zgd_t, v1, wb1, wms, G_word, g0, wb1, if_pos (show bJ false = 0 from rfl)], by unfold gX12_gives; rw [wb1, e1, wb2, if_neg (show ¬ (1 : Int32) = 0 by decide), Q_word, g0, wb1, if_pos (show bJ false = 0 from rfl), wb1], e3⟩
    | true =>
      cases g1 : inb 100 x3 with
      | false =>
        exact ⟨-1, M4, by unfold fX11_gives; rw [hck, zgd_t, v1, wb1, wms, G_word, g0, wb1, if_neg (show ¬ bJ true = 0 by decide), G_min, g1, wb1, if_pos (show bJ false = 0 from rfl)], by unfold gX12_gives; rw [wb1, e1, wb2, if_neg (show ¬ (1 : Int32) = 0 by decide), Q_word, g0, wb1, if_neg (show ¬ bJ true = 0 by decide), Q_min, g1, wb1, if_pos (show bJ false = 0 from rfl), wb1], e3⟩
      | true =>
        obtain ⟨k2, hk2, rfl⟩ := inb_t (by omega) g0
        obtain ⟨k3, hk3, rfl⟩ := inb_t (by omega) g1
        have hby : gX12_in x4 1 2 = some (bJ (decide (x4 = 1) || decide (x4 = 2))) := by
          rw [R_in]
          refine congrArg (fun z => some (bJ z)) ?_
          by_cases c1 : x4 = 1
          · subst c1; rfl
          · by_cases c2 : x4 = 2
            · subst c2; rfl
            · rw [decide_eq_false c1, decide_eq_false c2]
              refine decide_eq_false (fun z => ?_)
              obtain ⟨q, hq, rfl⟩ | hx := J_all x4
              · have z1 : ¬ J q < J 1 := z.1
                have z2 : ¬ J 2 < J q := z.2
                rw [J_lt hq (by omega)] at z1
                rw [J_lt (by omega) hq] at z2
                have : q = 1 ∨ q = 2 := by omega
                rcases this with z | z
                · rw [z] at c1; exact c1 rfl
                · rw [z] at c2; exact c2 rfl
              · exact z.1 ((neg_lt (k := 1) hx (by omega)).mpr trivial)
        by_cases c1 : x4 = 1
        · subst c1
          exact ⟨oJ (wby v k2 k3 1), M4, by unfold fX11_gives fX11_gives_b40; rw [hck, zgd_t, v1, wb1, wms, G_word, g0, wb1, if_neg (show ¬ bJ true = 0 by decide), G_min, g1, wb1, if_neg (show ¬ bJ true = 0 by decide), if_pos rfl, eX9_wordBy h9, show (1 : Int32) = J 1 from rfl, C_wordBy hv hk2 hk3 (by omega), wb1, wb1], by unfold gX12_gives; rw [wb1, e1, wb2, if_neg (show ¬ (1 : Int32) = 0 by decide), Q_word, g0, wb1, if_neg (show ¬ bJ true = 0 by decide), Q_min, g1, wb1, if_neg (show ¬ bJ true = 0 by decide), hby, wb1, if_neg (show ¬ bJ (decide ((1 : Int32) = 1) || decide ((1 : Int32) = 2)) = 0 by decide), show gX12_given M4 (J k2) (J k3) 1 = some (oJ (wby v k2 k3 1)) from R_given e2 hV hk2 hk3 (b := 1) (by omega), wb1, wb1], e3⟩
        · by_cases c2 : x4 = 2
          · subst c2
            exact ⟨oJ (wby v k2 k3 2), M4, by unfold fX11_gives fX11_gives_b40; rw [hck, zgd_t, v1, wb1, wms, G_word, g0, wb1, if_neg (show ¬ bJ true = 0 by decide), G_min, g1, wb1, if_neg (show ¬ bJ true = 0 by decide), if_neg c1, if_pos rfl, eX9_wordBy h9, show (2 : Int32) = J 2 from rfl, C_wordBy hv hk2 hk3 (by omega), wb1, wb1], by unfold gX12_gives; rw [wb1, e1, wb2, if_neg (show ¬ (1 : Int32) = 0 by decide), Q_word, g0, wb1, if_neg (show ¬ bJ true = 0 by decide), Q_min, g1, wb1, if_neg (show ¬ bJ true = 0 by decide), hby, wb1, if_neg (show ¬ bJ (decide ((2 : Int32) = 1) || decide ((2 : Int32) = 2)) = 0 by decide), show gX12_given M4 (J k2) (J k3) 2 = some (oJ (wby v k2 k3 2)) from R_given e2 hV hk2 hk3 (b := 2) (by omega), wb1, wb1], e3⟩
          · exact ⟨-1, M4, by unfold fX11_gives; rw [hck, zgd_t, v1, wb1, wms, G_word, g0, wb1, if_neg (show ¬ bJ true = 0 by decide), G_min, g1, wb1, if_neg (show ¬ bJ true = 0 by decide), if_neg c1, if_neg c2, wb1], by unfold gX12_gives; rw [wb1, e1, wb2, if_neg (show ¬ (1 : Int32) = 0 by decide), Q_word, g0, wb1, if_neg (show ¬ bJ true = 0 by decide), Q_min, g1, wb1, if_neg (show ¬ bJ true = 0 by decide), hby, wb1, decide_eq_false c1, decide_eq_false c2, if_pos (show bJ (false || false) = 0 from rfl), wb1], e3⟩
theorem T_crowd {X : Nat} {ν : zM} {sh : Nat → Nat} {U : zCS} {M : zMS} (h : WSt X ν sh U M) (x1 x2 x3 x4 : Int32) : OKq X (mm X ν sh U M) (fX11_crowd (mm X ν sh U M) X x1 x2 x3 x4) (fun μ => fX12_crowd μ (X + 95) x1 x2 x3 x4) := by
  refine OKq_q (g := fun m => gX12_crowd m x1 x2 x3 x4) h (fun ν' m => eX12_crowd) ?_
  have hX := h.1.1
  have hck : zm_ck (mm X ν sh U M) 11 X = true := ck_X11 hX
  rcases V_at h x1 with ⟨n1, n2⟩ | ⟨a, v, v1, h9, hv, hV, l1, l2, hm⟩
  · obtain ⟨M4, e1, e2⟩ := n2 (zsI M 0 (J 0)) Msame_I
    have e1 : gX12_hand (zsI M 0 0) x1 = some (0, M4) := e1
    exact ⟨-1, M4, by unfold fX11_crowd; rw [hck, zgd_t, n1, wb1, wmn], by unfold gX12_crowd; rw [wb1, e1, wb2, if_pos rfl], e2⟩
  · obtain ⟨M4, e1, e2, e3, -⟩ := hm (zsI M 0 (J 0)) Msame_I
    have e1 : gX12_hand (zsI M 0 0) x1 = some (1, M4) := e1
    have hst : stOk (mdl ν (X + 95) M) sh := SHp_st h.1
    have hb0 : (v 0 : Nat) ≤ 30 := hV.2.1
    have hb1 : (v 1 : Nat) ≤ 6 := hV.2.2.1
    unfold mm at v1 hck ⊢
    cases g0 : inb 3 x2 with
    | false =>
      exact ⟨-1, M4, by unfold fX11_crowd; rw [hck, zgd_t, v1, wb1, wms, G_loud, g0, wb1, if_pos (show bJ false = 0 from rfl)], by unfold gX12_crowd; rw [wb1, e1, wb2, if_neg (show ¬ (1 : Int32) = 0 by decide), Q_loud, g0, wb1, if_pos (show bJ false = 0 from rfl)], e3⟩
    | true =>
      cases g1 : inb 100 x3 with
      | false =>
        exact ⟨-1, M4, by unfold fX11_crowd; rw [hck, zgd_t, v1, wb1, wms, G_loud, g0, wb1, if_neg (show ¬ bJ true = 0 by decide), G_min, g1, wb1, if_pos (show bJ false = 0 from rfl)], by unfold gX12_crowd; rw [wb1, e1, wb2, if_neg (show ¬ (1 : Int32) = 0 by decide), Q_loud, g0, wb1, if_neg (show ¬ bJ true = 0 by decide), Q_min, g1, wb1, if_pos (show bJ false = 0 from rfl)], e3⟩
      | true =>
        obtain ⟨k2, hk2, rfl⟩ := inb_t (by omega) g0
        obtain ⟨k3, hk3, rfl⟩ := inb_t (by omega) g1
        have hj : (zb1 (gX12_judges M4 1 (J k3)) fun v11 => zb1 (if v11 = 0 then some 2 else some 1 : Option Int32) fun s12 => zb2 (zf3 (gX12_crowd_l59 M4 (J k2) (J k3) s12) zfu 0 (-1) 0 : Option (Int32 × Int32)) fun x6_19 x7_20 => zb1 (if x4 = 0 then some x6_19 else some x7_20 : Option Int32) fun s44 => some (s44, M4)) = zb1 (if x4 = 0 then some (J (amax (jhe v k2 k3) (v 0))) else some (J (jhe v k2 k3 (amax (jhe v k2 k3) (v 0)))) : Option Int32) fun s44 => some (s44, M4) := by
          have hjj : (if bJ (decide (1 = jdg v k3)) = 0 then some 2 else some 1 : Option Int32) = some (J (jdg v k3)) := by
            unfold jdg; split <;> rfl
          rw [show gX12_judges M4 1 (J k3) = some (bJ (decide (1 = jdg v k3))) from R_judges e2 hV (b := 1) (by omega) hk3, wb1, hjj, wb1, show zf3 (gX12_crowd_l59 M4 (J k2) (J k3) (J (jdg v k3))) zfu 0 (-1) 0 = some _ from R_crowd_l e2 hV hk2 hk3, wb2]
        have hle : amax (jhe v k2 k3) (v 0) ≤ (v 0 : Nat) := amax_le _
        by_cases c : x4 = 0
        · exact ⟨J (amax (jhe v k2 k3) (v 0)), M4, by unfold fX11_crowd; rw [hck, zgd_t, v1, wb1, wms, G_loud, g0, wb1, if_neg (show ¬ bJ true = 0 by decide), G_min, g1, wb1, if_neg (show ¬ bJ true = 0 by decide), eX0_fullestPlace h9 hst, C_fullestPlace hv hV hk2 hk3, wb1, if_pos c, wb1], by unfold gX12_crowd; rw [wb1, e1, wb2, if_neg (show ¬ (1 : Int32) = 0 by decide), Q_loud, g0, wb1, if_neg (show ¬ bJ true = 0 by decide), Q_min, g1, wb1, if_neg (show ¬ bJ true = 0 by decide), hj, if_pos c, wb1], e3⟩
        · exact ⟨J (jhe v k2 k3 (amax (jhe v k2 k3) (v 0))), M4, by unfold fX11_crowd; rw [hck, zgd_t, v1, wb1, wms, G_loud, g0, wb1, if_neg (show ¬ bJ true = 0 by decide), G_min, g1, wb1, if_neg (show ¬ bJ true = 0 by decide), eX0_fullestPlace h9 hst, C_fullestPlace hv hV hk2 hk3, wb1, if_neg c, eX0_judgedHearers h9 hst, C_judgedHearers hv hV hle hk2 hk3, wb1, wb1], by unfold gX12_crowd; rw [wb1, e1, wb2, if_neg (show ¬ (1 : Int32) = 0 by decide), Q_loud, g0, wb1, if_neg (show ¬ bJ true = 0 by decide), Q_min, g1, wb1, if_neg (show ¬ bJ true = 0 by decide), hj, if_neg c, wb1], e3⟩
theorem T_chain {X : Nat} {ν : zM} {sh : Nat → Nat} {U : zCS} {M : zMS} (h : WSt X ν sh U M) (x1 x2 x3 : Int32) : OKq X (mm X ν sh U M) (fX11_chain (mm X ν sh U M) X x1 x2 x3) (fun μ => fX12_chain μ (X + 95) x1 x2 x3) := by
  refine OKq_q (g := fun m => gX12_chain m x1 x2 x3) h (fun ν' m => eX12_chain) ?_
  have hX := h.1.1
  have hck : zm_ck (mm X ν sh U M) 11 X = true := ck_X11 hX
  rcases V_at h x1 with ⟨n1, n2⟩ | ⟨a, v, v1, h9, hv, hV, l1, l2, hm⟩
  · obtain ⟨M4, e1, e2⟩ := n2 (zsI M 0 (J 0)) Msame_I
    have e1 : gX12_hand (zsI M 0 0) x1 = some (0, M4) := e1
    exact ⟨-1, M4, by unfold fX11_chain; rw [hck, zgd_t, n1, wb1, wmn], by unfold gX12_chain; rw [wb1, e1, wb2, if_pos rfl], e2⟩
  · obtain ⟨M4, e1, e2, e3, -⟩ := hm (zsI M 0 (J 0)) Msame_I
    have e1 : gX12_hand (zsI M 0 0) x1 = some (1, M4) := e1
    have hst : stOk (mdl ν (X + 95) M) sh := SHp_st h.1
    have hb0 : (v 0 : Nat) ≤ 30 := hV.2.1
    have hb1 : (v 1 : Nat) ≤ 6 := hV.2.2.1
    unfold mm at v1 hck ⊢
    cases g0 : inb 8 x2 with
    | false =>
      exact ⟨-1, M4, by unfold fX11_chain; rw [hck, zgd_t, v1, wb1, wms, G_word, g0, wb1, if_pos (show bJ false = 0 from rfl)], by unfold gX12_chain; rw [wb1, e1, wb2, if_neg (show ¬ (1 : Int32) = 0 by decide), Q_word, g0, wb1, if_pos (show bJ false = 0 from rfl)], e3⟩
    | true =>
      cases g1 : inb 8 x3 with
      | false =>
        exact ⟨-1, M4, by unfold fX11_chain; rw [hck, zgd_t, v1, wb1, wms, G_word, g0, wb1, if_neg (show ¬ bJ true = 0 by decide), G_word, g1, wb1, if_pos (show bJ false = 0 from rfl)], by unfold gX12_chain; rw [wb1, e1, wb2, if_neg (show ¬ (1 : Int32) = 0 by decide), Q_word, g0, wb1, if_neg (show ¬ bJ true = 0 by decide), Q_word, g1, wb1, if_pos (show bJ false = 0 from rfl)], e3⟩
      | true =>
        obtain ⟨k2, hk2, rfl⟩ := inb_t (by omega) g0
        obtain ⟨k3, hk3, rfl⟩ := inb_t (by omega) g1
        exact ⟨oJ (chn v k2 k3), M4, by unfold fX11_chain; rw [hck, zgd_t, v1, wb1, wms, G_word, g0, wb1, if_neg (show ¬ bJ true = 0 by decide), G_word, g1, wb1, if_neg (show ¬ bJ true = 0 by decide), eX10_sayingsUntil h9, C_sayingsUntil hv hV hk2 hk3, wb1], by unfold gX12_chain; rw [wb1, e1, wb2, if_neg (show ¬ (1 : Int32) = 0 by decide), Q_word, g0, wb1, if_neg (show ¬ bJ true = 0 by decide), Q_word, g1, wb1, if_neg (show ¬ bJ true = 0 by decide), show zf2 (gX12_chain_l35 M4 (J k3)) zfu (J k2) 1 = some (oJ (chn v k2 k3), M4) from R_chain_l e2 hV hk2 hk3], e3⟩
theorem T_late {X : Nat} {ν : zM} {sh : Nat → Nat} {U : zCS} {M : zMS} (h : WSt X ν sh U M) (x1 x2 x3 : Int32) : OKq X (mm X ν sh U M) (fX11_late (mm X ν sh U M) X x1 x2 x3) (fun μ => fX12_late μ (X + 95) x1 x2 x3) := by
  refine OKq_q (g := fun m => gX12_late m x1 x2 x3) h (fun ν' m => eX12_late) ?_
  have hX := h.1.1
  have hck : zm_ck (mm X ν sh U M) 11 X = true := ck_X11 hX
  rcases V_at h x1 with ⟨n1, n2⟩ | ⟨a, v, v1, h9, hv, hV, l1, l2, hm⟩
  · obtain ⟨M4, e1, e2⟩ := n2 (zsI M 0 (J 0)) Msame_I
    have e1 : gX12_hand (zsI M 0 0) x1 = some (0, M4) := e1
    exact ⟨-1, M4, by unfold fX11_late; rw [hck, zgd_t, n1, wb1, wmn], by unfold gX12_late; rw [wb1, e1, wb2, if_pos rfl, wb1], e2⟩
  · obtain ⟨M4, e1, e2, e3, -⟩ := hm (zsI M 0 (J 0)) Msame_I
    have e1 : gX12_hand (zsI M 0 0) x1 = some (1, M4) := e1
    have hst : stOk (mdl ν (X + 95) M) sh := SHp_st h.1
    have hb0 : (v 0 : Nat) ≤ 30 := hV.2.1
    have hb1 : (v 1 : Nat) ≤ 6 := hV.2.2.1
    unfold mm at v1 hck ⊢
    cases g0 : inb ((v 0 : Nat) + 1) x2 with
    | false =>
      exact ⟨-1, M4, by unfold fX11_late; rw [hck, zgd_t, v1, wb1, wms, G_place h9 hv, g0, wb1, if_pos (show bJ false = 0 from rfl)], by unfold gX12_late; rw [wb1, e1, wb2, if_neg (show ¬ (1 : Int32) = 0 by decide), Q_place e2, g0, wb1, if_pos (show bJ false = 0 from rfl), wb1], e3⟩
    | true =>
      cases g1 : inb 8 x3 with
      | false =>
        exact ⟨-1, M4, by unfold fX11_late; rw [hck, zgd_t, v1, wb1, wms, G_place h9 hv, g0, wb1, if_neg (show ¬ bJ true = 0 by decide), G_word, g1, wb1, if_pos (show bJ false = 0 from rfl)], by unfold gX12_late; rw [wb1, e1, wb2, if_neg (show ¬ (1 : Int32) = 0 by decide), Q_place e2, g0, wb1, if_neg (show ¬ bJ true = 0 by decide), Q_word, g1, wb1, if_pos (show bJ false = 0 from rfl), wb1], e3⟩
      | true =>
        obtain ⟨k2, hk2, rfl⟩ := inb_t (by omega) g0
        obtain ⟨k3, hk3, rfl⟩ := inb_t (by omega) g1
        have hw : way v k2 k2 2 = 2 * ((v 0 : Nat) - k2) := by unfold way; rw [if_neg (by omega), if_neg (by omega)]; omega
        exact ⟨J (2 * ((v 0 : Nat) - k2) + (v (11 + k3) : Nat)), M4, by unfold fX11_late; rw [hck, zgd_t, v1, wb1, wms, G_place h9 hv, g0, wb1, if_neg (show ¬ bJ true = 0 by decide), G_word, g1, wb1, if_neg (show ¬ bJ true = 0 by decide), eX9_way h9, show (2 : Int32) = J 2 from rfl, C_way hv hV (by omega) (by omega) (by omega), wb1, hw, cgr_X9_2 h9, wb1, ca_1008 (isX9_2 h9), zag_J hk3 (by omega), wb1, hv.2.2.2.2.1 k3 hk3, J_add], by unfold gX12_late; rw [wb1, e1, wb2, if_neg (show ¬ (1 : Int32) = 0 by decide), Q_place e2, g0, wb1, if_neg (show ¬ bJ true = 0 by decide), Q_word, g1, wb1, if_neg (show ¬ bJ true = 0 by decide), show (11 + J k3 : Int32) = J (11 + k3) from J_add 11 k3, R_of e2 (by omega), wb1, R_w e2, J_sub (by omega), show (2 : Int32) = J 2 from rfl, J_mul, J_add, wb1], e3⟩
theorem T_guards {X : Nat} {ν : zM} {sh : Nat → Nat} {U : zCS} {M : zMS} (h : WSt X ν sh U M) (x1 x2 : Int32) : OKq X (mm X ν sh U M) (fX11_guards (mm X ν sh U M) X x1 x2) (fun μ => fX12_guards μ (X + 95) x1 x2) := by
  refine OKq_q (g := fun m => gX12_guards m x1 x2) h (fun ν' m => eX12_guards) ?_
  have hX := h.1.1
  have hck : zm_ck (mm X ν sh U M) 11 X = true := ck_X11 hX
  rcases V_at h x1 with ⟨n1, n2⟩ | ⟨a, v, v1, h9, hv, hV, l1, l2, hm⟩
  · obtain ⟨M4, e1, e2⟩ := n2 (zsI M 0 (J 0)) Msame_I
    have e1 : gX12_hand (zsI M 0 0) x1 = some (0, M4) := e1
    exact ⟨-1, M4, by unfold fX11_guards; rw [hck, zgd_t, n1, wb1, wmn], by unfold gX12_guards; rw [wb1, e1, wb2, if_pos rfl], e2⟩
  · obtain ⟨M4, e1, e2, e3, -⟩ := hm (zsI M 0 (J 0)) Msame_I
    have e1 : gX12_hand (zsI M 0 0) x1 = some (1, M4) := e1
    have hst : stOk (mdl ν (X + 95) M) sh := SHp_st h.1
    have hb0 : (v 0 : Nat) ≤ 30 := hV.2.1
    have hb1 : (v 1 : Nat) ≤ 6 := hV.2.2.1
    unfold mm at v1 hck ⊢
    cases g0 : inb 3 x2 with
    | false =>
      exact ⟨-1, M4, by unfold fX11_guards; rw [hck, zgd_t, v1, wb1, wms, G_loud, g0, wb1, if_pos (show bJ false = 0 from rfl)], by unfold gX12_guards; rw [wb1, e1, wb2, if_neg (show ¬ (1 : Int32) = 0 by decide), Q_loud, g0, wb1, if_pos (show bJ false = 0 from rfl)], e3⟩
    | true =>
      obtain ⟨k2, hk2, rfl⟩ := inb_t (by omega) g0
      exact ⟨oJ (gst v k2 (2 ^ (v 1 : Nat))), M4, by unfold fX11_guards; rw [hck, zgd_t, v1, wb1, wms, G_loud, g0, wb1, if_neg (show ¬ bJ true = 0 by decide), eX0_fewestGuards h9 hst, C_fewestGuards hv hV hk2, wb1], by unfold gX12_guards; rw [wb1, e1, wb2, if_neg (show ¬ (1 : Int32) = 0 by decide), Q_loud, g0, wb1, if_neg (show ¬ bJ true = 0 by decide), show zf2 (gX12_guards_l29 M4 (J k2)) zfu (-1) 0 = some (oJ (gst v k2 (2 ^ (v 1 : Nat)))) from R_guards_l e2 hV hk2, wb1], e3⟩
