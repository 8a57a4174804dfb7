/-! the calls: days, sights, lessons -/
theorem lay2 {X : Nat} {ν : zM} {sh : Nat → Nat} {U : zCS} {M : zMS} (h : WSt X ν sh U M) (x1 x2 : Int32) :
    ((fX11_valleyAt (mm X ν sh U M) X x1 = some none ∨ fX11_dayAt (mm X ν sh U M) X x2 = some none) ∧ (∃ o, fX11_valleyAt (mm X ν sh U M) X x1 = some o) ∧ (∃ o, fX11_dayAt (mm X ν sh U M) X x2 = some o) ∧ ∃ M4, gX12_layAll (zsI M 0 0) x1 x2 = some (0, M4) ∧ Msame M M4) ∨
    ∃ a v b d M4, fX11_valleyAt (mm X ν sh U M) X x1 = some (some a) ∧ isX9 sh a ∧ isVal U a v ∧ VOK v ∧ a + 10 < X + 55 ∧ fX11_dayAt (mm X ν sh U M) X x2 = some (some b) ∧ isX2 sh b ∧ isDay U b d ∧ DOK d ∧ b + 3 < X + 55 ∧ gX12_layAll (zsI M 0 0) x1 x2 = some (1, M4) ∧ Msame M M4 ∧ isMV M4 v ∧ isMD M4 d := by
  rcases D_at h x2 with ⟨n1, n2⟩ | ⟨b, d, d1, hb2, hd, hD, hb3, hb4, hdm⟩
  · obtain ⟨M2, e1, e2⟩ := n2 (zsI M 0 0) Msame_I
    refine .inl ⟨.inr n1, ?_, ⟨_, n1⟩, M2, ?_, e2⟩
    · rcases V_at h x1 with ⟨z, -⟩ | ⟨a, v, z, -⟩
      · exact ⟨_, z⟩
      · exact ⟨_, z⟩
    · unfold gX12_layAll
      rw [e1, wb2, if_pos (show J 0 = 0 from rfl), wc2]; rfl
  · obtain ⟨M2, e1, e2, e3⟩ := hdm (zsI M 0 0) Msame_I
    rcases V_at h x1 with ⟨n1, n2⟩ | ⟨a, v, v1, h9, hv, hV, l1, l2, hm⟩
    · obtain ⟨M10, f1, f2⟩ := n2 M2 e2
      refine .inl ⟨.inl n1, ⟨_, n1⟩, ⟨_, d1⟩, M10, ?_, f2⟩
      unfold gX12_layAll
      rw [e1, wb2, if_neg (show ¬ J 1 = 0 by decide), f1, wb2, if_pos (show J 0 = 0 from rfl), wc2]; rfl
    · obtain ⟨M10, f1, f2, f3, f4, f5⟩ := hm M2 e2
      refine .inr ⟨a, v, b, d, M10, v1, h9, hv, hV, l2, d1, hb2, hd, hD, hb4, ?_, f3, f2, e3 M10 (f4 26 (by omega) (by omega) (by omega)) f3⟩
      unfold gX12_layAll
      rw [e1, wb2, if_neg (show ¬ J 1 = 0 by decide), f1, wb2, if_neg (show ¬ J 1 = 0 by decide), wc2]; rfl
theorem T_stop {X : Nat} {ν : zM} {sh : Nat → Nat} {U : zCS} {M : zMS} (h : WSt X ν sh U M) (x1 x2 : Int32) : OKc X (fX11_stop (mm X ν sh U M) X x1 x2) (fun μ => fX12_stop μ (X + 95) x1 x2) := by
  refine OKc_q (g := fun m => gX12_stop m x1 x2) h (fun ν' m => eX12_stop) ?_
  have hX := h.1.1
  have hck : zm_ck (mm X ν sh U M) 11 X = true := ck_X11 hX
  rcases lay2 h x1 x2 with ⟨h1, ⟨o1, ho1⟩, ⟨o2, ho2⟩, M4, e1, e2⟩ | ⟨a, v, b, d, M4, v1, h9, hv, hV, l2, d1, hb2, hd, hD, hb4, e1, e2, e3, e4⟩
  · refine ⟨-1, U, M4, ?_, by unfold gX12_stop; rw [wb1, e1, wb2, if_pos rfl, wc2], Ufr_r, e2⟩
    unfold fX11_stop
    rw [hck, zgd_t, ho1, wb1, ho2, wb1]
    rcases h1 with z | z
    · rw [ho1] at z
      rw [Option.some.inj z, wmn]
    · rw [ho2] at z
      rw [Option.some.inj z]
      cases o1 with
      | none => rw [wmn]
      | some _ => rw [wms, wmn]
  · have hst : stOk (mdl ν (X + 95) M) sh := SHp_st h.1
    unfold mm at v1 d1 hck ⊢
    have hd0 := hD.1
    obtain ⟨r, U2, M2, n', now', ev', pl', j1, j2, j3, j4, j5⟩ := J_follow (c := X + 81) hV hD hv (fun j hj z => by omega) hd (fun j hj z => by omega) e3 e4 (x3 := J (d 0)) (N := (d 0 : Nat)) (Nat.le_refl _) (fun i hi => by rw [J_le (by omega) (by omega)]; omega) (.inr rfl)
    refine ⟨J r, U2, M2, ?_, ?_, Ufr_m j4.1 (fun q hq => ⟨by omega, by omega⟩), Msame_t e2 j4.2.1⟩
    · unfold fX11_stop
      rw [hck, zgd_t, v1, wb1, d1, wb1, wms, wms, cgr_X11_3 hX, wb1, cgr_X2_0 hb2, wb1, hd.1, eX1_follow (isX11_81 hX) h9 hb2 hst, j2, zmap_some, zq2_k, wb2]
    · unfold gX12_stop
      rw [wb1, e1, wb2, if_neg (show ¬ (1 : Int32) = 0 by decide), R_deeds e4, wb1, j3, wb2, wc2]
theorem T_state {X : Nat} {ν : zM} {sh : Nat → Nat} {U : zCS} {M : zMS} (h : WSt X ν sh U M) (x1 x2 x3 x4 : Int32) : OKc X (fX11_state (mm X ν sh U M) X x1 x2 x3 x4) (fun μ => fX12_state μ (X + 95) x1 x2 x3 x4) := by
  refine OKc_q (g := fun m => gX12_state m x1 x2 x3 x4) h (fun ν' m => eX12_state) ?_
  have hX := h.1.1
  have hck : zm_ck (mm X ν sh U M) 11 X = true := ck_X11 hX
  rcases lay2 h x1 x2 with ⟨h1, ⟨o1, ho1⟩, ⟨o2, ho2⟩, M4, e1, e2⟩ | ⟨a, v, b, d, M4, v1, h9, hv, hV, l2, d1, hb2, hd, hD, hb4, e1, e2, e3, e4⟩
  · refine ⟨-2, U, M4, ?_, by unfold gX12_state; rw [wb1, e1, wb2, if_pos rfl, wc2], Ufr_r, e2⟩
    unfold fX11_state
    rw [hck, zgd_t, ho1, wb1, ho2, wb1]
    rcases h1 with z | z
    · rw [ho1] at z
      rw [Option.some.inj z, wmn]
    · rw [ho2] at z
      rw [Option.some.inj z]
      cases o1 with
      | none => rw [wmn]
      | some _ => rw [wms, wmn]
  · have hst : stOk (mdl ν (X + 95) M) sh := SHp_st h.1
    unfold mm at v1 d1 hck ⊢
    have hd0 := hD.1
    have hq : gX12_in x3 0 (J (d 0)) = some (bJ (inb ((d 0 : Nat) + 1) x3)) := R_inX (by omega) x3
    obtain ⟨n, hn, rfl⟩ | hx := J_all x3
    · have h0 : (0 : Int32) ≤ J n := by rw [show (0 : Int32) = J 0 from rfl, J_le (by omega) hn]; omega
      rw [inb_J (by omega) hn] at hq
      by_cases cn : n ≤ (d 0 : Nat)
      · obtain ⟨r, U2, M2, n', now', ev', pl', j1, j2, j3, j4, j5⟩ := J_follow (c := X + 81) hV hD hv (fun j hj z => by omega) hd (fun j hj z => by omega) e3 e4 (x3 := J n) (N := n) cn (fun i hi => by rw [J_le (by omega) (by omega)]; omega) (.inl (by rw [J_le (by omega) (by omega)]; omega))
        have hfr : Ufr U U2 (fun q => X + 55 ≤ q ∧ q ≤ X + 94) := Ufr_m j4.1 (fun q hq => ⟨by omega, by omega⟩)
        by_cases cr : r = n
        · subst cr
          obtain ⟨rr, M5, t1, t2, t3⟩ := J_tell hV hv (fun j hj z => by omega) j4 j5 x4
          refine ⟨rr, U2, M5, ?_, ?_, hfr, Msame_t e2 t3⟩
          · unfold fX11_state
            rw [hck, zgd_t, v1, wb1, d1, wb1, wms, wms, if_pos h0, cgr_X11_3 hX, wb1, eX1_follow (isX11_81 hX) h9 hb2 hst, j2, zmap_some, zq2_k, wb2, if_pos rfl, cgr_X11_3 hX, wb1, eX1_tell (isX11_81 hX) h9, t1, wb1]
          · unfold gX12_state
            rw [wb1, e1, wb2, if_neg (show ¬ (1 : Int32) = 0 by decide), R_deeds e4, wb1, hq, decide_eq_true (show r < (d 0 : Nat) + 1 by omega), wb1, if_neg (show ¬ bJ true = 0 by decide), j3, wb2, if_pos rfl, t2, wb2, wc2]
        · have hne : ¬ J r = J n := by rw [J_eq (by omega) (by omega)]; exact cr
          refine ⟨-2, U2, M2, ?_, ?_, hfr, Msame_t e2 j4.2.1⟩
          · unfold fX11_state
            rw [hck, zgd_t, v1, wb1, d1, wb1, wms, wms, if_pos h0, cgr_X11_3 hX, wb1, eX1_follow (isX11_81 hX) h9 hb2 hst, j2, zmap_some, zq2_k, wb2, if_neg hne]
          · unfold gX12_state
            rw [wb1, e1, wb2, if_neg (show ¬ (1 : Int32) = 0 by decide), R_deeds e4, wb1, hq, decide_eq_true (show n < (d 0 : Nat) + 1 by omega), wb1, if_neg (show ¬ bJ true = 0 by decide), j3, wb2, if_neg hne, wc2]
      · obtain ⟨r, U2, M2, n', now', ev', pl', j1, j2, j3, j4, j5⟩ := J_follow (c := X + 81) hV hD hv (fun j hj z => by omega) hd (fun j hj z => by omega) e3 e4 (x3 := J n) (N := (d 0 : Nat)) (Nat.le_refl _) (fun i hi => by rw [J_le hn (by omega)]; omega) (.inr rfl)
        have hne : ¬ J r = J n := by rw [J_eq (by omega) hn]; omega
        refine ⟨-2, U2, M4, ?_, ?_, Ufr_m j4.1 (fun q hq => ⟨by omega, by omega⟩), e2⟩
        · unfold fX11_state
          rw [hck, zgd_t, v1, wb1, d1, wb1, wms, wms, if_pos h0, cgr_X11_3 hX, wb1, eX1_follow (isX11_81 hX) h9 hb2 hst, j2, zmap_some, zq2_k, wb2, if_neg hne]
        · unfold gX12_state
          rw [wb1, e1, wb2, if_neg (show ¬ (1 : Int32) = 0 by decide), R_deeds e4, wb1, hq, decide_eq_false (show ¬ n < (d 0 : Nat) + 1 by omega), wb1, if_pos (show bJ false = 0 from rfl), wc2]
    · have h0 : ¬ (0 : Int32) ≤ x3 := by
        rw [Int32.lt_iff_toInt_lt, J_toInt (by omega)] at hx
        rw [Int32.le_iff_toInt_le, show (0 : Int32) = J 0 from rfl, J_toInt (by omega)]; omega
      rw [inb_n hx] at hq
      refine ⟨-2, U, M4, ?_, ?_, Ufr_r, e2⟩
      · unfold fX11_state
        rw [hck, zgd_t, v1, wb1, d1, wb1, wms, wms, if_neg h0]
      · unfold gX12_state
        rw [wb1, e1, wb2, if_neg (show ¬ (1 : Int32) = 0 by decide), R_deeds e4, wb1, hq, wb1, if_pos (show bJ false = 0 from rfl), wc2]
theorem T_drawn {X : Nat} {ν : zM} {sh : Nat → Nat} {U : zCS} {M : zMS} (h : WSt X ν sh U M) (x1 x2 x3 x4 : Int32) : OKc X (fX11_drawn (mm X ν sh U M) X x1 x2 x3 x4) (fun μ => fX12_drawn μ (X + 95) x1 x2 x3 x4) := by
  refine OKc_q (g := fun m => gX12_drawn m x1 x2 x3 x4) h (fun ν' m => eX12_drawn) ?_
  have hX := h.1.1
  have hck : zm_ck (mm X ν sh U M) 11 X = true := ck_X11 hX
  have hn0 : ¬ (1 : Int32) = 0 := by decide
  have hq : gX12_in x3 0 60 = some (bJ (inb 61 x3)) := R_inX (n := 60) (by omega) x3
  rcases V_at h x1 with ⟨n1, n2⟩ | ⟨a, v, v1, h9, hv, hV, l1, l2, hm⟩
  · cases g : inb 61 x3 with
    | false => exact ⟨-2, U, zsI M 0 0, by unfold fX11_drawn; rw [hck, zgd_t, n1, wb1, wmn], by unfold gX12_drawn; rw [wb1, hq, g, wb1, if_pos (show bJ false = 0 from rfl)], Ufr_r, Msame_I⟩
    | true =>
      obtain ⟨M4, e1, e2⟩ := n2 (zsI M 0 (J 0)) Msame_I
      have e1 : gX12_hand (zsI M 0 0) x1 = some (0, M4) := e1
      exact ⟨-2, U, M4, by unfold fX11_drawn; rw [hck, zgd_t, n1, wb1, wmn], by unfold gX12_drawn; rw [wb1, hq, g, wb1, if_neg (show ¬ bJ true = 0 by decide), e1, wb2, if_pos rfl], Ufr_r, e2⟩
  · obtain ⟨M4, e1, e2, e3, -⟩ := hm (zsI M 0 (J 0)) Msame_I
    have e1 : gX12_hand (zsI M 0 0) x1 = some (1, M4) := e1
    have hst : stOk (mdl ν (X + 95) M) sh := SHp_st h.1
    have hb1 : (v 1 : Nat) ≤ 6 := hV.2.2.1
    unfold mm at v1 hck ⊢
    by_cases cp : (v 1 : Nat) = 0
    · have hz : J (v 1) = 0 := by rw [cp]; rfl
      have hcl : fX11_drawn (cmem (mdl ν (X + 95) M) sh U) X x1 x2 x3 x4 = some (-2, cmem (mdl ν (X + 95) M) sh U) := by
        unfold fX11_drawn
        rw [hck, zgd_t, v1, wb1, wms, cgr_X9_4 h9, wb1, hv.2.1, if_pos hz]
      cases g : inb 61 x3 with
      | false => exact ⟨-2, U, zsI M 0 0, hcl, by unfold gX12_drawn; rw [wb1, hq, g, wb1, if_pos (show bJ false = 0 from rfl)], Ufr_r, Msame_I⟩
      | true => exact ⟨-2, U, M4, hcl, by unfold gX12_drawn; rw [wb1, hq, g, wb1, if_neg (show ¬ bJ true = 0 by decide), e1, wb2, if_neg hn0, R_p e2, if_pos hz], Ufr_r, e3⟩
    · have hz : ¬ J (v 1) = 0 := by rw [show (0 : Int32) = J 0 from rfl, J_eq (by omega) (by omega)]; exact cp
      cases g : inb 61 x3 with
      | false =>
        refine ⟨-2, U, zsI M 0 0, ?_, by unfold gX12_drawn; rw [wb1, hq, g, wb1, if_pos (show bJ false = 0 from rfl)], Ufr_r, Msame_I⟩
        unfold fX11_drawn
        rw [hck, zgd_t, v1, wb1, wms, cgr_X9_4 h9, wb1, hv.2.1, if_neg hz]
        obtain ⟨q, hql, rfl⟩ | hx := J_all x3
        · rw [inb_J (by omega) hql] at g
          have := of_decide_eq_false g
          rw [if_neg (show ¬ J q < 0 by rw [show (0 : Int32) = J 0 from rfl, J_lt hql (by omega)]; omega), if_neg (show ¬ J q ≤ 60 by rw [show (60 : Int32) = J 60 from rfl, J_le hql (by omega)]; omega)]
        · rw [if_pos (show x3 < 0 from hx)]
      | true =>
        obtain ⟨n, hn, rfl⟩ := inb_t (by omega) g
        obtain ⟨U2, M1, M2, n', now', ev', pl', j1, j2, j3, j4, j5⟩ := J_drawn (c := X + 81) (seed := x2) hV hv (fun j hj z => by omega) e2 (by omega) (N := n) (by omega)
        obtain ⟨rr, M5, t1, t2, t3⟩ := J_tell hV hv (fun j hj z => by omega) j4 j5 x4
        refine ⟨rr, U2, M5, ?_, ?_, Ufr_m j4.1 (fun q hq => ⟨by omega, by omega⟩), Msame_t e3 t3⟩
        · unfold fX11_drawn
          rw [hck, zgd_t, v1, wb1, wms, cgr_X9_4 h9, wb1, hv.2.1, if_neg hz, if_neg (show ¬ J n < 0 by rw [show (0 : Int32) = J 0 from rfl, J_lt (by omega) (by omega)]; omega), if_pos (show J n ≤ 60 by rw [show (60 : Int32) = J 60 from rfl, J_le (by omega) (by omega)]; omega), cgr_X11_3 hX, wb1, eX1_draw (isX11_81 hX) h9 hst, j1, zmap_some, wb1, cgr_X11_3 hX, wb1, eX1_tell (isX11_81 hX) h9, t1, wb1]
        · unfold gX12_drawn
          rw [wb1, hq, g, wb1, if_neg (show ¬ bJ true = 0 by decide), e1, wb2, if_neg hn0, R_p e2, if_neg hz, wb1, j2, wb1, show zf2 (gX12_drawn_l45 (J n)) zfu 0 M1 = some M2 from j3, wb1, t2, wb2]
/-! sights -/
theorem layS {X : Nat} {ν : zM} {sh : Nat → Nat} {U : zCS} {M : zMS} (h : WSt X ν sh U M) (x1 x2 : Int32) :
    ((fX11_valleyAt (mm X ν sh U M) X x1 = some none ∨ fX11_sightAt (mm X ν sh U M) X x2 = some none) ∧ (∃ o, fX11_valleyAt (mm X ν sh U M) X x1 = some o) ∧ (∃ o, fX11_sightAt (mm X ν sh U M) X x2 = some o) ∧ ∃ M4, gX12_laySight (zsI M 0 0) x1 x2 = some (0, M4) ∧ Msame M M4) ∨
    ∃ a v b s M4, fX11_valleyAt (mm X ν sh U M) X x1 = some (some a) ∧ isX9 sh a ∧ isVal U a v ∧ VOK v ∧ a + 10 < X + 55 ∧ fX11_sightAt (mm X ν sh U M) X x2 = some (some b) ∧ isX6 sh b ∧ isSi U b s ∧ SOK s ∧ b + 4 < X + 55 ∧ gX12_laySight (zsI M 0 0) x1 x2 = some (bJ (sinB v s), M4) ∧ Msame M M4 ∧ isMV M4 v ∧ isMS M4 s := by
  rcases S_at h x2 with ⟨n1, n2⟩ | ⟨b, s, d1, hb2, hd, hD, hb3, hb4, hdm⟩
  · obtain ⟨M2, e1, e2⟩ := n2 (zsI M 0 0) Msame_I
    refine .inl ⟨.inr n1, ?_, ⟨_, n1⟩, M2, ?_, e2⟩
    · rcases V_at h x1 with ⟨z, -⟩ | ⟨a, v, z, -⟩
      · exact ⟨_, z⟩
      · exact ⟨_, z⟩
    · unfold gX12_laySight
      rw [e1, wb2, if_pos (show J 0 = 0 from rfl)]
  · obtain ⟨M2, e1, e2, e3⟩ := hdm (zsI M 0 0) Msame_I
    rcases V_at h x1 with ⟨n1, n2⟩ | ⟨a, v, v1, h9, hv, hV, l1, l2, hm⟩
    · obtain ⟨M10, f1, f2⟩ := n2 M2 e2
      refine .inl ⟨.inl n1, ⟨_, n1⟩, ⟨_, d1⟩, M10, ?_, f2⟩
      unfold gX12_laySight
      rw [e1, wb2, if_neg (show ¬ J 1 = 0 by decide), f1, wb2, if_pos (show J 0 = 0 from rfl)]
    · obtain ⟨M10, f1, f2, f3, f4, f5⟩ := hm M2 e2
      have hms := e3 M10 (f4 46 (by omega) (by omega) (by omega)) f3
      exact .inr ⟨a, v, b, s, M10, v1, h9, hv, hV, l2, d1, hb2, hd, hD, hb4, R_laySight e1 f1 f2 hms hV hD, f3, f2, hms⟩
theorem T_said {X : Nat} {ν : zM} {sh : Nat → Nat} {U : zCS} {M : zMS} (h : WSt X ν sh U M) (x1 x2 x3 : Int32) : OKq X (mm X ν sh U M) (fX11_said (mm X ν sh U M) X x1 x2 x3) (fun μ => fX12_said μ (X + 95) x1 x2 x3) := by
  refine OKq_q (g := fun m => gX12_said m x1 x2 x3) h (fun ν' m => eX12_said) ?_
  have hX := h.1.1
  have hck : zm_ck (mm X ν sh U M) 11 X = true := ck_X11 hX
  rcases layS h x1 x2 with ⟨h1, ⟨o1, ho1⟩, ⟨o2, ho2⟩, M4, e1, e2⟩ | ⟨a, v, b, s, M4, v1, h9, hv, hV, l2, d1, hb2, hs, hS, hb4, e1, e2, e3, e4⟩
  · refine ⟨-1, M4, ?_, by unfold gX12_said; rw [wb1, e1, wb2, if_pos rfl, wc2], e2⟩
    unfold fX11_said
    rw [hck, zgd_t, ho1, wb1, ho2, wb1]
    rcases h1 with z | z
    · rw [ho1] at z
      rw [Option.some.inj z, wmn]
    · rw [ho2] at z
      rw [Option.some.inj z]
      cases o1 with
      | none => rw [wmn]
      | some _ => rw [wms, wmn]
  · unfold mm at v1 d1 hck ⊢
    cases g : sinB v s with
    | false => exact ⟨-1, M4, by unfold fX11_said; rw [hck, zgd_t, v1, wb1, d1, wb1, wms, wms, eX6_isWithin hb2 h9, C_isWithin hv hs hS, g, wb1, if_pos (show bJ false = 0 from rfl)], by unfold gX12_said; rw [wb1, e1, g, wb2, if_pos (show bJ false = 0 from rfl), wc2], e2⟩
    | true =>
      have hI := sinB_i.mp g
      have hA : ∀ y, (if x3 = (-1) then zb1 (gX5_howMany U a b) fun v14 => some v14 else zb1 (gX5_numbered U a b x3) fun v12 => some v12 : Option Int32) = some y → fX11_said (cmem (mdl ν (X + 95) M) sh U) X x1 x2 x3 = some y := by
        intro y hy
        unfold fX11_said
        rw [hck, zgd_t, v1, wb1, d1, wb1, wms, wms, eX6_isWithin hb2 h9, C_isWithin hv hs hS, g, wb1, if_neg (show ¬ bJ true = 0 by decide), eX5_howMany h9 hb2, eX5_numbered h9 hb2, hy, wb1]
      have hB : ∀ y m, gX12_findSaid M4 x3 = some (y, m) → gX12_said M x1 x2 x3 = some (y, m) := by
        intro y m hy
        unfold gX12_said
        rw [wb1, e1, g, wb2, if_neg (show ¬ bJ true = 0 by decide), hy, wb2, wc2]
      obtain ⟨k, hk, rfl⟩ | hx := J_all x3
      · obtain ⟨z, hz⟩ := R_findSaidK e3 e4 hV hS hI hk
        exact ⟨_, _, hA _ (by rw [if_neg (J_m1 hk), C_numbered hv hs hV hS hI hk, wb1]), hB _ _ hz, Msame_t e2 Msame_I⟩
      · have hz := R_findSaidA e3 e4 hV hS hI hx
        by_cases c : x3 = NN
        · rw [if_pos c] at hz
          exact ⟨_, _, hA _ (by rw [if_pos (show x3 = -1 from c), C_howManyS hv hs hV hS hI, wb1]), hB _ _ hz, Msame_t e2 Msame_I⟩
        · rw [if_neg c] at hz
          exact ⟨_, _, hA _ (by rw [if_neg (show ¬ x3 = -1 from c), C_numberedN (s := s) hv hV hx, wb1]), hB _ _ hz, Msame_t e2 Msame_I⟩
