/-! the calls: the spot, rules, matches, talk -/
theorem isMS_I {M : zMS} {s : zV} {k : Nat} {x : Int32} (hk : k ≠ 46) (h : isMS M s) : isMS (zsI M k x) s := by
  obtain ⟨t, h3, h4, h5⟩ := h
  exact ⟨t, h3, by rw [zsI_o (Ne.symm hk)]; exact h4, h5⟩
theorem T_spot {X : Nat} {ν : zM} {sh : Nat → Nat} {U : zCS} {M : zMS} (h : WSt X ν sh U M) (x1 x2 x3 : Int32) : OKc X (fX11_spot (mm X ν sh U M) X x1 x2 x3) (fun μ => fX12_spot μ (X + 95) x1 x2 x3) := by
  refine OKc_q (g := fun m => gX12_spot m x1 x2 x3) h (fun ν' m => eX12_spot) ?_
  have hX := h.1.1
  have hck : zm_ck (mm X ν sh U M) 11 X = true := ck_X11 hX
  rcases layS h x1 x2 with ⟨h1, ⟨o1, ho1⟩, ⟨o2, ho2⟩, M4, e1, e2⟩ | ⟨a, v, b, s, M4, v1, h9, hv, hV, l2, d1, hb2, hs, hS, hb4, e1, e2, e3, e4⟩
  · refine ⟨-1, U, M4, ?_, by unfold gX12_spot; rw [wb1, e1, wb2, if_pos rfl], Ufr_r, e2⟩
    unfold fX11_spot
    rw [hck, zgd_t, ho1, wb1, ho2, wb1]
    rcases h1 with z | z
    · rw [ho1] at z
      rw [Option.some.inj z, wmn]
    · rw [ho2] at z
      rw [Option.some.inj z]
      cases o1 with
      | none => rw [wmn]
      | some _ => rw [wms, wmn]
  · unfold mm at v1 d1 hck ⊢
    cases g : sinB v s with
    | false => exact ⟨-1, U, M4, by unfold fX11_spot; rw [hck, zgd_t, v1, wb1, d1, wb1, wms, wms, eX6_isWithin hb2 h9, C_isWithin hv hs hS, g, wb1, if_pos (show bJ false = 0 from rfl)], by unfold gX12_spot; rw [wb1, e1, g, wb2, if_pos (show bJ false = 0 from rfl)], Ufr_r, e2⟩
    | true =>
      have hI := sinB_i.mp g
      have hf : gX12_findSaid M4 (-1) = some (J (Bq v s (100 * ((v 0 : Nat) + 1))), zsI M4 48 (spf v s (1000 * ((v 0 : Nat) + 1)))) := by
        have := R_findSaidA e3 e4 hV hS hI (x1 := NN) (by decide)
        rw [if_pos rfl] at this
        exact this
      have hB := Bq_le (v := v) (s := s) (100 * ((v 0 : Nat) + 1))
      by_cases c3 : x3 = 0
      · have hA : fX11_spot (cmem (mdl ν (X + 95) M) sh U) X x1 x2 x3 = some (if Bq v s (100 * ((v 0 : Nat) + 1)) = 0 then NN else if spf v s (1000 * ((v 0 : Nat) + 1)) = NN2 then NN else spf v s (1000 * ((v 0 : Nat) + 1)), cmem (mdl ν (X + 95) M) sh U) := by
          unfold fX11_spot
          rw [hck, zgd_t, v1, wb1, d1, wb1, wms, wms, eX6_isWithin hb2 h9, C_isWithin hv hs hS, g, wb1, if_neg (show ¬ bJ true = 0 by decide), if_pos c3, eX5_onlyPlace h9 hb2, C_onlyPlace hv hs hV hS hI, wb1, wc2]
        refine ⟨_, U, _, hA, ?_, Ufr_r, Msame_t e2 (Msame_I (k := 48) (x := spf v s (1000 * ((v 0 : Nat) + 1))))⟩
        unfold gX12_spot
        rw [wb1, e1, g, wb2, if_neg (show ¬ bJ true = 0 by decide), hf, wb2]
        by_cases cb : Bq v s (100 * ((v 0 : Nat) + 1)) = 0
        · rw [if_pos (show J (Bq v s (100 * ((v 0 : Nat) + 1))) = 0 by rw [cb]; rfl), if_pos cb]; rfl
        · rw [if_neg (show ¬ J (Bq v s (100 * ((v 0 : Nat) + 1))) = 0 by rw [show (0 : Int32) = J 0 from rfl, J_eq (by omega) (by omega)]; exact cb), if_neg cb, if_pos c3, zsI_1]
          by_cases cs : spf v s (1000 * ((v 0 : Nat) + 1)) = NN2
          · rw [if_pos (show spf v s (1000 * ((v 0 : Nat) + 1)) = -2 from cs), if_pos cs, wb1]; rfl
          · rw [if_neg (show ¬ spf v s (1000 * ((v 0 : Nat) + 1)) = -2 from cs), if_neg cs, wb1]
      · obtain ⟨U2, w1, w2⟩ := C_whereToListen (e := X + 85) hv hs hV hS hI (fun j hj => by omega) (fun j hj => by omega)
        have hA : fX11_spot (cmem (mdl ν (X + 95) M) sh U) X x1 x2 x3 = some (if Bq v s (100 * ((v 0 : Nat) + 1)) = 0 then NN else J (amin (lsf v s) (100 * ((v 0 : Nat) + 1) - 1)), cmem (mdl ν (X + 95) M) sh U2) := by
          unfold fX11_spot
          rw [hck, zgd_t, v1, wb1, d1, wb1, wms, wms, eX6_isWithin hb2 h9, C_isWithin hv hs hS, g, wb1, if_neg (show ¬ bJ true = 0 by decide), if_neg c3, cgr_X11_4 hX, wb1, eX5_whereToListen (isX11_85 hX) h9 hb2, w1, zmap_some, zq2_k, wb2, wc2]
        have hfr : Ufr U U2 (fun q => X + 55 ≤ q ∧ q ≤ X + 94) := Ufr_m w2 (fun q hq => ⟨by omega, by omega⟩)
        by_cases cb : Bq v s (100 * ((v 0 : Nat) + 1)) = 0
        · rw [if_pos cb] at hA
          refine ⟨_, U2, _, hA, ?_, hfr, Msame_t e2 (Msame_I (k := 48) (x := spf v s (1000 * ((v 0 : Nat) + 1))))⟩
          unfold gX12_spot
          rw [wb1, e1, g, wb2, if_neg (show ¬ bJ true = 0 by decide), hf, wb2, if_pos (show J (Bq v s (100 * ((v 0 : Nat) + 1))) = 0 by rw [cb]; rfl)]; rfl
        · rw [if_neg cb] at hA
          obtain ⟨M5, t1, t2, -⟩ := R_spotL (isMV_I (k := 48) (x := spf v s (1000 * ((v 0 : Nat) + 1))) ⟨by omega, by omega, by omega⟩ e3) (isMS_I (by omega) e4) hV hS hI
          refine ⟨_, U2, M5, hA, ?_, hfr, Msame_t e2 (Msame_t Msame_I t2)⟩
          unfold gX12_spot
          rw [wb1, e1, g, wb2, if_neg (show ¬ bJ true = 0 by decide), hf, wb2, if_neg (show ¬ J (Bq v s (100 * ((v 0 : Nat) + 1))) = 0 by rw [show (0 : Int32) = J 0 from rfl, J_eq (by omega) (by omega)]; exact cb), if_neg c3]
          exact t1
theorem inb8 {x : Int32} : inb 8 (x - 10) = decide (¬ x < 10 ∧ ¬ 17 < x) := by
  unfold inb
  refine decide_eq_decide.mpr ?_
  have h1 := x.toInt_lt
  have h2 := x.le_toInt
  rw [Int32.lt_iff_toInt_lt, Int32.lt_iff_toInt_lt, Int32.lt_iff_toInt_lt, Int32.lt_iff_toInt_lt, Int32.toInt_sub, J_toInt (by omega), J_toInt (by omega), show (10 : Int32).toInt = 10 from rfl, show (17 : Int32).toInt = 17 from rfl]
  rw [Int.bmod_def]
  split <;> omega
theorem sur_0 {l : zV} {w : Nat} (h : cnt (fit l) 64 = 0) : sur l w = none := by
  unfold sur
  cases q : fstI (fit l) 64 with
  | none => rfl
  | some i =>
    obtain ⟨q1, q2, -⟩ := fstI_s q
    rw [cnt_0 h i q1] at q2
    exact absurd q2 (by decide)
theorem T_rules {X : Nat} {ν : zM} {sh : Nat → Nat} {U : zCS} {M : zMS} (h : WSt X ν sh U M) (x1 x2 : Int32) : OKq X (mm X ν sh U M) (fX11_rules (mm X ν sh U M) X x1 x2) (fun μ => fX12_rules μ (X + 95) x1 x2) := by
  refine OKq_q (g := fun m => gX12_rules m x1 x2) h (fun ν' m => eX12_rules) ?_
  have hX := h.1.1
  have hck : zm_ck (mm X ν sh U M) 11 X = true := ck_X11 hX
  rcases L_at h x1 with ⟨n1, n2⟩ | ⟨a, l, v1, h3, hl, hL, hm⟩
  · obtain ⟨M4, e1, e2⟩ := n2 (zsI M 0 (J 0)) Msame_I
    have e1 : gX12_hasLesson (zsI M 0 0) x1 = some (0, M4) := e1
    exact ⟨-2, M4, by unfold fX11_rules; rw [hck, zgd_t, n1, wb1, wmn], by unfold gX12_rules; rw [wb1, e1, wb2, if_pos rfl], e2⟩
  · obtain ⟨M4, e1, e2, e3⟩ := hm (zsI M 0 (J 0)) Msame_I
    have e1 : gX12_hasLesson (zsI M 0 0) x1 = some (1, M4) := e1
    unfold mm at v1 hck ⊢
    have hn0 : ¬ (1 : Int32) = 0 := by decide
    have hi3 : gX12_in x2 0 3 = some (bJ (inb 4 x2)) := R_inX (n := 3) (by omega) x2
    have hc := cnt_le (p := fit l) 64
    have ha := amin_le (f := mis l) 63
    have hrl : zf3 (gX12_rules_l44 M4) zfu 0 0 0 = some (J (cnt (fit l) 64), J (amin (mis l) 63)) := R_rules_l e3 hL
    cases g : inb 4 x2 with
    | true =>
      obtain ⟨k, hk, rfl⟩ := inb_t (by omega) g
      have hC : ∀ r M', gX12_rules_b36 M4 (J k) = some (r, M') → gX12_rules M x1 (J k) = some (r, M') := by
        intro r M' hr
        unfold gX12_rules
        rw [wb1, e1, wb2, if_neg hn0, hi3, g, wb1, if_neg (show ¬ bJ true = 0 by decide), hr]
      rcases (show k = 0 ∨ k = 1 ∨ k = 2 ∨ k = 3 by omega) with rfl | rfl | rfl | rfl
      · refine ⟨J (cnt (fit l) 64), M4, ?_, hC _ _ ?_, e2⟩
        · unfold fX11_rules
          rw [hck, zgd_t, v1, wb1, wms, if_pos (show J 0 = 0 from rfl), eX3_fits h3, C_fits hl hL, wb1]
        · unfold gX12_rules_b36
          rw [hrl, wb2, if_neg (by decide), if_pos (show J 0 = 0 from rfl), wb1]
      · refine ⟨J (mis l (amin (mis l) 63)), M4, ?_, hC _ _ ?_, e2⟩
        · unfold fX11_rules
          rw [hck, zgd_t, v1, wb1, wms, if_neg (by decide), if_pos (show J 1 = 1 from rfl), eX3_bestRule h3, C_bestRule hl hL, wb1, eX3_misses h3, C_misses hl hL (by omega), wb1]
        · unfold gX12_rules_b36
          rw [hrl, wb2, if_neg (by decide), if_neg (by decide), if_pos (show J 1 = 1 from rfl), R_wrongs e3 hL (by omega), wb1, wb1]
      · refine ⟨J (amin (mis l) 63), M4, ?_, hC _ _ ?_, e2⟩
        · unfold fX11_rules
          rw [hck, zgd_t, v1, wb1, wms, if_neg (by decide), if_neg (by decide), if_pos (show J 2 = 2 from rfl), eX3_bestRule h3, C_bestRule hl hL, wb1]
        · unfold gX12_rules_b36
          rw [hrl, wb2, if_neg (by decide), if_neg (by decide), if_neg (by decide), wb1]
      · have hA : fX11_rules (cmem (mdl ν (X + 95) M) sh U) X x1 (J 3) = some (oJ (if cnt (fit l) 64 = 0 then none else some (amin (fun w => mxg l w 8) 7))) := by
          unfold fX11_rules
          rw [hck, zgd_t, v1, wb1, wms, if_neg (by decide), if_neg (by decide), if_neg (by decide), if_pos (show J 3 = 3 from rfl), eX3_wordToCall h3, C_wordToCall hl hL, wb1]
        by_cases c0 : cnt (fit l) 64 = 0
        · rw [if_pos c0] at hA
          refine ⟨_, M4, hA, hC _ _ ?_, e2⟩
          unfold gX12_rules_b36
          rw [hrl, wb2, if_pos (by decide), if_pos (show J (cnt (fit l) 64) = 0 by rw [c0]; rfl)]; rfl
        · rw [if_neg c0] at hA
          obtain ⟨M5, t1, -, t2⟩ := R_call e3 hL
          have t1 : zf3 gX12_rules_l155 zfu 0 1 M4 = some (J (amin (fun w => mxg l w 8) 7), M5) := t1
          refine ⟨_, M5, hA, hC _ _ ?_, Msame_t e2 t2⟩
          unfold gX12_rules_b36
          rw [hrl, wb2, if_pos (by decide), if_neg (show ¬ J (cnt (fit l) 64) = 0 by rw [show (0 : Int32) = J 0 from rfl, J_eq (by omega) (by omega)]; exact c0), if_pos (by decide), t1, wb2]; rfl
    | false =>
      have hx0 : ∀ k, k < 4 → ¬ x2 = J k := fun k hk z => by rw [z, inb_J (by omega) (by omega)] at g; exact absurd hk (of_decide_eq_false g)
      have hA : ∀ r, (zb1 (fX11_isWord (cmem (mdl ν (X + 95) M) sh U) (x2 - 10)) fun v19 => zb1 (if v19 = 0 then (some (-2)) else (zb1 (fX3_surelyComes (cmem (mdl ν (X + 95) M) sh U) a (x2 - 10)) fun v23 => some v23) : Option (Int32)) fun (s20 : Int32) => some s20) = some r → fX11_rules (cmem (mdl ν (X + 95) M) sh U) X x1 x2 = some r := by
        intro r hr
        unfold fX11_rules
        rw [hck, zgd_t, v1, wb1, wms, if_neg (show ¬ x2 = 0 from hx0 0 (by omega)), if_neg (show ¬ x2 = 1 from hx0 1 (by omega)), if_neg (show ¬ x2 = 2 from hx0 2 (by omega)), if_neg (show ¬ x2 = 3 from hx0 3 (by omega))]
        exact hr
      have hi2 : gX12_in x2 10 17 = some (bJ (inb 8 (x2 - 10))) := by rw [R_in, inb8]
      cases g2 : inb 8 (x2 - 10) with
      | false =>
        refine ⟨-2, M4, hA _ (by rw [G_word, g2, wb1, if_pos (show bJ false = 0 from rfl), wb1]), ?_, e2⟩
        unfold gX12_rules
        rw [wb1, e1, wb2, if_neg hn0, hi3, g, wb1, if_pos (show bJ false = 0 from rfl), hi2, g2, wb1, if_pos (show bJ false = 0 from rfl)]
      | true =>
        obtain ⟨w, hw, hw2⟩ := inb_t (by omega) g2
        have hC : ∀ r M', gX12_rules_b36 M4 x2 = some (r, M') → gX12_rules M x1 x2 = some (r, M') := by
          intro r M' hr
          unfold gX12_rules
          rw [wb1, e1, wb2, if_neg hn0, hi3, g, wb1, if_pos (show bJ false = 0 from rfl), hi2, g2, wb1, if_neg (show ¬ bJ true = 0 by decide), hr]
        have hA2 := hA (oJ (sur l w)) (by rw [G_word, g2, wb1, if_neg (show ¬ bJ true = 0 by decide), hw2, eX3_surelyComes h3, C_surelyComes hl hL hw, wb1, wb1])
        rw [inb8] at g2
        have hge := (of_decide_eq_true g2).1
        have h3le : (3 : Int32) ≤ x2 := by
          rw [Int32.lt_iff_toInt_lt, show (10 : Int32).toInt = 10 from rfl] at hge
          rw [Int32.le_iff_toInt_le, show (3 : Int32).toInt = 3 from rfl]; omega
        have h3nl : ¬ x2 ≤ (3 : Int32) := by
          rw [Int32.lt_iff_toInt_lt, show (10 : Int32).toInt = 10 from rfl] at hge
          rw [Int32.le_iff_toInt_le, show (3 : Int32).toInt = 3 from rfl]; omega
        by_cases c0 : cnt (fit l) 64 = 0
        · rw [sur_0 c0] at hA2
          refine ⟨_, M4, hA2, hC _ _ ?_, e2⟩
          unfold gX12_rules_b36
          rw [hrl, wb2, if_pos h3le, if_pos (show J (cnt (fit l) 64) = 0 by rw [c0]; rfl)]; rfl
        · obtain ⟨M5, t1, t2⟩ := R_comesOf e3 hL hw c0
          refine ⟨_, M5, hA2, hC _ _ ?_, Msame_t e2 t2⟩
          unfold gX12_rules_b36
          rw [hrl, wb2, if_pos h3le, if_neg (show ¬ J (cnt (fit l) 64) = 0 by rw [show (0 : Int32) = J 0 from rfl, J_eq (by omega) (by omega)]; exact c0), if_neg h3nl, hw2, t1, wb2]
theorem T_matched {X : Nat} {ν : zM} {sh : Nat → Nat} {U : zCS} {M : zMS} (h : WSt X ν sh U M) (x1 x2 : Int32) : OKc X (fX11_matched (mm X ν sh U M) X x1 x2) (fun μ => fX12_matched μ (X + 95) x1 x2) := by
  refine OKc_q (g := fun m => gX12_matched m x1 x2) h (fun ν' m => eX12_matched) ?_
  have hX := h.1.1
  have hck : zm_ck (mm X ν sh U M) 11 X = true := ck_X11 hX
  rcases V_at h x1 with ⟨n1, n2⟩ | ⟨a, v, v1, h9, hv, hV, l1, l2, hm⟩
  · obtain ⟨M4, e1, e2⟩ := n2 (zsI M 0 (J 0)) Msame_I
    have e1 : gX12_hand (zsI M 0 0) x1 = some (0, M4) := e1
    exact ⟨-1, U, M4, by unfold fX11_matched; rw [hck, zgd_t, n1, wb1, wmn], by unfold gX12_matched; rw [wb1, e1, wb2, if_pos rfl], Ufr_r, e2⟩
  · obtain ⟨M4, e1, e2, e3, -⟩ := hm (zsI M 0 (J 0)) Msame_I
    have hb1 : (v 1 : Nat) ≤ 6 := hV.2.2.1
    unfold mm at v1 hck ⊢
    cases g : inb (v 1) x2 with
    | false => exact ⟨NN, U, M4, by unfold fX11_matched; rw [hck, zgd_t, v1, wb1, wms, G_person h9 hv, g, wb1, if_pos (show bJ false = 0 from rfl)]; rfl, R_matched0 e1 e2 hV g, Ufr_r, e3⟩
    | true =>
      obtain ⟨k, hk, rfl⟩ := inb_t (by omega) g
      obtain ⟨U2, ak, w, c1, c2, c3, c4, c5⟩ := C_match (e := X + 91) hv hV (fun j hj => by omega)
      obtain ⟨M5, ak', w', r1, r2, -, r4, r5⟩ := R_matched1 e1 e2 hV hk
      have hww : w k = w' k := wR_same knd_d (fun x i j hi hj => wK_i x i j (by omega) (by omega)) c4 r4 c5 r5 k
      refine ⟨oJ (w k), U2, M5, ?_, by rw [hww]; exact r1, Ufr_m c2 (fun q hq => ⟨by omega, by omega⟩), Msame_t e3 r2⟩
      unfold fX11_matched
      rw [hck, zgd_t, v1, wb1, wms, G_person h9 hv, g, wb1, if_neg (show ¬ bJ true = 0 by decide), cgr_X11_6 hX, wb1, eX0_match (isX11_91 hX) h9, c1, zmap_some, wb1, cgr_X11_6 hX, wb1, cgr_X0_1 (isX11_91 hX), wb1, ca_1006 (isX0_2 (isX11_91 hX)), zag_J (by omega) (by omega), (c3 k (by omega)).1, wb1]
