/-! the calls that write: fault, count, feed, end -/
theorem TR_hd {U U' : zCS} {M M' : zMS} {a : Nat} {A : Nat → Prop} {c : Nat → Nat} {vs ds ls ss : Nat → zV} (hT : TRc U a M 0 c vs ds ls ss) (hU : Ufr U U' A) (hA : ∀ j, 2 ≤ j → j ≤ 52 → ¬ A (a + j)) (hM : ∀ j, 5 ≤ j → j ≤ 9 → M'.2.2 j = M.2.2 j) (h1 : tpR U' a M' 0) (h2 : ∃ n, n ≤ 600 ∧ U'.1 a 1 = J n ∧ M'.2.2 2 0 = J n) (h3 : M'.2.2 3 0 = U'.1 a 2) (h4 : M'.2.2 4 0 = U'.1 a 3) : TRc U' a M' 0 c vs ds ls ss := by
  obtain ⟨-, -, -, -, t5, t6, t7, t8, t9⟩ := hT
  have c0 := (t5 0 (by omega)).1
  have c1 := (t5 1 (by omega)).1
  have c2 := (t5 2 (by omega)).1
  have c3 := (t5 3 (by omega)).1
  refine ⟨h1, h2, h3, h4, fun s hs => ?_, fun k hk => ?_, fun k hk => ?_, fun k hk => ?_, fun k hk => ?_⟩
  · obtain ⟨q1, q2, q3⟩ := t5 s hs
    exact ⟨q1, by rw [(hU.1 (a + 2) (hA 2 (by omega) (by omega))).2]; exact q2, by rw [hM 5 (by omega) (by omega)]; exact q3⟩
  · obtain ⟨q1, q2, q3⟩ := t6 k hk
    exact ⟨isVal_C q2 q1 (CC_F hU (fun j hj => by rw [show a + 4 + 11 * k + j = a + (4 + 11 * k + j) by omega]; exact hA _ (by omega) (by omega))), q2, by rw [hM 6 (by omega) (by omega)]; exact q3⟩
  · obtain ⟨q1, q2, q3⟩ := t7 k hk
    exact ⟨isDay_C q2 q1 (CC_F hU (fun j hj => by rw [show a + 27 + 4 * k + j = a + (27 + 4 * k + j) by omega]; exact hA _ (by omega) (by omega))), q2, by rw [hM 7 (by omega) (by omega)]; exact q3⟩
  · obtain ⟨q1, q2, q3⟩ := t8 k hk
    exact ⟨isLe_C q2 q1 (CC_F hU (fun j hj => by rw [show a + 36 + 3 * k + j = a + (36 + 3 * k + j) by omega]; exact hA _ (by omega) (by omega))), q2, by rw [hM 8 (by omega) (by omega)]; exact q3⟩
  · obtain ⟨q1, q2, q3⟩ := t9 k hk
    exact ⟨isSi_C q2 q1 (CC_F hU (fun j hj => by rw [show a + 43 + 5 * k + j = a + (43 + 5 * k + j) by omega]; exact hA _ (by omega) (by omega))), q2, by rw [hM 9 (by omega) (by omega)]; exact q3⟩
theorem IMG_k {X : Nat} {ν : zM} {sh : Nat → Nat} {U U' : zCS} {M M' : zMS} {A : Nat → Prop} (h : IMG X ν sh U M) (hU : Ufr U U' A) (hA : ∀ q, X + 123 ≤ q → ¬ A q) (h53 : M'.2.2 53 = M.2.2 53) (hM : ∀ y, 1 ≤ y → MC M y M' y) : IMG X ν sh U' M' := by
  intro k hk
  rw [hU.2, h53]
  rcases h k hk with z | ⟨b, z1, z2, z3, z4, z5, z6, z7⟩
  · exact .inl z
  · exact .inr ⟨b, z1, z2, z3, z4, z5, TR_tr z6 (TC_F hU (fun j hj => hA _ (by omega))) (hM _ (by omega)), z7⟩
theorem OKc_w {R : Type} {X : Nat} {ν : zM} {sh : Nat → Nat} {U : zCS} {M : zMS} {A : Option (R × zM)} {B : zM → Option (R × zM)} {g : zMS → Option (R × zMS)} (h : WSt X ν sh U M) (hB : ∀ ν' m, B (mdl ν' (X + 95) m) = Option.map (zq2 (mdl ν' (X + 95))) (g m)) (hA : ∃ v U' M', A = some (v, mm X ν sh U' M) ∧ g M = some (v, M') ∧ TR U' (X + 1) M' 0 ∧ IMG X ν sh U' M') : OKc X A B := by
  obtain ⟨v, U', M', a1, a2, a3, a4⟩ := hA
  refine ⟨v, _, mdl (cmem ν sh U') (X + 95) M', a1, ?_, ν, sh, U', M', (mm_sw h.1).symm, h.1, a3, a4⟩
  rw [mm_sw h.1, hB, a2]; rfl
theorem T_fault {X : Nat} {ν : zM} {sh : Nat → Nat} {U : zCS} {M : zMS} (h : WSt X ν sh U M) (x1 : Int32) : OKq X (mm X ν sh U M) (fX11_fault (mm X ν sh U M) X x1) (fun μ => fX12_fault μ (X + 95) x1) := by
  refine OKq_q (g := fun m => gX12_fault m x1) h (fun ν' m => eX12_fault) ?_
  have hX := h.1.1
  have h7 := isX11_1 hX
  obtain ⟨c, vs, ds, ls, ss, hT⟩ := h.2.1
  have h3 := hT.2.2.1
  have h4 := hT.2.2.2.1
  have hck : zm_ck (mm X ν sh U M) 11 X = true := ck_X11 hX
  unfold mm at hck ⊢
  by_cases c0 : x1 = 0
  · refine ⟨U.1 (X + 1) 2, zsI M 0 0, ?_, ?_, Msame_I⟩
    · unfold fX11_fault
      rw [hck, zgd_t, if_pos c0, cgr_X11_0 hX, wb1, cgr_X7_2 h7, wb1]
    · unfold gX12_fault
      rw [wb1, if_pos c0, show zag 4 ((zsI M 0 0).2.2 3) 0 = some (U.1 (X + 1) 2) by rw [show (0 : Int32) = J 0 from rfl, zag_J (by omega) (by omega), zsI_a, h3], wb1, wb1]
  · by_cases c1 : x1 = 1
    · refine ⟨U.1 (X + 1) 3, zsI M 0 0, ?_, ?_, Msame_I⟩
      · unfold fX11_fault
        rw [hck, zgd_t, if_neg c0, if_pos c1, cgr_X11_0 hX, wb1, cgr_X7_3 h7, wb1, wb1]
      · unfold gX12_fault
        rw [wb1, if_neg c0, if_pos c1, show zag 4 ((zsI M 0 0).2.2 4) 0 = some (U.1 (X + 1) 3) by rw [show (0 : Int32) = J 0 from rfl, zag_J (by omega) (by omega), zsI_a, h4], wb1, wb1]
    · exact ⟨-1, zsI M 0 0, by unfold fX11_fault; rw [hck, zgd_t, if_neg c0, if_neg c1, wb1], by unfold gX12_fault; rw [wb1, if_neg c0, if_neg c1, wb1], Msame_I⟩
theorem T_count {X : Nat} {ν : zM} {sh : Nat → Nat} {U : zCS} {M : zMS} (h : WSt X ν sh U M) (x1 : Int32) : OKq X (mm X ν sh U M) (fX11_count (mm X ν sh U M) X x1) (fun μ => fX12_count μ (X + 95) x1) := by
  refine OKq_q (g := fun m => gX12_count m x1) h (fun ν' m => eX12_count) ?_
  have hX := h.1.1
  have h7 := isX11_1 hX
  obtain ⟨c, vs, ds, ls, ss, hT⟩ := h.2.1
  have hck : zm_ck (mm X ν sh U M) 11 X = true := ck_X11 hX
  unfold mm at hck ⊢
  have hi : gX12_in x1 0 3 = some (bJ (inb 4 x1)) := R_inX (n := 3) (by omega) x1
  cases g : inb 4 x1 with
  | false =>
    refine ⟨-2, zsI M 0 0, ?_, by unfold gX12_count; rw [wb1, hi, g, wb1, if_pos (show bJ false = 0 from rfl), wb1], Msame_I⟩
    unfold fX11_count
    rw [hck, zgd_t]
    obtain ⟨k, hk, rfl⟩ | hx := J_all x1
    · rw [inb_J (by omega) hk] at g
      have := of_decide_eq_false g
      rw [if_neg (show ¬ J k < 0 by rw [show (0 : Int32) = J 0 from rfl, J_lt hk (by omega)]; omega), if_neg (show ¬ J k < 4 by rw [show (4 : Int32) = J 4 from rfl, J_lt hk (by omega)]; omega), wb1]
    · rw [if_pos (show x1 < 0 from hx), wb1]
  | true =>
    obtain ⟨k, hk, rfl⟩ := inb_t (by omega) g
    obtain ⟨q1, q2, q3⟩ := hT.2.2.2.2.1 k hk
    rw [Nat.mul_zero, Nat.zero_add] at q3
    refine ⟨J (c k), zsI M 0 0, ?_, ?_, Msame_I⟩
    · unfold fX11_count
      rw [hck, zgd_t, if_neg (show ¬ J k < 0 by rw [show (0 : Int32) = J 0 from rfl, J_lt (by omega) (by omega)]; omega), if_pos (show J k < 4 by rw [show (4 : Int32) = J 4 from rfl, J_lt (by omega) (by omega)]; omega), cgr_X11_0 hX, wb1, cgr_X7_4 h7, wb1, ca_1004 (isX7_2 h7), zag_J (by omega) (by omega), q2, wb1, wb1]
    · unfold gX12_count
      rw [wb1, hi, g, wb1, if_neg (show ¬ bJ true = 0 by decide), zag_J (by omega) (by omega), zsI_a, q3, wb1, wb1]
theorem Ufd_F {U U' : zCS} {a : Nat} (h : Ufd U U' a) : Ufr U U' (fun q => q = a ∨ q = a + 1) := ⟨fun q hq => ⟨funext fun j => h.1 q j (.inl (fun z => hq (.inl z))), h.2.1 q (fun z => hq (.inr z))⟩, h.2.2⟩
theorem MC_h {M M' : zMS} (h1 : ∀ q, 600 ≤ q → M'.2.2 1 q = M.2.2 1 q) (h2 : ∀ j q, 2 ≤ j → j ≤ 4 → q ≠ 0 → M'.2.2 j q = M.2.2 j q) (h3 : ∀ j, 5 ≤ j → j ≤ 9 → M'.2.2 j = M.2.2 j) : ∀ y, 1 ≤ y → MC M y M' y := fun y hy => ⟨fun k _ => h1 _ (by omega), h2 2 y (by omega) (by omega) (by omega), h2 3 y (by omega) (by omega) (by omega), h2 4 y (by omega) (by omega) (by omega), fun k _ => by rw [h3 5 (by omega) (by omega)], fun k _ => by rw [h3 6 (by omega) (by omega)], fun k _ => by rw [h3 7 (by omega) (by omega)], fun k _ => by rw [h3 8 (by omega) (by omega)], fun k _ => by rw [h3 9 (by omega) (by omega)]⟩
theorem T_feed {X : Nat} {ν : zM} {sh : Nat → Nat} {U : zCS} {M : zMS} (h : WSt X ν sh U M) (x1 x2 x3 x4 x5 : Int32) : OKc X (fX11_feed (mm X ν sh U M) X x1 x2 x3 x4 x5) (fun μ => fX12_feed μ (X + 95) x1 x2 x3 x4 x5) := by
  refine OKc_w (g := fun m => gX12_feed m x1 x2 x3 x4 x5) h (fun ν' m => eX12_feed) ?_
  have hX := h.1.1
  have h7 := isX11_1 hX
  obtain ⟨c, vs, ds, ls, ss, hT⟩ := h.2.1
  obtain ⟨n, hn, hU, hM⟩ := hT.2.1
  have hck : zm_ck (mm X ν sh U M) 11 X = true := ck_X11 hX
  unfold mm at hck ⊢
  have hz : zag 4 ((zsI M 0 0).2.2 2) 0 = some (J n) := by rw [show (0 : Int32) = J 0 from rfl, zag_J (by omega) (by omega), zsI_a, hM]
  by_cases cn : n + 20 ≤ 600
  · have c20 : J n + 20 ≤ 600 := by
      show J n + J 20 ≤ J 600
      rw [J_add, J_le (by omega) (by omega)]; exact cn
    obtain ⟨U1, M1, a1, a2, a3, a4, a5, a6, a7⟩ := J_put (U := U) (M := zsI M 0 0) (x := x1) hT.1 hU hM (by omega)
    obtain ⟨U2, M2, b1, b2, b3, b4, b5, b6, b7⟩ := J_put (x := x2) a3 a4 a5 (by omega)
    obtain ⟨U3, M3, c1, c2, c3, c4, c5, c6, c7⟩ := J_put (x := x3) b3 b4 b5 (by omega)
    obtain ⟨U4, M4, d1, d2, d3, d4, d5, d6, d7⟩ := J_put (x := x4) c3 c4 c5 (by omega)
    obtain ⟨U5, M5, e1, e2, e3, e4, e5, e6, e7⟩ := J_put (x := x5) d3 d4 d5 (by omega)
    have fU := Ufd_t (Ufd_t (Ufd_t (Ufd_t a6 b6) c6) d6) e6
    have fM := Mfd_t (Mfd_t (Mfd_t (Mfd_t a7 b7) c7) d7) e7
    refine ⟨J (n + 4 + 4 + 4 + 4 + 4), U5, M5, ?_, ?_, ⟨c, vs, ds, ls, ss, TR_hd hT (Ufd_F fU) (fun j h1 h2 z => by omega) (fun j h1 h2 => by rw [fM.2.2.1 j (by omega) (by omega), zsI_a]) e3 ⟨_, by omega, e4, e5⟩ ?_ ?_⟩, IMG_k h.2.2 (Ufd_F fU) (fun q hq z => by omega) (by rw [fM.2.2.1 53 (by omega) (by omega), zsI_a]) (MC_h (fun q hq => by rw [fM.2.2.2.1 q hq, zsI_a]) (fun j q h1 h2 h3 => ?_) (fun j h1 h2 => by rw [fM.2.2.1 j (by omega) (by omega), zsI_a]))⟩
    · unfold fX11_feed
      rw [hck, zgd_t, cgr_X11_0 hX, wb1, cgr_X7_1 h7, wb1, hU, if_pos c20, wb1, eX7_put h7, a1, zmap_some, wb1, cgr_X11_0 hX, wb1, eX7_put h7, b1, zmap_some, wb1, cgr_X11_0 hX, wb1, eX7_put h7, c1, zmap_some, wb1, cgr_X11_0 hX, wb1, eX7_put h7, d1, zmap_some, wb1, cgr_X11_0 hX, wb1, eX7_put h7, e1, zmap_some, wb1, cgr_X11_0 hX, wb1, cgr_X7_1 h7, wb1, e4]
    · unfold gX12_feed
      rw [wb1, hz, wb1, if_pos c20, a2, wb1, b2, wb1, c2, wb1, d2, wb1, e2, wb1, show zag 4 (M5.2.2 2) 0 = some (J (n + 4 + 4 + 4 + 4 + 4)) by rw [show (0 : Int32) = J 0 from rfl, zag_J (by omega) (by omega), e5], wb1]
    · rw [fM.2.2.1 3 (by omega) (by omega), zsI_a, fU.1 _ _ (.inr (by omega))]; exact hT.2.2.1
    · rw [fM.2.2.1 4 (by omega) (by omega), zsI_a, fU.1 _ _ (.inr (by omega))]; exact hT.2.2.2.1
    · by_cases cj : j = 2
      · rw [cj, fM.2.2.2.2 q h3, zsI_a]
      · rw [fM.2.2.1 j (by omega) cj, zsI_a]
  · have c20 : ¬ J n + 20 ≤ 600 := by
      show ¬ J n + J 20 ≤ J 600
      rw [J_add, J_le (by omega) (by omega)]; exact cn
    refine ⟨-1, U, zsI M 0 0, ?_, ?_, h.2.1, h.2.2⟩
    · unfold fX11_feed
      rw [hck, zgd_t, cgr_X11_0 hX, wb1, cgr_X7_1 h7, wb1, hU, if_neg c20]
    · unfold gX12_feed
      rw [wb1, hz, wb1, if_neg c20]
theorem T_end {X : Nat} {ν : zM} {sh : Nat → Nat} {U : zCS} {M : zMS} (h : WSt X ν sh U M) (x1 : Int32) : OKc X (fX11_end (mm X ν sh U M) X x1) (fun μ => fX12_end μ (X + 95) x1) := by
  refine OKc_w (g := fun m => gX12_end m x1) h (fun ν' m => eX12_end) ?_
  have hX := h.1.1
  have h7 := isX11_1 hX
  obtain ⟨c, vs, ds, ls, ss, hT⟩ := h.2.1
  obtain ⟨n, hn, hU, hM⟩ := hT.2.1
  have hck : zm_ck (mm X ν sh U M) 11 X = true := ck_X11 hX
  unfold mm at hck ⊢
  have hz : zag 4 ((zsI M 0 0).2.2 2) 0 = some (J n) := by rw [show (0 : Int32) = J 0 from rfl, zag_J (by omega) (by omega), zsI_a, hM]
  have hi : gX12_in x1 0 (J n) = some (bJ (inb (n + 1) x1)) := R_inX (by omega) x1
  cases g : inb (n + 1) x1 with
  | false =>
    refine ⟨-1, U, zsI M 0 0, ?_, by unfold gX12_end; rw [wb1, hz, wb1, hi, g, wb1, if_pos (show bJ false = 0 from rfl)], h.2.1, h.2.2⟩
    unfold fX11_end
    rw [hck, zgd_t]
    obtain ⟨k, hk, rfl⟩ | hx := J_all x1
    · rw [inb_J (by omega) hk] at g
      have := of_decide_eq_false g
      rw [if_neg (show ¬ J k < 0 by rw [show (0 : Int32) = J 0 from rfl, J_lt hk (by omega)]; omega), cgr_X11_0 hX, wb1, cgr_X7_1 h7, wb1, hU, if_neg (show ¬ J k ≤ J n by rw [J_le hk (by omega)]; omega)]
    · rw [if_pos (show x1 < 0 from hx)]
  | true =>
    obtain ⟨k, hk, rfl⟩ := inb_t (by omega) g
    have hF : Ufr U (csI U (X + 1) 1 (J k)) (fun q => q = X + 1) := Ufr_I rfl
    have hm : ∀ j, j ≠ 2 → (zsA (zsI M 0 0) 2 (upd (M.2.2 2) 0 (J k))).2.2 j = M.2.2 j := fun j hj => by rw [zsA_o hj, zsI_a]
    refine ⟨J k, csI U (X + 1) 1 (J k), zsA (zsI M 0 0) 2 (upd (M.2.2 2) 0 (J k)), ?_, ?_, ⟨c, vs, ds, ls, ss, TR_hd hT hF (fun j h1 h2 z => by omega) (fun j h1 h2 => hm j (by omega)) (fun q hq => ?_) ⟨k, by omega, csI_1, by rw [zsA_1, upd_1]⟩ ?_ ?_⟩, IMG_k h.2.2 hF (fun q hq z => by omega) (hm 53 (by omega)) (MC_h (fun q hq => by rw [hm 1 (by omega)]) (fun j q h1 h2 h3 => ?_) (fun j h1 h2 => hm j (by omega)))⟩
    · unfold fX11_end
      rw [hck, zgd_t, if_neg (show ¬ J k < 0 by rw [show (0 : Int32) = J 0 from rfl, J_lt (by omega) (by omega)]; omega), cgr_X11_0 hX, wb1, cgr_X7_1 h7, wb1, hU, if_pos (show J k ≤ J n by rw [J_le (by omega) (by omega)]; omega), wb1, cpr_X7_1 h7, wb1]
    · unfold gX12_end
      rw [wb1, hz, wb1, hi, g, wb1, if_neg (show ¬ bJ true = 0 by decide), show zas 4 ((zsI M 0 0).2.2 2) 0 (J k) = some (upd (M.2.2 2) 0 (J k)) from zas_J (i := 0) (by omega) (by omega), wb1, wb1]
    · rw [hm 1 (by omega), csI_a]; exact hT.1 q hq
    · rw [hm 3 (by omega), csI_o2 (.inr (by omega))]; exact hT.2.2.1
    · rw [hm 4 (by omega), csI_o2 (.inr (by omega))]; exact hT.2.2.2.1
    · by_cases cj : j = 2
      · rw [cj, zsA_1, upd_o h3]
      · rw [hm j cj]
