/-! the call that makes an image -/
theorem wc1x {A R : Type} {x0 : A} {f : A → Option R} : zc1 (some x0) f = f x0 := (rfl)
theorem T_image {X : Nat} {ν : zM} {sh : Nat → Nat} {U : zCS} {M : zMS} (h : WSt X ν sh U M) (x1 : Int32) : OKc X (fX11_image (mm X ν sh U M) X x1) (fun μ => fX12_image μ (X + 95) x1) := by
  have hX := h.1.1
  have h7 := isX11_1 hX
  have hck : zm_ck (mm X ν sh U M) 11 X = true := ck_X11 hX
  have hi : gX12_in x1 0 2 = some (bJ (inb 3 x1)) := R_inX (n := 2) (by omega) x1
  cases g : inb 3 x1 with
  | false =>
    refine OKc_w (g := fun m => gX12_image m x1) h (fun ν' m => eX12_image) ⟨0, U, zsI M 0 0, ?_, by unfold gX12_image; rw [wb1, hi, g, wb1, if_pos (show bJ false = 0 from rfl)], h.2.1, h.2.2⟩
    unfold fX11_image
    rw [hck, zgd_t]
    obtain ⟨k, hk, rfl⟩ | hx := J_all x1
    · rw [inb_J (by omega) hk] at g
      have := of_decide_eq_false g
      rw [if_neg (show ¬ J k < 0 by rw [show (0 : Int32) = J 0 from rfl, J_lt hk (by omega)]; omega), if_neg (show ¬ J k < (3 : Int32) by rw [show (3 : Int32) = J 3 from rfl, J_lt hk (by omega)]; omega)]
    · rw [if_pos (show x1 < 0 from hx)]
  | true =>
    obtain ⟨k, hk, rfl⟩ := inb_t (by omega) g
    have c0 : ¬ J k < 0 := by rw [show (0 : Int32) = J 0 from rfl, J_lt (by omega) (by omega)]; omega
    have c3 : J k < (3 : Int32) := by rw [show (3 : Int32) = J 3 from rfl, J_lt (by omega) (by omega)]; omega
    have hq : ∀ (ν' : zM) (sh' : Nat → Nat) (V : zCS), isX11 sh' X → zm_aQ (mm X ν' sh' V M) 3 (X + 54) (J k) = some (V.2.2 k) := fun ν' sh' V z => cq_9003 (isX11_54 z) hk
    have hG : ∀ r, (zb1 (gX12_copyAll (zsI M 0 0) 0 (J k + 1)) fun M6 => zb1 (zas 3 (M6.2.2 53) (J k) (vp_nar .boolean 1)) fun f9 => zb1 (some (zsA M6 53 f9)) fun M9 => some ((1 : Int32), M9)) = r → gX12_image M (J k) = r := by
      intro r hr
      unfold gX12_image
      rw [wb1, hi, g, wb1, if_neg (show ¬ bJ true = 0 by decide)]
      exact hr
    rcases h.2.2 k hk with ⟨z1, z2⟩ | ⟨b, z1, z2, z3, z4, z5, z6, z7⟩
    · have h' := im_ws h
      have hs7 : isX7 (shz s7 ν.2.1 sh) ν.2.1 := isX7_z
      obtain ⟨U2, hU2⟩ : ∃ V, V = csQ (UI ν.2.1 U) (va_up U.2.2 k (some ν.2.1)) := ⟨_, rfl⟩
      have hT2 : TR U2 (X + 1) M 0 := by rw [hU2]; exact h'.2.1
      have hk2 : U2.2.2 k = some ν.2.1 := by rw [hU2]; show va_up U.2.2 k (some ν.2.1) k = _; unfold va_up; rw [if_pos rfl]
      have hko : ∀ k', k' ≠ k → U2.2.2 k' = U.2.2 k' := fun k' hk' => by rw [hU2]; show va_up U.2.2 k (some ν.2.1) k' = _; unfold va_up; rw [if_neg hk']
      have hB := h.1.2.2.2.2.2.2.1
      obtain ⟨U3, M3, f1, f2, f3, f4⟩ := T_imgC (X := X) (ν := (ν.1, ν.2.1 + 53, ν.2.2)) (U := U2) (M := M) h'.1 hT2 (k := k) (b := ν.2.1) hk hs7 hB (by show ν.2.1 + 52 < ν.2.1 + 53; omega) hk2 (fun k' h1 h2 => by
        rw [hko k' h2]
        rcases h.2.2 k' h1 with y | ⟨b', y1, y2, y3, y4, y5, y6, y7⟩
        · exact .inl y
        · rcases h'.2.2 k' h1 with ⟨w1, -⟩ | ⟨b'', w1, -, w3, -, w5, w6, -⟩
          · have w1 : U.2.2 k' = none := w1
            rw [y1] at w1; cases w1
          · have w1 : U.2.2 k' = some b'' := w1
            rw [y1] at w1
            obtain rfl := Option.some.inj w1
            refine .inr ⟨b', y1, y2, w3, y4, w5, by rw [hU2]; exact w6, .inr y5, fun k'' p1 p2 b'' p3 => ?_⟩
            by_cases ck : k'' = k
            · subst ck
              rw [hk2] at p3
              obtain rfl := Option.some.inj p3
              exact .inl y5
            · rw [hko k'' ck] at p3
              exact y7 k'' p1 p2 b'' p3)
      refine OKc_w (g := fun m => gX12_image m (J k)) h' (fun ν' m => eX12_image) ⟨1, U3, M3, ?_, hG _ f2, f3, f4⟩
      have hi7 : fX7_init (zm_nw (mm X ν sh U M) (.inr (7, [.null, .int 0, .int 0, .int 0, .null, .null, .null, .null, .null]))) (mm X ν sh U M).2.1 = some (mm X (ν.1, ν.2.1 + 53, ν.2.2) (shz s7 ν.2.1 sh) (UI ν.2.1 U) M) := by
        rw [al_1, ← im_mm h.1]
        exact F7 (mm X ν sh U M)
      have hsq : zm_sQ (mm X (ν.1, ν.2.1 + 53, ν.2.2) (shz s7 ν.2.1 sh) (UI ν.2.1 U) M) 3 7 (X + 54) (J k) (mm X ν sh U M).2.1 = some (mm X (ν.1, ν.2.1 + 53, ν.2.2) (shz s7 ν.2.1 sh) U2 M) := by
        rw [hU2]
        exact csq_9003 (isX11_54 h'.1.1) h'.1.2.2.2.2.2.2.2.2 hk (ck_X7 hs7)
      unfold fX11_image
      rw [hck, zgd_t, if_neg c0, if_pos c3, show zm_gR (mm X ν sh U M) 11 X 1 = some (X + 54) from cgr_X11_1 hX, wb1, hq _ _ _ hX, z1, wb1, wmn, wb1, wb1, hi7, wb1, hsq, wb1, wc1x, show zm_gR (mm X (ν.1, ν.2.1 + 53, ν.2.2) (shz s7 ν.2.1 sh) U2 M) 11 X 1 = some (X + 54) from cgr_X11_1 h'.1.1, wb1, hq _ _ _ h'.1.1, hk2, wb1, show zm_gR (mm X (ν.1, ν.2.1 + 53, ν.2.2) (shz s7 ν.2.1 sh) U2 M) 11 X 0 = some (X + 1) from cgr_X11_0 h'.1.1, wb1, wb1, f1, wb1]
    · obtain ⟨U3, M3, f1, f2, f3, f4⟩ := T_imgC (M := M) h.1 h.2.1 (k := k) (b := b) hk z3 z4 z5 z1 (fun k' h1 h2 => by
        rcases h.2.2 k' h1 with y | ⟨b', y1, y2, y3, y4, y5, y6, y7⟩
        · exact .inl y
        · exact .inr ⟨b', y1, y2, y3, y4, y5, y6, z7 k' h1 h2 b' y1, y7⟩)
      refine OKc_w (g := fun m => gX12_image m (J k)) h (fun ν' m => eX12_image) ⟨1, U3, M3, ?_, hG _ f2, f3, f4⟩
      unfold fX11_image
      rw [hck, zgd_t, if_neg c0, if_pos c3, show zm_gR (mm X ν sh U M) 11 X 1 = some (X + 54) from cgr_X11_1 hX, wb1, hq _ _ _ hX, z1, wb1, wms, wc1x, show zm_gR (mm X ν sh U M) 11 X 1 = some (X + 54) from cgr_X11_1 hX, wb1, hq _ _ _ hX, z1, wb1, show zm_gR (mm X ν sh U M) 11 X 0 = some (X + 1) from cgr_X11_0 hX, wb1, wb1, f1, wb1]
