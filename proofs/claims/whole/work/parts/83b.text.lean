/-! a text read and kept, both sides -/
theorem DRf_U {σ : Nat} {U U' : zCS} {M : zMS} {r : Nat} {A : Nat → Prop} (hU : Ufr U U' A) (hA : ∀ j, j ≤ 25 → ¬ A (r + j)) (h : DRf σ U M r) : DRf σ U' M r := by
  match σ, h with
  | 0, ⟨v, a1, a2, a3⟩ => exact ⟨v, a1, isVal_C a3 a2 (CC_F hU (fun j hj => by rw [show r + 1 + j = r + (1 + j) by omega]; exact hA _ (by omega))), a3⟩
  | 1, ⟨d, a1, a2, a3⟩ => exact ⟨d, a1, isDay_C a3 a2 (CC_F hU (fun j hj => by rw [show r + 12 + j = r + (12 + j) by omega]; exact hA _ (by omega))), a3⟩
  | 2, ⟨l, a1, a2, a3⟩ => exact ⟨l, a1, isLe_C a3 a2 (CC_F hU (fun j hj => by rw [show r + 16 + j = r + (16 + j) by omega]; exact hA _ (by omega))), a3⟩
  | _ + 3, ⟨s, a1, a2, a3⟩ => exact ⟨s, a1, isSi_C a3 a2 (CC_F hU (fun j hj => by rw [show r + 19 + j = r + (19 + j) by omega]; exact hA _ (by omega))), a3⟩
noncomputable def txtC (X : Nat) (m15 : zM) (v3 x1 v20 : Int32) : Option (Int32 × zM) :=
  zb1 (zm_gR m15 11 X 2) fun v21 =>
  zb1 (fX4_read m15 v21 v3 x1) fun m24 =>
  zb1 (zm_gR m24 11 X 0) fun v25 =>
  zb1 (zm_gR m24 11 X 2) fun v27 =>
  zb1 (zm_gI m24 4 v27 4) fun v29 =>
  zb1 (zm_p m24 7 v25 2 (.int v29)) fun m31 =>
  zb1 (zm_gR m31 11 X 0) fun v33 =>
  zb1 (zm_gR m31 11 X 2) fun v35 =>
  zb1 (zm_gI m31 4 v35 5) fun v37 =>
  zb1 (zm_p m31 7 v33 3 (.int v37)) fun m39 =>
  zb1 (zm_gR m39 11 X 0) fun v41 =>
  zb1 (zm_gI m39 7 v41 2) fun v43 =>
  if v43 = 0 then (
  zb1 (zm_gR m39 11 X 0) fun v45 =>
  zb1 (zm_gR m39 11 X 2) fun v47 =>
  zb1 (fX7_keep m39 v45 x1 v20 v47) fun m50 =>
  some (v20, m50))
  else (
  some ((-1), m39))
theorem J_textT {X : Nat} {ν ν0 : zM} {sh : Nat → Nat} {U : zCS} {M : zMS} {c : Nat → Nat} {vs ds ls ss : Nat → zV} (hX : isX11 sh X) (hst : stOk ν sh) (hx : txOk ν sh) (hT : TRc U (X + 1) M 0 c vs ds ls ss) (hI : IMG X ν0 sh U M) {n σ k : Nat} (hn : n ≤ 600) (h11 : M.1 11 = J n) (hσ : σ < 4) (hk : k < 2) {x2 : Int32} (hx2 : (x2 = NN ∧ k = c σ) ∨ (x2 = J k ∧ k < c σ)) :
    ∃ v U' M', txtC X (cmem ν sh U) (J n) (J σ) (J k) = some (v, cmem ν sh U') ∧ gX12_text_b75 M (J σ) x2 = some (v, M') ∧ TR U' (X + 1) M' 0 ∧ IMG X ν0 sh U' M' := by
  have h7 := isX11_1 hX
  have h4 := isX11_55 hX
  have hbq : ∀ q, q < 600 → bq (U.2.1 (X + 55 - 53) q) (bN (U.2.1 (X + 1 + 1) q)) := fun q hq => by
    rw [show X + 55 - 53 = X + 1 + 1 by omega]
    exact (isB_q (hT.1 q hq).1).1
  have hrow : tRow M (fun q => bN (U.2.1 (X + 1 + 1) q)) := fun q hq => by
    have h1 := (isB_q (hT.1 q hq).1).1
    have h2 := (hT.1 q hq).2
    rw [Nat.mul_zero, Nat.zero_add] at h2
    rw [h2]
    exact ⟨h1.2.1, h1.1⟩
  obtain ⟨U1, M1, F, P, r1, r2, r3, r4, r5, r6, r7, r8, r9, r10⟩ := J_read (ν := ν) (U := U) (M := M) (r := X + 55) (n := n) (σ := σ) h4 hst hx hσ hn hbq hrow h11
  obtain ⟨U3, hU3⟩ : ∃ V, V = csI (csI U1 (X + 1) 2 (J F)) (X + 1) 3 P := ⟨_, rfl⟩
  have f13 : Ufr U1 U3 (fun q => q = X + 1) := by rw [hU3]; exact Ufr_t (Ufr_I rfl) (Ufr_I rfl)
  have f03 : Ufr U U3 (fun q => q = X + 1 ∨ (X + 55 ≤ q ∧ q ≤ X + 80)) := Ufr_t (Ufr_m r4 (fun q hq => .inr ⟨hq.1, by have := hq.2; omega⟩)) (Ufr_m f13 (fun q hq => .inl hq))
  have g1 : U1.1 (X + 1) = U.1 (X + 1) := (r4.1 (X + 1) (fun z => by have := z.1; omega)).1
  have g2 : U1.2.1 (X + 1 + 1) = U.2.1 (X + 1 + 1) := (r4.1 (X + 1 + 1) (fun z => by have := z.1; omega)).2
  have e2 : U3.1 (X + 1) 2 = J F := by rw [hU3, csI_o2 (.inr (by omega)), csI_1]
  have e3 : U3.1 (X + 1) 3 = P := by rw [hU3, csI_1]
  have e1 : U3.1 (X + 1) 1 = U.1 (X + 1) 1 := by rw [hU3, csI_o2 (.inr (by omega)), csI_o2 (.inr (by omega)), g1]
  obtain ⟨n0, hn0, hs1, hs2⟩ := hT.2.1
  have hT3 : TRc U3 (X + 1) M1 0 c vs ds ls ss := TR_hd hT f03 (fun j h1 h2 z => by omega) (fun j h1 h2 => r5 j (by omega) (by omega) (.inl ⟨by omega, h2⟩)) (fun q hq => by
    rw [hU3, csI_a, csI_a, g2, r5 1 (by omega) (by omega) (.inl ⟨by omega, by omega⟩)]; exact hT.1 q hq) ⟨n0, hn0, e1.trans hs1, by rw [r5 2 (by omega) (by omega) (.inl ⟨by omega, by omega⟩)]; exact hs2⟩ (by rw [r6, upd_1, e2]) (by rw [r7, upd_1, e3])
  have hMC : ∀ y, 1 ≤ y → MC M y M1 y := MC_h (fun q hq => by rw [r5 1 (by omega) (by omega) (.inl ⟨by omega, by omega⟩)]) (fun j q h1 h2 h3 => by
    rcases (show j = 2 ∨ j = 3 ∨ j = 4 by omega) with rfl | rfl | rfl
    · rw [r5 2 (by omega) (by omega) (.inl ⟨by omega, by omega⟩)]
    · rw [r6, upd_o h3]
    · rw [r7, upd_o h3]) (fun j h1 h2 => r5 j (by omega) (by omega) (.inl ⟨by omega, h2⟩))
  have h53 : M1.2.2 53 = M.2.2 53 := r5 53 (by omega) (by omega) (.inr rfl)
  have hI3 : IMG X ν0 sh U3 M1 := IMG_k hI f03 (fun q hq z => by omega) h53 hMC
  have hC : txtC X (cmem ν sh U) (J n) (J σ) (J k) = if J F = 0 then (zb1 (fX7_keep (cmem ν sh U3) (X + 1) (J σ) (J k) (X + 55)) fun m50 => some (J k, m50)) else some ((-1), cmem ν sh U3) := by
    unfold txtC
    rw [cgr_X11_2 hX, wb1, r1, wb1, cgr_X11_0 hX, wb1, cgr_X11_2 hX, wb1, cgr_X4_4 h4, wb1, r8, cpr_X7_2 h7, wb1, cgr_X11_0 hX, wb1, cgr_X11_2 hX, wb1, cgr_X4_5 h4, wb1, csI_o2 (.inl (by omega)), r9, cpr_X7_3 h7, wb1, ← hU3, cgr_X11_0 hX, wb1, cgr_X7_2 h7, wb1, e2, wb1, cgr_X11_2 hX, wb1]
  by_cases cF : F = 0
  · have cF' : J F = 0 := by rw [cF]; rfl
    rw [decide_eq_true cF] at r2
    have hkc : k ≤ c σ := by rcases hx2 with z | z <;> omega
    obtain ⟨U5, M5, s1, s2, s3, s4, s5, s6, s7⟩ := J_keep (ν := ν) (U := U3) (M := M1) (a := X + 1) (r := X + 55) (σ := σ) (k := k) h7 h4 (by omega) hσ hk hkc hT3 (DRf_U f13 (fun j hj z => by omega) (r10 cF))
    have hcs := (hT3.2.2.2.2.1 σ hσ).2.2
    rw [Nat.mul_zero, Nat.zero_add] at hcs
    have hc2 := (hT3.2.2.2.2.1 σ hσ).1
    have hzg : zag 16 (M1.2.2 5) (J σ) = some (J (c σ)) := by rw [zag_J (by omega) (by omega), hcs]
    refine ⟨J k, U5, M5, ?_, ?_, s3, IMG_k hI3 s4 (fun q hq z => by have := z.2; omega) (s6 53 (by omega)) s5⟩
    · rw [hC, if_pos cF', s1, wb1]
    · unfold gX12_text_b75
      rw [r2, wb2, if_neg (show ¬ bJ true = 0 by decide)]
      rcases hx2 with ⟨z1, z2⟩ | ⟨z1, z2⟩
      · rw [if_pos (show x2 = -1 from z1), hzg, wb1, wb1, wb1, if_pos (show x2 = -1 from z1), wb1, show (J (c σ) + 1 : Int32) = J (c σ + 1) from J_add _ 1, zas_J (by omega) (by omega), wb1, wb1]
        rw [show max (c σ) (k + 1) = c σ + 1 by omega, z2] at s2
        rw [s2, wb1, z2]
      · rw [if_neg (show ¬ x2 = -1 by rw [z1]; exact J_m1 (by omega)), wb1, hzg, wb1, if_neg (show ¬ x2 = -1 by rw [z1]; exact J_m1 (by omega)), wb1, show (J (c σ) + 0 : Int32) = J (c σ + 0) from J_add _ 0, zas_J (by omega) (by omega), wb1, wb1]
        rw [show max (c σ) (k + 1) = c σ + 0 by omega] at s2
        rw [z1, s2, wb1]
  · have cF' : ¬ J F = 0 := by rw [show (0 : Int32) = J 0 from rfl, J_eq (by omega) (by omega)]; exact cF
    rw [decide_eq_false cF] at r2
    refine ⟨-1, U3, M1, by rw [hC, if_neg cF'], ?_, ⟨c, vs, ds, ls, ss, hT3⟩, hI3⟩
    unfold gX12_text_b75
    rw [r2, wb2, if_pos (show bJ false = 0 from rfl)]
theorem T_text {X : Nat} {ν : zM} {sh : Nat → Nat} {U : zCS} {M : zMS} (h : WSt X ν sh U M) (x1 x2 : Int32) : OKc X (fX11_text (mm X ν sh U M) X x1 x2) (fun μ => fX12_text μ (X + 95) x1 x2) := by
  refine OKc_w (g := fun m => gX12_text m x1 x2) h (fun ν' m => eX12_text) ?_
  have hX := h.1.1
  have h7 := isX11_1 hX
  obtain ⟨c, vs, ds, ls, ss, hT⟩ := h.2.1
  obtain ⟨n, hn, hU, hM⟩ := hT.2.1
  have hck : zm_ck (mm X ν sh U M) 11 X = true := ck_X11 hX
  have hst : stOk (mdl ν (X + 95) M) sh := SHp_st h.1
  have htx : txOk (mdl ν (X + 95) M) sh := SHp_tx h.1
  unfold mm at hck ⊢
  have hz : zag 4 ((zsI M 0 0).2.2 2) 0 = some (J n) := by rw [show (0 : Int32) = J 0 from rfl, zag_J (by omega) (by omega), zsI_a, hM]
  obtain ⟨U3, hU3⟩ : ∃ V, V = csI (csI (csI U (X + 1) 1 (J 0)) (X + 1) 2 (J 0)) (X + 1) 3 NN := ⟨_, rfl⟩
  obtain ⟨M3, hM3⟩ : ∃ m, m = zsA (zsA (zsA (zsI (zsI M 0 0) 11 (J n)) 2 (upd (M.2.2 2) 0 (J 0))) 3 (upd (M.2.2 3) 0 (J 0))) 4 (upd (M.2.2 4) 0 NN) := ⟨_, rfl⟩
  have hF : Ufr U U3 (fun q => q = X + 1) := by rw [hU3]; exact Ufr_t (Ufr_t (Ufr_I rfl) (Ufr_I rfl)) (Ufr_I rfl)
  have hm : ∀ j, j ≠ 2 → j ≠ 3 → j ≠ 4 → M3.2.2 j = M.2.2 j := fun j a b d => by rw [hM3, zsA_o d, zsA_o b, zsA_o a, zsI_a, zsI_a]
  have m2 : M3.2.2 2 = upd (M.2.2 2) 0 (J 0) := by rw [hM3, zsA_o (by omega), zsA_o (by omega), zsA_1]
  have m3 : M3.2.2 3 = upd (M.2.2 3) 0 (J 0) := by rw [hM3, zsA_o (by omega), zsA_1]
  have m4 : M3.2.2 4 = upd (M.2.2 4) 0 NN := by rw [hM3, zsA_1]
  have h11 : M3.1 11 = J n := by
    rw [hM3]
    show (zsI (zsI M 0 0) 11 (J n)).1 11 = J n
    exact zsI_1
  have hT3 : TRc U3 (X + 1) M3 0 c vs ds ls ss := TR_hd hT hF (fun j h1 h2 z => by omega) (fun j h1 h2 => hm j (by omega) (by omega) (by omega)) (fun q hq => by
    rw [hU3, csI_a, csI_a, csI_a, hm 1 (by omega) (by omega) (by omega)]; exact hT.1 q hq) ⟨0, by omega, by rw [hU3, csI_o2 (.inr (by omega)), csI_o2 (.inr (by omega)), csI_1], by rw [m2, upd_1]⟩ (by rw [m3, upd_1, hU3, csI_o2 (.inr (by omega)), csI_1]) (by rw [m4, upd_1, hU3, csI_1])
  have hI3 : IMG X ν sh U3 M3 := IMG_k h.2.2 hF (fun q hq z => by omega) (hm 53 (by omega) (by omega) (by omega)) (MC_h (fun q hq => by rw [hm 1 (by omega) (by omega) (by omega)]) (fun j q h1 h2 h3 => by
    rcases (show j = 2 ∨ j = 3 ∨ j = 4 by omega) with rfl | rfl | rfl
    · rw [m2, upd_o h3]
    · rw [m3, upd_o h3]
    · rw [m4, upd_o h3]) (fun j h1 h2 => hm j (by omega) (by omega) (by omega)))
  have hC : ∀ s, gX7_slotFor U3 (X + 1) x1 x2 = some s → fX11_text (cmem (mdl ν (X + 95) M) sh U) X x1 x2 = if s = (-1) then some ((-2), cmem (mdl ν (X + 95) M) sh U3) else txtC X (cmem (mdl ν (X + 95) M) sh U3) (J n) x1 s := by
    intro s hs
    unfold fX11_text
    rw [hck, zgd_t, cgr_X11_0 hX, wb1, cgr_X7_1 h7, wb1, hU, wb1, cpr_X7_1 h7, wb1, cgr_X11_0 hX, wb1, cpr_X7_2 h7, wb1, cgr_X11_0 hX, wb1, cpr_X7_3 h7, wb1, cgr_X11_0 hX, wb1, show csI (csI (csI U (X + 1) 1 0) (X + 1) 2 0) (X + 1) 3 (-1) = U3 from hU3.symm, eX7_slotFor h7, hs, wb1]
    rfl
  have hi : gX12_in x1 0 3 = some (bJ (inb 4 x1)) := R_inX (n := 3) (by omega) x1
  have hG : ∀ r, (if bJ (inb 4 x1) = 0 then some ((-2), M3) else if x2 = (-1) then (zb1 (zag 16 (M3.2.2 5) x1) fun v47 => if v47 = 2 then some ((-2), M3) else gX12_text_b75 M3 x1 x2) else (zb1 (gX12_is M3 x1 x2) fun v44 => if v44 = 0 then some ((-2), M3) else gX12_text_b75 M3 x1 x2) : Option (Int32 × zMS)) = r → gX12_text M x1 x2 = r := by
    intro r hr
    unfold gX12_text
    rw [wb1, hz, wb1, wb1, show zas 4 ((zsI (zsI M 0 0) 11 (J n)).2.2 2) 0 0 = some (upd (M.2.2 2) 0 (J 0)) from zas_J (i := 0) (by omega) (by omega), wb1, wb1, zsA_o (k := 2) (j := 3) (by omega), show zas 4 ((zsI (zsI M 0 0) 11 (J n)).2.2 3) 0 0 = some (upd (M.2.2 3) 0 (J 0)) from zas_J (i := 0) (by omega) (by omega), wb1, wb1, zsA_o (k := 3) (j := 4) (by omega), zsA_o (k := 2) (j := 4) (by omega), show zas 4 ((zsI (zsI M 0 0) 11 (J n)).2.2 4) 0 (-1) = some (upd (M.2.2 4) 0 NN) from zas_J (i := 0) (by omega) (by omega), wb1, wb1, ← hM3, hi, wb1]
    exact hr
  have hno : gX7_slotFor U3 (X + 1) x1 x2 = some (-1) → gX12_text M x1 x2 = some (-2, M3) → ∃ v U' M', fX11_text (cmem (mdl ν (X + 95) M) sh U) X x1 x2 = some (v, cmem (mdl ν (X + 95) M) sh U') ∧ gX12_text M x1 x2 = some (v, M') ∧ TR U' (X + 1) M' 0 ∧ IMG X ν sh U' M' := fun a b => ⟨-2, U3, M3, by rw [hC _ a, if_pos rfl], b, ⟨c, vs, ds, ls, ss, hT3⟩, hI3⟩
  cases g : inb 4 x1 with
  | false =>
    refine hno ?_ (hG _ (by rw [g, if_pos (show bJ false = 0 from rfl)]))
    unfold gX7_slotFor
    obtain ⟨k, hk, rfl⟩ | hx := J_all x1
    · rw [inb_J (by omega) hk] at g
      have := of_decide_eq_false g
      rw [if_neg (show ¬ J k < 0 by rw [show (0 : Int32) = J 0 from rfl, J_lt hk (by omega)]; omega), if_neg (show ¬ J k < 4 by rw [show (4 : Int32) = J 4 from rfl, J_lt hk (by omega)]; omega)]
    · rw [if_pos (show x1 < 0 from hx)]
  | true =>
    obtain ⟨σ, hσ, rfl⟩ := inb_t (by omega) g
    obtain ⟨q1, q2, q3⟩ := hT3.2.2.2.2.1 σ hσ
    rw [Nat.mul_zero, Nat.zero_add] at q3
    have hlt0 : ¬ J σ < 0 := by rw [show (0 : Int32) = J 0 from rfl, J_lt (by omega) (by omega)]; omega
    have hlt4 : J σ < 4 := by rw [show (4 : Int32) = J 4 from rfl, J_lt (by omega) (by omega)]; omega
    have hzs : zag 4 (U3.2.1 (X + 1 + 2)) (J σ) = some (J (c σ)) := by rw [zag_J (by omega) (by omega), q2]
    have hzg : zag 16 (M3.2.2 5) (J σ) = some (J (c σ)) := by rw [zag_J (by omega) (by omega), q3]
    have hyes : ∀ k, k < 2 → ((x2 = NN ∧ k = c σ) ∨ (x2 = J k ∧ k < c σ)) → gX7_slotFor U3 (X + 1) (J σ) x2 = some (J k) → (∀ r, gX12_text_b75 M3 (J σ) x2 = r → gX12_text M (J σ) x2 = r) → ∃ v U' M', fX11_text (cmem (mdl ν (X + 95) M) sh U) X (J σ) x2 = some (v, cmem (mdl ν (X + 95) M) sh U') ∧ gX12_text M (J σ) x2 = some (v, M') ∧ TR U' (X + 1) M' 0 ∧ IMG X ν sh U' M' := by
      intro k hk hx2 hs hg
      obtain ⟨v, U', M', t1, t2, t3, t4⟩ := J_textT hX hst htx hT3 hI3 hn h11 hσ hk hx2
      exact ⟨v, U', M', by rw [hC _ hs, if_neg (J_m1 (by omega))]; exact t1, hg _ t2, t3, t4⟩
    by_cases cn : x2 = NN
    · have cn' : x2 = -1 := cn
      by_cases c2 : c σ = 2
      · refine hno ?_ (hG _ ?_)
        · unfold gX7_slotFor
          rw [if_neg hlt0, if_pos hlt4, if_pos cn', hzs, wb1, if_pos (show (2 : Int32) ≤ J (c σ) by rw [c2]; decide), wb1]
        · rw [g, if_neg (show ¬ bJ true = 0 by decide), if_pos cn', hzg, wb1, if_pos (show J (c σ) = 2 by rw [c2]; rfl)]
      · refine hyes (c σ) (by omega) (.inl ⟨cn, rfl⟩) ?_ (fun r hr => hG _ ?_)
        · unfold gX7_slotFor
          rw [if_neg hlt0, if_pos hlt4, if_pos cn', hzs, wb1, if_neg (show ¬ (2 : Int32) ≤ J (c σ) by rw [show (2 : Int32) = J 2 from rfl, J_le (by omega) (by omega)]; omega), wb1, wb1]
        · rw [g, if_neg (show ¬ bJ true = 0 by decide), if_pos cn', hzg, wb1, if_neg (show ¬ J (c σ) = 2 by rw [show (2 : Int32) = J 2 from rfl, J_eq (by omega) (by omega)]; exact c2)]
          exact hr
    · have cn' : ¬ x2 = -1 := cn
      have his : gX12_is M3 (J σ) x2 = some (bJ (inb (c σ) x2)) := R_isX q3 (by omega) (by omega) x2
      cases g2 : inb (c σ) x2 with
      | false =>
        refine hno ?_ (hG _ ?_)
        · unfold gX7_slotFor
          rw [if_neg hlt0, if_pos hlt4, if_neg cn']
          obtain ⟨k, hk, rfl⟩ | hx := J_all x2
          · rw [inb_J (by omega) hk] at g2
            have := of_decide_eq_false g2
            rw [if_neg (show ¬ J k < 0 by rw [show (0 : Int32) = J 0 from rfl, J_lt hk (by omega)]; omega), hzs, wb1, if_pos (show J (c σ) ≤ J k by rw [J_le (by omega) hk]; omega), wb1]
          · rw [if_pos (show x2 < 0 from hx), wb1]
        · rw [g, if_neg (show ¬ bJ true = 0 by decide), if_neg cn', his, g2, wb1, if_pos (show bJ false = 0 from rfl)]
      | true =>
        obtain ⟨k, hk, rfl⟩ := inb_t (by omega) g2
        refine hyes k (by omega) (.inr ⟨rfl, hk⟩) ?_ (fun r hr => hG _ ?_)
        · unfold gX7_slotFor
          rw [if_neg hlt0, if_pos hlt4, if_neg cn', if_neg (show ¬ J k < 0 by rw [show (0 : Int32) = J 0 from rfl, J_lt (by omega) (by omega)]; omega), hzs, wb1, if_neg (show ¬ J (c σ) ≤ J k by rw [J_le (by omega) (by omega)]; omega), wb1]
        · rw [g, if_neg (show ¬ bJ true = 0 by decide), if_neg cn', his, g2, wb1, if_neg (show ¬ bJ true = 0 by decide)]
          exact hr
