/-! images -/
theorem isX7_e {sh sh' : Nat → Nat} {B b : Nat} (he : ∀ q, q < B → sh' q = sh q) (hb : b + 52 < B) (h : isX7 sh b) : isX7 sh' b := by
  simp (disch := omega) only [isX7, isX9, isX2, isX3, isX6, he] at h ⊢
  exact h
theorem isX11_e {sh sh' : Nat → Nat} {B X : Nat} (he : ∀ q, q < B → sh' q = sh q) (hb : X + 94 < B) (h : isX11 sh X) : isX11 sh' X := by
  refine ⟨(he _ (by omega)).trans h.1, isX7_e he (by omega) h.2.1, (he _ (by omega)).trans h.2.2.1, ?_, ?_, ?_, ?_, ?_⟩
  · have h := h.2.2.2.1
    simp (disch := omega) only [isX4, isX9, isX2, isX3, isX6, he] at h ⊢
    exact h
  · have h := h.2.2.2.2.1
    simp (disch := omega) only [isX1, he] at h ⊢
    exact h
  · have h := h.2.2.2.2.2.1
    simp (disch := omega) only [isX5, he] at h ⊢
    exact h
  · have h := h.2.2.2.2.2.2.1
    simp (disch := omega) only [isX8, he] at h ⊢
    exact h
  · have h := h.2.2.2.2.2.2.2
    simp (disch := omega) only [isX0, he] at h ⊢
    exact h
theorem cq_9003 {ν : zM} {sh : Nat → Nat} {S : zCS} {a k : Nat} (h : sh a = 9003) (hk : k < 3) : zm_aQ (cmem ν sh S) 3 a (J k) = some (S.2.2 k) := by
  have hkk : (J k).toNatClampNeg = k := by rcases (show k = 0 ∨ k = 1 ∨ k = 2 by omega) with rfl | rfl | rfl <;> rfl
  unfold zm_aQ
  rw [cm_at h (by decide)]
  show (if 3 = 3 ∧ ¬ (J k < 0 ∨ 3 ≤ (J k).toNatClampNeg) then some (S.2.2 (J k).toNatClampNeg) else none) = _
  rw [if_pos ⟨rfl, fun z => by
    rcases z with z | z
    · rw [show (0 : Int32) = J 0 from rfl, J_lt (by omega) (by omega)] at z; omega
    · rw [hkk] at z; omega⟩, hkk]
theorem csq_9003 {ν : zM} {sh : Nat → Nat} {S : zCS} {a k v : Nat} (h : sh a = 9003) (h1 : ∀ q, sh q = 9003 → q = a) (hk : k < 3) (hv : zm_ck (cmem ν sh S) 7 v = true) : zm_sQ (cmem ν sh S) 3 7 a (J k) v = some (cmem ν sh (csQ S (va_up S.2.2 k (some v)))) := by
  have hkk : (J k).toNatClampNeg = k := by rcases (show k = 0 ∨ k = 1 ∨ k = 2 by omega) with rfl | rfl | rfl <;> rfl
  unfold zm_sQ
  rw [cm_at h (by decide)]
  show (if 3 = 3 ∧ zm_ck (cmem ν sh S) 7 v = true ∧ ¬ (J k < 0 ∨ 3 ≤ (J k).toNatClampNeg) then some (zm_up (cmem ν sh S) a (.inl (3, 3, .inr (.inr (.inr (.inr (va_up S.2.2 (J k).toNatClampNeg (some v)))))))) else none) = _
  rw [if_pos ⟨rfl, hv, fun z => by
    rcases z with z | z
    · rw [show (0 : Int32) = J 0 from rfl, J_lt (by omega) (by omega)] at z; omega
    · rw [hkk] at z; omega⟩, hkk]
  refine congrArg some (cm_up (by rw [h]; decide) (by rw [h]; rfl) (fun q hq => ?_))
  have hn : sh q ≠ 9003 := fun z => hq (h1 q z)
  generalize sh q = c at hn
  unfold ccell
  split <;> first | rfl | exact absurd rfl hn
theorem T_again {X : Nat} {ν : zM} {sh : Nat → Nat} {U : zCS} {M : zMS} (h : WSt X ν sh U M) (x1 : Int32) : OKc X (fX11_again (mm X ν sh U M) X x1) (fun μ => fX12_again μ (X + 95) x1) := by
  refine OKc_w (g := fun m => gX12_again m x1) h (fun ν' m => eX12_again) ?_
  have hX := h.1.1
  have h7 := isX11_1 hX
  have hck : zm_ck (mm X ν sh U M) 11 X = true := ck_X11 hX
  unfold mm at hck ⊢
  have hi : gX12_in x1 0 2 = some (bJ (inb 3 x1)) := R_inX (n := 2) (by omega) x1
  cases g : inb 3 x1 with
  | false =>
    refine ⟨0, U, zsI M 0 0, ?_, by unfold gX12_again; rw [wb1, hi, g, wb1, if_pos (show bJ false = 0 from rfl)], h.2.1, h.2.2⟩
    unfold fX11_again
    rw [hck, zgd_t]
    obtain ⟨k, hk, rfl⟩ | hx := J_all x1
    · rw [inb_J (by omega) hk] at g
      have := of_decide_eq_false g
      rw [if_neg (show ¬ J k < 0 by rw [show (0 : Int32) = J 0 from rfl, J_lt hk (by omega)]; omega), if_pos (show (3 : Int32) ≤ J k by rw [show (3 : Int32) = J 3 from rfl, J_le (by omega) hk]; omega)]
    · rw [if_pos (show x1 < 0 from hx)]
  | true =>
    obtain ⟨k, hk, rfl⟩ := inb_t (by omega) g
    have c0 : ¬ J k < 0 := by rw [show (0 : Int32) = J 0 from rfl, J_lt (by omega) (by omega)]; omega
    have c3 : ¬ (3 : Int32) ≤ J k := by rw [show (3 : Int32) = J 3 from rfl, J_le (by omega) (by omega)]; omega
    have hq : zm_aQ (cmem (mdl ν (X + 95) M) sh U) 3 (X + 54) (J k) = some (U.2.2 k) := cq_9003 (isX11_54 hX) hk
    rcases h.2.2 k hk with ⟨z1, z2⟩ | ⟨b, z1, z2, z3, z4, z5, z6, z7⟩
    · refine ⟨0, U, zsI M 0 0, ?_, ?_, h.2.1, h.2.2⟩
      · unfold fX11_again
        rw [hck, zgd_t, if_neg c0, if_neg c3, cgr_X11_1 hX, wb1, hq, z1, wb1, wmn]
      · unfold gX12_again
        rw [wb1, hi, g, wb1, if_neg (show ¬ bJ true = 0 by decide), zag_J (by omega) (by omega), zsI_a, z2, wb1, if_pos (show J 0 = 0 from rfl)]
    · obtain ⟨c, vs, ds, ls, ss, hT⟩ := id z6
      obtain ⟨U2, f1, f2, f3⟩ := F_copyFrom (ν := mdl ν (X + 95) M) (U := U) z3 h7 (.inr (by omega)) (fun i hi => (hT.1 i hi).1)
      obtain ⟨M2, r1, r2, r3, r4, -⟩ := R_copyAll (M := zsI M 0 0) (z := k + 1) (w := 0) (by omega) (by omega) (by omega) (fun i hi => by rw [zsI_a, (hT.1 i hi).2]; exact (hT.1 i hi).1)
      have z6' : TR U b (zsI M 0 0) (k + 1) := z6
      refine ⟨1, U2, M2, ?_, ?_, TR_tr z6' f2 r2, fun k' hk' => ?_⟩
      · unfold fX11_again
        rw [hck, zgd_t, if_neg c0, if_neg c3, cgr_X11_1 hX, wb1, hq, z1, wb1, wms, cgr_X11_0 hX, wb1, wb1, hq, z1, wb1, wb1, f1, wb1]
      · unfold gX12_again
        rw [wb1, hi, g, wb1, if_neg (show ¬ bJ true = 0 by decide), zag_J (by omega) (by omega), zsI_a, z2, wb1, if_neg (show ¬ J 1 = 0 by decide), show (J k + 1 : Int32) = J (k + 1) from J_add k 1, show gX12_copyAll (zsI M 0 0) (J (k + 1)) 0 = some M2 from r1, wb1]
      · rw [f3.2, r4 53 (by omega)]
        rcases h.2.2 k' hk' with y | ⟨b', y1, y2, y3, y4, y5, y6, y7⟩
        · exact .inl y
        · have y6' : TR U b' (zsI M 0 0) (k' + 1) := y6
          exact .inr ⟨b', y1, y2, y3, y4, y5, TR_tr y6' (TC_F f3 (fun j hj z => by omega)) (r3 _ (by omega) (by omega)), y7⟩
