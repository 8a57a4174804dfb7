/-! the whole state: class, reference, images -/
theorem wmn {A R : Type} {f : Option R} {g : A → Option R} : zmo none f g = f := (rfl)
theorem wms {A R : Type} {f : Option R} {g : A → Option R} {a : A} : zmo (some a) f g = g a := (rfl)
theorem inb_t {n : Nat} {x : Int32} (hn : n < 2147483648) (h : inb n x = true) : ∃ k, k < n ∧ x = J k := by
  obtain ⟨h1, h2⟩ := of_decide_eq_true h
  obtain ⟨k, hk, rfl⟩ | hx := J_all x
  · exact ⟨k, (J_lt hk hn).mp h2, rfl⟩
  · exact absurd hx h1
theorem inb_le {n : Nat} {x : Int32} (hn : n < 1000) : (¬ x < J 0 ∧ ¬ J n < x) ↔ inb (n + 1) x = true := by
  unfold inb
  rw [decide_eq_true_iff]
  obtain ⟨k, hk, rfl⟩ | hx := J_all x
  · rw [J_lt hk (by omega), J_lt (by omega) hk, J_lt hk (by omega)]; omega
  · exact ⟨fun z => absurd hx z.1, fun z => absurd hx z.1⟩
theorem R_inX {n : Nat} (hn : n < 1000) (x : Int32) : gX12_in x (J 0) (J n) = some (bJ (inb (n + 1) x)) := by
  rw [R_in]
  refine congrArg (fun z => some (bJ z)) ?_
  by_cases h : inb (n + 1) x = true
  · rw [h]; exact decide_eq_true ((inb_le hn).mpr h)
  · have h' : inb (n + 1) x = false := by cases hq : inb (n + 1) x with | true => exact absurd hq h | false => rfl
    rw [h']; exact decide_eq_false (fun z => h ((inb_le hn).mp z))
theorem b01 {b : Bool} : (bJ b = 0) ↔ b = false := by cases b <;> decide
/-- a guard on both sides -/
theorem gd_lt {x : Int32} {n : Nat} (hn : n < 1000) : (zb1 (if x < 0 then some 0 else if J n ≤ x then some 0 else some 1) fun s1 => zb1 (zbz s1) fun v3 => some v3 : Option Int32) = some (bJ (inb n x)) := by
  unfold inb
  obtain ⟨k, hk, rfl⟩ | hx := J_all x
  · rw [if_neg (show ¬ J k < 0 by rw [show (0 : Int32) = J 0 from rfl, J_lt hk (by omega)]; omega)]
    by_cases c : n ≤ k
    · rw [if_pos ((J_le (by omega) hk).mpr c), decide_eq_false (by rw [J_lt hk (by omega), J_lt hk (by omega)]; omega)]; rfl
    · rw [if_neg (fun z => c ((J_le (by omega) hk).mp z)), decide_eq_true (by rw [J_lt hk (by omega), J_lt hk (by omega)]; omega)]; rfl
  · rw [if_pos (show x < 0 from hx), decide_eq_false (fun z => z.1 hx)]; rfl
theorem gd_le {x : Int32} {n : Nat} (hn : n < 1000) : (zb1 (if x < 0 then some 0 else if J n < x then some 0 else some 1) fun s1 => zb1 (zbz s1) fun v3 => some v3 : Option Int32) = some (bJ (inb (n + 1) x)) := by
  unfold inb
  obtain ⟨k, hk, rfl⟩ | hx := J_all x
  · rw [if_neg (show ¬ J k < 0 by rw [show (0 : Int32) = J 0 from rfl, J_lt hk (by omega)]; omega)]
    by_cases c : n < k
    · rw [if_pos ((J_lt (by omega) hk).mpr c), decide_eq_false (by rw [J_lt hk (by omega), J_lt hk (by omega)]; omega)]; rfl
    · rw [if_neg (fun z => c ((J_lt (by omega) hk).mp z)), decide_eq_true (by rw [J_lt hk (by omega), J_lt hk (by omega)]; omega)]; rfl
  · rw [if_pos (show x < 0 from hx), decide_eq_false (fun z => z.1 hx)]; rfl
theorem G_word {μ : zM} {x : Int32} : fX11_isWord μ x = some (bJ (inb 8 x)) := gd_lt (n := 8) (by omega)
theorem G_loud {μ : zM} {x : Int32} : fX11_isLoud μ x = some (bJ (inb 3 x)) := gd_le (n := 2) (by omega)
theorem G_min {μ : zM} {x : Int32} : fX11_isMinute μ x = some (bJ (inb 100 x)) := gd_lt (n := 100) (by omega)
theorem G_place {ν : zM} {sh : Nat → Nat} {U : zCS} {a : Nat} {v : zV} {x : Int32} (h9 : isX9 sh a) (h : isVal U a v) : fX9_hasPlace (cmem ν sh U) a x = some (bJ (inb ((v 0 : Nat) + 1) x)) := by
  rw [eX9_hasPlace h9]
  unfold gX9_hasPlace
  rw [h.1]
  exact gd_le (by omega)
theorem G_person {ν : zM} {sh : Nat → Nat} {U : zCS} {a : Nat} {v : zV} {x : Int32} (h9 : isX9 sh a) (h : isVal U a v) : fX9_hasPerson (cmem ν sh U) a x = some (bJ (inb (v 1) x)) := by
  rw [eX9_hasPerson h9]
  unfold gX9_hasPerson
  rw [h.2.1]
  exact gd_lt (by omega)
theorem Q_word {x : Int32} : gX12_isWord x = some (bJ (inb 8 x)) := by
  unfold gX12_isWord
  rw [show gX12_in x 0 7 = some (bJ (inb 8 x)) from R_inX (n := 7) (by omega) x, wb1, zbz_b, wb1]
theorem Q_loud {x : Int32} : gX12_in x 0 2 = some (bJ (inb 3 x)) := R_inX (n := 2) (by omega) x
theorem Q_min {x : Int32} : gX12_in x 0 99 = some (bJ (inb 100 x)) := R_inX (n := 99) (by omega) x
theorem Q_place {M : zMS} {v : zV} {x : Int32} (h : isMV M v) : gX12_isPlace M x = some (bJ (inb ((v 0 : Nat) + 1) x)) := by
  unfold gX12_isPlace
  rw [R_w h, show gX12_in x 0 (J (v 0)) = some (bJ (inb ((v 0 : Nat) + 1) x)) from R_inX (by omega) x, wb1, zbz_b, wb1]
theorem cm_sw {ν : zM} {sh : Nat → Nat} {U : zCS} {M : zMS} {Y : Nat} (h : ∀ j, j < 28 → sh (Y + j) = 0) : cmem (mdl ν Y M) sh U = mdl (cmem ν sh U) Y M := by
  refine Prod.ext (funext fun q => ?_) rfl
  show (if sh q = 0 then (if Y ≤ q ∧ q < Y + 28 then some (mdlC Y M (q - Y)) else ν.1 q) else some (ccell q (sh q) U)) = if Y ≤ q ∧ q < Y + 28 then some (mdlC Y M (q - Y)) else (if sh q = 0 then ν.1 q else some (ccell q (sh q) U))
  by_cases c : Y ≤ q ∧ q < Y + 28
  · have := h (q - Y) (by omega)
    rw [show Y + (q - Y) = q by omega] at this
    rw [if_pos this, if_pos c, if_pos c]
  · rw [if_neg c, if_neg c]
def SHp (X : Nat) (ν : zM) (sh : Nat → Nat) : Prop := isX11 sh X ∧ stOk ν sh ∧ txOk ν sh ∧ (∀ k, k < 5 → ν.2.2 k < X) ∧ (∀ i, i < 18 → ν.2.2 (100 + i) < X) ∧ (∀ j, j < 28 → sh (X + 95 + j) = 0) ∧ X + 123 ≤ ν.2.1 ∧ (∀ q, ν.2.1 ≤ q → sh q = 0) ∧ ∀ q, sh q = 9003 → q = X + 54
theorem SHp_st {X : Nat} {ν : zM} {sh : Nat → Nat} {M : zMS} (h : SHp X ν sh) : stOk (mdl ν (X + 95) M) sh := by
  intro k hk
  refine ⟨?_, (h.2.1 k hk).2⟩
  have := h.2.2.2.1 k hk
  show (if X + 95 ≤ ν.2.2 k ∧ ν.2.2 k < X + 95 + 28 then _ else ν.1 (ν.2.2 k)) = _
  rw [if_neg (by omega)]
  exact (h.2.1 k hk).1
theorem SHp_tx {X : Nat} {ν : zM} {sh : Nat → Nat} {M : zMS} (h : SHp X ν sh) : txOk (mdl ν (X + 95) M) sh := by
  refine ⟨fun i hi => ⟨?_, (h.2.2.1.1 i hi).2⟩, h.2.2.1.2⟩
  have := h.2.2.2.2.1 i hi
  show (if X + 95 ≤ ν.2.2 (100 + i) ∧ ν.2.2 (100 + i) < X + 95 + 28 then _ else ν.1 (ν.2.2 (100 + i))) = _
  rw [if_neg (by omega)]
  exact (h.2.2.1.1 i hi).1
def IMG (X : Nat) (ν : zM) (sh : Nat → Nat) (U : zCS) (M : zMS) : Prop := ∀ k, k < 3 → (U.2.2 k = none ∧ M.2.2 53 k = J 0) ∨ ∃ b, U.2.2 k = some b ∧ M.2.2 53 k = J 1 ∧ isX7 sh b ∧ X + 123 ≤ b ∧ b + 52 < ν.2.1 ∧ TR U b M (k + 1) ∧ ∀ k', k' < 3 → k' ≠ k → ∀ b', U.2.2 k' = some b' → b + 52 < b' ∨ b' + 52 < b
def WSt (X : Nat) (ν : zM) (sh : Nat → Nat) (U : zCS) (M : zMS) : Prop := SHp X ν sh ∧ TR U (X + 1) M 0 ∧ IMG X ν sh U M
def mm (X : Nat) (ν : zM) (sh : Nat → Nat) (U : zCS) (M : zMS) : zM := cmem (mdl ν (X + 95) M) sh U
def WS (X : Nat) (μ : zM) : Prop := ∃ ν sh U M, μ = mm X ν sh U M ∧ WSt X ν sh U M
theorem mm_sw {X : Nat} {ν : zM} {sh : Nat → Nat} {U : zCS} {M : zMS} (h : SHp X ν sh) : mm X ν sh U M = mdl (cmem ν sh U) (X + 95) M := cm_sw h.2.2.2.2.2.1
theorem WS_q {X : Nat} {ν : zM} {sh : Nat → Nat} {U U' : zCS} {M M' : zMS} (h : WSt X ν sh U M) (hU : Ufr U U' (fun q => X + 55 ≤ q ∧ q ≤ X + 94)) (hM : Msame M M') : WSt X ν sh U' M' := by
  refine ⟨h.1, TR_tr h.2.1 (TC_F hU (fun j hj z => by omega)) (MC_s hM), fun k hk => ?_⟩
  rw [hU.2, hM 53 (by omega)]
  rcases h.2.2 k hk with z | ⟨b, z1, z2, z3, z4, z5, z6, z7⟩
  · exact .inl z
  · exact .inr ⟨b, z1, z2, z3, z4, z5, TR_tr z6 (TC_F hU (fun j hj z => by omega)) (MC_s hM), z7⟩
/-- a call that answers alike -/
def OKc {R : Type} (X : Nat) (A : Option (R × zM)) (B : zM → Option (R × zM)) : Prop := ∃ v μ1 μ2, A = some (v, μ1) ∧ B μ1 = some (v, μ2) ∧ WS X μ2
def OKq {R : Type} (X : Nat) (μ : zM) (A : Option R) (B : zM → Option (R × zM)) : Prop := ∃ v μ2, A = some v ∧ B μ = some (v, μ2) ∧ WS X μ2
theorem OKc_q {R : Type} {X : Nat} {ν : zM} {sh : Nat → Nat} {U : zCS} {M : zMS} {A : Option (R × zM)} {B : zM → Option (R × zM)} {g : zMS → Option (R × zMS)} (h : WSt X ν sh U M) (hB : ∀ ν' m, B (mdl ν' (X + 95) m) = Option.map (zq2 (mdl ν' (X + 95))) (g m)) (hA : ∃ v U' M', A = some (v, mm X ν sh U' M) ∧ g M = some (v, M') ∧ Ufr U U' (fun q => X + 55 ≤ q ∧ q ≤ X + 94) ∧ Msame M M') : OKc X A B := by
  obtain ⟨v, U', M', a1, a2, a3, a4⟩ := hA
  refine ⟨v, _, mdl (cmem ν sh U') (X + 95) M', a1, ?_, ν, sh, U', M', (mm_sw h.1).symm, WS_q h a3 a4⟩
  rw [mm_sw h.1, hB, a2]; rfl
theorem OKq_q {R : Type} {X : Nat} {ν : zM} {sh : Nat → Nat} {U : zCS} {M : zMS} {A : Option R} {B : zM → Option (R × zM)} {g : zMS → Option (R × zMS)} (h : WSt X ν sh U M) (hB : ∀ ν' m, B (mdl ν' (X + 95) m) = Option.map (zq2 (mdl ν' (X + 95))) (g m)) (hA : ∃ v M', A = some v ∧ g M = some (v, M') ∧ Msame M M') : OKq X (mm X ν sh U M) A B := by
  obtain ⟨v, M', a1, a2, a4⟩ := hA
  refine ⟨v, mdl (cmem ν sh U) (X + 95) M', a1, ?_, ν, sh, U, M', (mm_sw h.1).symm, WS_q h Ufr_r a4⟩
  rw [mm_sw h.1, hB, a2]; rfl
/-- a valley asked for by its number, both sides -/
def isV (X : Nat) (ν : zM) (sh : Nat → Nat) (U : zCS) (M : zMS) (x : Int32) (a : Nat) (v : zV) : Prop := fX11_valleyAt (mm X ν sh U M) X x = some (some a) ∧ isX9 sh a ∧ isVal U a v ∧ VOK v ∧ X < a ∧ a + 10 < X + 55 ∧ ∀ m, Msame M m → ∃ M4, gX12_hand m x = some (J 1, M4) ∧ isMV M4 v ∧ Msame M M4 ∧ (∀ j, j ≠ 23 → j ≠ 24 → j ≠ 25 → M4.1 j = m.1 j) ∧ M4.2.2 = m.2.2
def noV (X : Nat) (ν : zM) (sh : Nat → Nat) (U : zCS) (M : zMS) (x : Int32) : Prop := fX11_valleyAt (mm X ν sh U M) X x = some none ∧ ∀ m, Msame M m → ∃ M4, gX12_hand m x = some (J 0, M4) ∧ Msame M M4
theorem at_no {c : Nat} {x : Int32} {A : Option (Option Nat)} (hc : c < 1000) (h : inb c x = false) : (if x < 0 then some none else if x < J c then A else some none) = some none := by
  obtain ⟨k, hk, rfl⟩ | hx := J_all x
  · rw [if_neg (show ¬ J k < 0 by rw [show (0 : Int32) = J 0 from rfl, J_lt hk (by omega)]; omega)]
    rw [inb_J (by omega) hk] at h
    rw [if_neg (show ¬ J k < J c by rw [J_lt hk (by omega)]; exact of_decide_eq_false h)]
  · rw [if_pos (show x < 0 from hx)]
theorem V_at {X : Nat} {ν : zM} {sh : Nat → Nat} {U : zCS} {M : zMS} (h : WSt X ν sh U M) (x : Int32) : noV X ν sh U M x ∨ ∃ a v, isV X ν sh U M x a v := by
  obtain ⟨hS, ⟨c, vs, ds, ls, ss, hT⟩, -⟩ := h
  have hX := hS.1
  have h7 := isX11_1 hX
  have hc := hT.2.2.2.2.1 0 (by omega)
  have hms : ∀ m, Msame M m → isMVs m (c 0) vs := fun m hm => ⟨by rw [hm 5 (by omega)]; exact hc.2.2, hc.1, fun k hk j hj => by
    have := (hT.2.2.2.2.2.1 k hk).2.2 j hj
    rw [Nat.mul_zero, Nat.zero_add] at this
    rw [hm 6 (by omega)]; exact this⟩
  have hza : zm_aI (mm X ν sh U M) 0 (X + 1 + 2) 0 = some (J (c 0)) := by
    unfold mm
    rw [ca_1004 (isX7_2 h7), show (0 : Int32) = J 0 from rfl, zag_J (by omega) (by omega), hc.2.1]
  by_cases hi : inb (c 0) x = true
  · obtain ⟨k, hk, rfl⟩ := inb_t (by omega) hi
    have hk2 : k < 2 := by omega
    obtain ⟨q1, q2, q3⟩ := hT.2.2.2.2.2.1 k hk
    refine .inr ⟨X + 1 + 4 + 11 * k, vs k, ?_, isX7_v h7 hk2, q1, q2, by omega, by omega, fun m hm => ?_⟩
    · unfold fX11_valleyAt
      rw [show zm_ck (mm X ν sh U M) 11 X = true from ck_X11 hX, zgd_t, if_neg (show ¬ J k < 0 by rw [show (0 : Int32) = J 0 from rfl, J_lt (by omega) (by omega)]; omega), show zm_gR (mm X ν sh U M) 11 X 0 = some (X + 1) from cgr_X11_0 hX, wb1, show zm_gR (mm X ν sh U M) 7 (X + 1) 4 = some (X + 1 + 2) from cgr_X7_4 h7, wb1, hza, wb1, if_pos (show J k < J (c 0) by rw [J_lt (by omega) (by omega)]; exact hk), wb1, show zm_gR (mm X ν sh U M) 7 (X + 1) 5 = some (X + 1 + 3) from cgr_X7_5 h7, wb1, show zm_aQ (mm X ν sh U M) 4 (X + 1 + 3) (J k) = zel 11 (X + 1 + 3) (J k) from cq_9004 (isX7_3 h7), zel_J hk2, wb1, wb1]
    · obtain ⟨M4, m1, m2, m3⟩ := R_hand1 (hms m hm) hk
      refine ⟨M4, m1, m2, ?_, fun j h1 h2 h3 => ?_, ?_⟩
      · rw [m3]; exact Msame_t hm (Msame_t Msame_I (Msame_t Msame_I Msame_I))
      · rw [m3, zsI_o h3, zsI_o h2, zsI_o h1]
      · rw [m3]; rfl
  · have hi : inb (c 0) x = false := by cases hq : inb (c 0) x with | true => exact absurd hq hi | false => rfl
    refine .inl ⟨?_, fun m hm => ⟨_, R_hand0 (hms m hm) hi, Msame_t hm Msame_I⟩⟩
    unfold fX11_valleyAt
    rw [show zm_ck (mm X ν sh U M) 11 X = true from ck_X11 hX, zgd_t, show zm_gR (mm X ν sh U M) 11 X 0 = some (X + 1) from cgr_X11_0 hX, wb1, show zm_gR (mm X ν sh U M) 7 (X + 1) 4 = some (X + 1 + 2) from cgr_X7_4 h7, wb1, hza, wb1, at_no (by omega) hi, wb1]
