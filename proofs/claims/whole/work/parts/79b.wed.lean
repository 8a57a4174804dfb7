/-! the match, by itself: who has asked whom, and who keeps whom -/
def wI (n : Nat) (p q : Nat → Bool) (K : Nat → Nat → Nat) (ak : Nat → Nat → Bool) (w : Nat → Option Nat) : Prop :=
  (∀ a b, ak a b = true → a < n ∧ b < n ∧ p a = true ∧ q b = true) ∧
  (∀ a b, w a = some b → w b = some a ∧ (ak a b = true ∨ ak b a = true)) ∧
  (∀ a b, ak a b = true → ∃ h, w b = some h ∧ K b h ≤ K b a) ∧
  (∀ a b c, ak a b = true → c < n → q c = true → K a c < K a b → ak a c = true)
def wS (n : Nat) (p q : Nat → Bool) (K : Nat → Nat → Nat) (ak : Nat → Nat → Bool) (w : Nat → Option Nat) (a b : Nat) : Prop :=
  a < n ∧ p a = true ∧ w a = none ∧ b < n ∧ q b = true ∧ ak a b = false ∧ ∀ c, c < n → q c = true → ak a c = false → K a b ≤ K a c
def ak1 (ak : Nat → Nat → Bool) (a b : Nat) : Nat → Nat → Bool := fun x y => ak x y || (decide (x = a) && decide (y = b))
def tak (K : Nat → Nat → Nat) (w : Nat → Option Nat) (a b : Nat) : Bool := match w b with
  | none => true
  | some h => decide (K b a < K b h)
def w1 (K : Nat → Nat → Nat) (w : Nat → Option Nat) (a b : Nat) : Nat → Option Nat := fun x => if tak K w a b = true then (if x = a then some b else if x = b then some a else if w b = some x then none else w x) else w x
def wC (n : Nat) (p q : Nat → Bool) (ak : Nat → Nat → Bool) (w : Nat → Option Nat) : Prop := ∀ a b, a < n → p a = true → w a = none → b < n → q b = true → ak a b = true
theorem w_ask {n : Nat} {p q : Nat → Bool} {K : Nat → Nat → Nat} {ak : Nat → Nat → Bool} {w : Nat → Option Nat} (hI : wI n p q K ak w) (hd : ∀ x, p x = true → q x = true → False) {x y : Nat} (h : w x = some y) (hq : q x = true) : ak y x = true := by
  obtain ⟨i1, i2, -, -⟩ := hI
  rcases (i2 x y h).2 with h1 | h1
  · exact absurd hq (fun z => hd x (i1 x y h1).2.2.1 z)
  · exact h1
theorem wI_s {n : Nat} {p q : Nat → Bool} {K : Nat → Nat → Nat} {ak : Nat → Nat → Bool} {w : Nat → Option Nat} {a b : Nat} (hd : ∀ x, p x = true → q x = true → False) (hI : wI n p q K ak w) (hS : wS n p q K ak w a b) : wI n p q K (ak1 ak a b) (w1 K w a b) := by
  have hI' := hI
  obtain ⟨i1, i2, i3, i4⟩ := hI
  obtain ⟨ha, pa, wa, hb, qb, nk, hn⟩ := hS
  have hab : a ≠ b := fun z => hd a pa (z ▸ qb)
  have mono : ∀ x y, ak x y = true → ak1 ak a b x y = true := fun x y h => by unfold ak1; rw [h]; rfl
  have new : ak1 ak a b a b = true := by unfold ak1; simp
  have inv : ∀ x y, ak1 ak a b x y = true → ak x y = true ∨ (x = a ∧ y = b) := fun x y h => by
    unfold ak1 at h
    simpa [Bool.or_eq_true, Bool.and_eq_true] using h
  refine ⟨fun x y h => ?_, fun x y h => ?_, fun x y h => ?_, fun x y c h hc qc hk => ?_⟩
  · rcases inv x y h with h | ⟨rfl, rfl⟩
    · exact i1 x y h
    · exact ⟨ha, hb, pa, qb⟩
  · cases ht : tak K w a b with
    | false =>
      have e : ∀ z, w1 K w a b z = w z := fun z => by unfold w1; rw [ht]; simp
      rw [e] at h ⊢
      have := i2 x y h
      exact ⟨this.1, this.2.imp (mono x y) (mono y x)⟩
    | true =>
      have e : ∀ z, w1 K w a b z = if z = a then some b else if z = b then some a else if w b = some z then none else w z := fun z => by unfold w1; rw [ht]; simp
      rw [e] at h
      rw [e]
      by_cases hxa : x = a
      · rw [if_pos hxa] at h
        cases h
        rw [if_neg (Ne.symm hab), if_pos rfl, hxa]
        exact ⟨rfl, Or.inl new⟩
      · rw [if_neg hxa] at h
        by_cases hxb : x = b
        · rw [if_pos hxb] at h
          cases h
          rw [if_pos rfl, hxb]
          exact ⟨rfl, Or.inr new⟩
        · rw [if_neg hxb] at h
          by_cases hwx : w b = some x
          · rw [if_pos hwx] at h; cases h
          · rw [if_neg hwx] at h
            have h2 := i2 x y h
            have hya : y ≠ a := fun z => by rw [z, wa] at h2; cases h2.1
            have hyb : y ≠ b := fun z => by rw [z] at h2; exact hwx h2.1
            have hwy : ¬ w b = some y := fun z => by
              have := (i2 b y z).1
              rw [this] at h2
              exact hxb (Option.some.inj h2.1).symm
            rw [if_neg hya, if_neg hyb, if_neg hwy]
            exact ⟨h2.1, h2.2.imp (mono x y) (mono y x)⟩
  · cases ht : tak K w a b with
    | false =>
      have e : ∀ z, w1 K w a b z = w z := fun z => by unfold w1; rw [ht]; simp
      rw [e]
      rcases inv x y h with h | ⟨rfl, rfl⟩
      · exact i3 x y h
      · unfold tak at ht
        cases hw : w y with
        | none => rw [hw] at ht; cases ht
        | some g =>
          rw [hw] at ht
          have := of_decide_eq_false ht
          exact ⟨g, rfl, by omega⟩
    | true =>
      have e : ∀ z, w1 K w a b z = if z = a then some b else if z = b then some a else if w b = some z then none else w z := fun z => by unfold w1; rw [ht]; simp
      rw [e]
      have hy : y ≠ a := fun z => by
        have : q y = true := by
          rcases inv x y h with h | ⟨-, rfl⟩
          · exact (i1 x y h).2.2.2
          · exact qb
        exact hd a pa (z ▸ this)
      rw [if_neg hy]
      by_cases hyb : y = b
      · rw [if_pos hyb]
        refine ⟨a, rfl, ?_⟩
        subst hyb
        rcases inv x y h with h | ⟨rfl, -⟩
        · obtain ⟨g, g1, g2⟩ := i3 x y h
          unfold tak at ht
          rw [g1] at ht
          have := of_decide_eq_true ht
          omega
        · exact Nat.le_refl _
      · rw [if_neg hyb]
        have h : ak x y = true := by
          rcases inv x y h with h | ⟨-, z⟩
          · exact h
          · exact absurd z hyb
        obtain ⟨g, g1, g2⟩ := i3 x y h
        rw [if_neg (fun z => by
          have := (i2 b y z).2
          rcases this with t | t
          · exact hd b (i1 b y t).2.2.1 qb
          · exact hd y (i1 y b t).2.2.1 (i1 x y h).2.2.2)]
        exact ⟨g, g1, g2⟩
  · rcases inv x y h with h | ⟨rfl, rfl⟩
    · exact mono x c (i4 x y c h hc qc hk)
    · cases hac : ak x c with
      | true => exact mono x c hac
      | false => have := hn c hc qc hac; omega
def wR (n : Nat) (p q : Nat → Bool) (K : Nat → Nat → Nat) (ak : Nat → Nat → Bool) (w : Nat → Option Nat) : Prop := ∀ P : (Nat → Nat → Bool) → (Nat → Option Nat) → Prop, P (fun _ _ => false) (fun _ => none) → (∀ ak w a b, P ak w → wS n p q K ak w a b → P (ak1 ak a b) (w1 K w a b)) → P ak w
theorem wR_z {n : Nat} {p q : Nat → Bool} {K : Nat → Nat → Nat} : wR n p q K (fun _ _ => false) (fun _ => none) := fun _ h _ => h
theorem wR_s {n : Nat} {p q : Nat → Bool} {K : Nat → Nat → Nat} {ak : Nat → Nat → Bool} {w : Nat → Option Nat} {a b : Nat} (h : wR n p q K ak w) (hs : wS n p q K ak w a b) : wR n p q K (ak1 ak a b) (w1 K w a b) := fun P h0 h1 => h1 ak w a b (h P h0 h1) hs
theorem wI_z {n : Nat} {p q : Nat → Bool} {K : Nat → Nat → Nat} : wI n p q K (fun _ _ => false) (fun _ => none) := ⟨fun _ _ h => (by cases h), fun _ _ h => (by cases h), fun _ _ h => (by cases h), fun _ _ _ h => (by cases h)⟩
theorem wR_I {n : Nat} {p q : Nat → Bool} {K : Nat → Nat → Nat} (hd : ∀ x, p x = true → q x = true → False) {ak : Nat → Nat → Bool} {w : Nat → Option Nat} (h : wR n p q K ak w) : wI n p q K ak w := h _ wI_z (fun _ _ _ _ h hs => wI_s hd h hs)
theorem wR_le {n : Nat} {p q : Nat → Bool} {K : Nat → Nat → Nat} (hd : ∀ x, p x = true → q x = true → False) (hK : ∀ x i j, i < n → j < n → K x i = K x j → i = j) {ak ak' : Nat → Nat → Bool} {w w' : Nat → Option Nat} (h : wR n p q K ak w) (hI' : wI n p q K ak' w') (hC : wC n p q ak' w') : ∀ x y, ak x y = true → ak' x y = true := by
  refine (h (fun ak w => wI n p q K ak w ∧ ∀ x y, ak x y = true → ak' x y = true) ⟨wI_z, fun x y h => by cases h⟩ ?_).2
  intro ak w a b hP hs
  obtain ⟨hI, ih⟩ := hP
  refine ⟨wI_s hd hI hs, ?_⟩
  obtain ⟨ha, pa, wa, hb, qb, nk, hn⟩ := hs
  have key : ak' a b = true := by
    cases hz : ak' a b with
    | true => rfl
    | false =>
      exfalso
      cases hw : w' a with
      | none => rw [hC a b ha pa hw hb qb] at hz; cases hz
      | some c =>
        have i2 := hI'.2.1 a c hw
        have kac : ak' a c = true := by
          rcases i2.2 with t | t
          · exact t
          · exact (hd a pa (hI'.1 c a t).2.2.2).elim
        have hc := hI'.1 a c kac
        have hcb : c ≠ b := fun z => by rw [z, hz] at kac; cases kac
        have hlt : K a c < K a b := by
          rcases Nat.lt_trichotomy (K a c) (K a b) with t | t | t
          · exact t
          · exact absurd (hK a c b hc.2.1 hb t) hcb
          · have := hI'.2.2.2 a c b kac hb qb t
            rw [hz] at this; cases this
        have sac : ak a c = true := by
          cases t : ak a c with
          | true => rfl
          | false => have := hn c hc.2.1 hc.2.2.2 t; omega
        obtain ⟨g, g1, g2⟩ := hI.2.2.1 a c sac
        have hga : g ≠ a := fun z => by
          rw [z] at g1
          have := (hI.2.1 c a g1).1
          rw [wa] at this; cases this
        have gk : ak g c = true := w_ask hI hd g1 hc.2.2.2
        have gl : K c g < K c a := by
          rcases Nat.lt_or_eq_of_le g2 with t | t
          · exact t
          · exact absurd (hK c g a (hI.1 g c gk).1 ha t) hga
        obtain ⟨f, f1, f2⟩ := hI'.2.2.1 g c (ih g c gk)
        rw [i2.1] at f1
        cases f1
        omega
  intro x y h
  unfold ak1 at h
  rw [Bool.or_eq_true] at h
  rcases h with h | h
  · exact ih x y h
  · rw [Bool.and_eq_true] at h
    rw [of_decide_eq_true h.1, of_decide_eq_true h.2]
    exact key
theorem w_same {n : Nat} {p q : Nat → Bool} {K : Nat → Nat → Nat} (hd : ∀ x, p x = true → q x = true → False) (hK : ∀ x i j, i < n → j < n → K x i = K x j → i = j) {ak ak' : Nat → Nat → Bool} {w w' : Nat → Option Nat} (h : wI n p q K ak w) (h' : wI n p q K ak' w') (e : ∀ x y, ak x y = true → ak' x y = true) (e' : ∀ x y, ak' x y = true → ak x y = true) (x y : Nat) (hw : w x = some y) : w' x = some y := by
  have key : ∀ a b, ak a b = true → w b = some a → w' b = some a := by
    intro a b hab hb
    obtain ⟨g, g1, g2⟩ := h'.2.2.1 a b (e a b hab)
    have hq := (h.1 a b hab).2.2.2
    have gk := e' g b (w_ask h' hd g1 hq)
    obtain ⟨f, f1, f2⟩ := h.2.2.1 g b gk
    rw [hb] at f1
    cases f1
    rw [g1, hK b g a (h.1 g b gk).1 (h.1 a b hab).1 (by omega)]
  have h2 := h.2.1 x y hw
  rcases h2.2 with t | t
  · exact (h'.2.1 y x (key x y t h2.1)).1
  · exact key y x t hw
theorem wR_same {n : Nat} {p q : Nat → Bool} {K : Nat → Nat → Nat} (hd : ∀ x, p x = true → q x = true → False) (hK : ∀ x i j, i < n → j < n → K x i = K x j → i = j) {ak ak' : Nat → Nat → Bool} {w w' : Nat → Option Nat} (h : wR n p q K ak w) (h' : wR n p q K ak' w') (hC : wC n p q ak w) (hC' : wC n p q ak' w') (x : Nat) : w x = w' x := by
  have i := wR_I hd h
  have i' := wR_I hd h'
  have e := wR_le hd hK h i' hC'
  have e' := wR_le hd hK h' i hC
  cases hw : w x with
  | some y => exact (w_same hd hK i i' e e' x y hw).symm
  | none =>
    cases hw' : w' x with
    | none => rfl
    | some y => rw [w_same hd hK i' i e' e x y hw'] at hw; cases hw
