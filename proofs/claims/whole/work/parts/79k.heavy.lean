/-! the words by weight -/
def hbf (g : Nat → Nat) (x y : Nat) : Bool := decide (g x < g y) || (decide (g y = g x) && decide (y < x))
def hrk (g : Nat → Nat) (x : Nat) : Nat := cnt (hbf g x) 8
theorem hbf_i {g : Nat → Nat} {x : Nat} : hbf g x x = false := by unfold hbf; simp
theorem hrk_lt {g : Nat → Nat} {x : Nat} (hx : x < 8) : hrk g x < 8 := cnt_lt hbf_i hx
theorem hbf_p {g : Nat → Nat} {x y : Nat} : hbf g x y = true ↔ g x < g y ∨ (g y = g x ∧ y < x) := by unfold hbf; simp
theorem hrk_s {g : Nat → Nat} {x y : Nat} (hy : y < 8) (h : hbf g x y = true) : hrk g y < hrk g x := by
  refine cnt_slt (x := y) (fun z _ hz => ?_) hy hbf_i h
  rw [hbf_p] at h hz ⊢
  omega
theorem hrk_i {g : Nat → Nat} {x y : Nat} (hx : x < 8) (hy : y < 8) (h : hrk g x = hrk g y) : x = y := by
  rcases Nat.lt_trichotomy x y with z | z | z
  · by_cases hq : g x < g y
    · have := hrk_s (g := g) hy (hbf_p.mpr (.inl hq)); omega
    · have : hbf g y x = true := hbf_p.mpr (by omega)
      have := hrk_s (g := g) hx this; omega
  · exact z
  · by_cases hq : g y < g x
    · have := hrk_s (g := g) hx (hbf_p.mpr (.inl hq)); omega
    · have : hbf g x y = true := hbf_p.mpr (by omega)
      have := hrk_s (g := g) hy this; omega
def hvy (g : Nat → Nat) (k : Nat) : Nat := match fstI (fun x => decide (hrk g x = k)) 8 with
  | some x => g x
  | none => 0
theorem hvy_r {g : Nat → Nat} {x : Nat} (hx : x < 8) : hvy g (hrk g x) = g x := by
  unfold hvy
  cases hf : fstI (fun y => decide (hrk g y = hrk g x)) 8 with
  | none =>
    have := of_decide_eq_false (fstI_n hf x hx)
    exact absurd rfl this
  | some y =>
    obtain ⟨h1, h2, -⟩ := fstI_s hf
    have := hrk_i h1 hx (of_decide_eq_true h2)
    rw [this]
theorem cnt_all : ∀ n, cnt (fun _ => true) n = n
  | 0 => rfl
  | n + 1 => by rw [cnt_s, cnt_all n]; rfl
theorem hrk_b {g : Nat → Nat} {P : Nat → Bool} : cnt (fun x => P (hrk g x)) 8 = cnt P 8 := by
  have := cnt_bij (P := P) (n := 8) (N := 8) (S := fun _ => true) (q := hrk g) (fun k hk => ⟨hrk_lt hk, rfl⟩) (fun j k hj hk h => hrk_i hj hk h) (cnt_all 8)
  rw [this]
  rfl
theorem hrk_o {g : Nat → Nat} {k : Nat} (hk : k < 8) : ∃ x, x < 8 ∧ hrk g x = k := by
  have h1 := hrk_b (g := g) (P := fun j => decide (j = k))
  cases hf : fstI (fun x => decide (hrk g x = k)) 8 with
  | some x =>
    obtain ⟨h1, h2, -⟩ := fstI_s hf
    exact ⟨x, h1, of_decide_eq_true h2⟩
  | none =>
    exfalso
    have h2 := cnt_z (p := fun x => decide (hrk g x = k)) (n := 8) (fun i hi => fstI_n hf i hi)
    have h3 := cnt_slt (p := fun _ => false) (q := fun j => decide (j = k)) (n := 8) (x := k) (fun _ _ h => by cases h) hk rfl (by simp)
    omega
theorem hvy_d {g : Nat → Nat} (k : Nat) (hk : k < 7) : hvy g (k + 1) ≤ hvy g k := by
  obtain ⟨x, hx, h1⟩ := hrk_o (g := g) (k := k) (by omega)
  obtain ⟨y, hy, h2⟩ := hrk_o (g := g) (k := k + 1) (by omega)
  rw [← h2, ← h1, hvy_r hx, hvy_r hy]
  rcases Nat.lt_or_ge (g x) (g y) with z | z
  · have := hrk_s (g := g) hy (hbf_p.mpr (.inl z)); omega
  · exact z
theorem hvy_c {g : Nat → Nat} {c : Nat} : cnt (fun k => decide (c ≤ hvy g k)) 8 = cnt (fun x => decide (c ≤ g x)) 8 := by
  rw [← hrk_b (g := g)]
  exact cnt_c (fun x hx => by rw [hvy_r hx])
theorem hvy_lt {g : Nat → Nat} {k n : Nat} (hk : k < 8) (hg : ∀ x, x < 8 → g x < n) : hvy g k < n := by
  obtain ⟨x, hx, h1⟩ := hrk_o (g := g) (k := k) hk
  rw [← h1, hvy_r hx]
  exact hg x hx
/-- a falling row is known by how many lie above -/
theorem fall_u {a b : Nat → Nat} (ha : ∀ k, k < 7 → a (k + 1) ≤ a k) (hb : ∀ k, k < 7 → b (k + 1) ≤ b k) (h : ∀ c, cnt (fun k => decide (c ≤ a k)) 8 = cnt (fun k => decide (c ≤ b k)) 8) : ∀ k, k < 8 → a k = b k := by
  have mono : ∀ f : Nat → Nat, (∀ k, k < 7 → f (k + 1) ≤ f k) → ∀ d k, k + d < 8 → f (k + d) ≤ f k := by
    intro f hf d
    induction d with
    | zero => intro k _; exact Nat.le_refl _
    | succ d ih =>
      intro k hk
      have h1 := ih k (by omega)
      have h2 := hf (k + d) (by omega)
      rw [show k + (d + 1) = k + d + 1 by omega]; omega
  have hcnt : ∀ f : Nat → Nat, (∀ k, k < 7 → f (k + 1) ≤ f k) → ∀ c n k, n ≤ 8 → k < n → (c ≤ f k ↔ k < cnt (fun k => decide (c ≤ f k)) n) := by
    intro f hf c n
    induction n with
    | zero => intro k _ hk; omega
    | succ n ih =>
      intro k hn hk
      rw [cnt_s]
      have hle := cnt_le (p := fun k => decide (c ≤ f k)) n
      by_cases hc : c ≤ f n
      · have hall : cnt (fun k => decide (c ≤ f k)) n = n := by
          rw [cnt_c (q := fun _ => true) (fun i hi => by
            have := mono f hf (n - i) i (by omega)
            rw [show i + (n - i) = n by omega] at this
            exact decide_eq_true (by omega)), cnt_all]
        simp only [hc, decide_true, if_true, hall]
        have := mono f hf (n - k) k (by omega)
        rw [show k + (n - k) = n by omega] at this
        exact ⟨fun _ => hk, fun _ => by omega⟩
      · simp only [hc, decide_false, Bool.false_eq_true, if_false, Nat.add_zero]
        by_cases hkn : k = n
        · subst hkn
          exact ⟨fun z => absurd z hc, fun z => by omega⟩
        · exact ih k (by omega) (by omega)
  intro k hk
  have h1 := (hcnt a ha (a k) 8 k (by omega) hk).mp (Nat.le_refl _)
  have h2 := (hcnt b hb (b k) 8 k (by omega) hk).mp (Nat.le_refl _)
  rw [h] at h1
  rw [← h] at h2
  have h3 := (hcnt b hb (a k) 8 k (by omega) hk).mpr h1
  have h4 := (hcnt a ha (b k) 8 k (by omega) hk).mpr h2
  omega
