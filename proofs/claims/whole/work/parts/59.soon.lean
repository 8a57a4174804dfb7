/-! how soon a word comes: ways that are no longer than the people -/
def FAR : Nat := 1000000
def edg (v : zV) (l p o : Nat) : Bool := decide (dist (v (33 + p)) (v (33 + o)) ≤ rng l) && decide (p ≠ o)
def wgt (v : zV) (t p o : Nat) : Nat := if t = 0 then dist (v (33 + p)) (v (33 + o)) else 1
def via (v : zV) (l t : Nat) (d : Nat → Nat) (p o : Nat) : Nat := if edg v l p o then d p + wgt v t p o else FAR
def mnv (v : zV) (l t : Nat) (d : Nat → Nat) (o : Nat) : Nat → Nat := itr (fun p x => min x (via v l t d p o)) (d o)
def soo (v : zV) (l t f : Nat) : Nat → Nat → Nat
  | 0 => fun o => if o = f then 0 else FAR
  | k + 1 => fun o => mnv v l t (soo v l t f k) o (v 1)
theorem mnv_le {v : zV} {l t : Nat} {d : Nat → Nat} {o : Nat} : ∀ n, mnv v l t d o n ≤ d o ∧ ∀ p, p < n → mnv v l t d o n ≤ via v l t d p o
  | 0 => ⟨Nat.le_refl _, fun p hp => by omega⟩
  | n + 1 => by
    obtain ⟨h1, h2⟩ := mnv_le (v := v) (l := l) (t := t) (d := d) (o := o) n
    have h3 : mnv v l t d o (n + 1) = min (mnv v l t d o n) (via v l t d n o) := rfl
    refine ⟨by omega, fun p hp => ?_⟩
    by_cases hpn : p = n
    · subst hpn; omega
    · have := h2 p (by omega); omega
theorem mnv_is {v : zV} {l t : Nat} {d : Nat → Nat} {o : Nat} : ∀ n, mnv v l t d o n = d o ∨ ∃ p, p < n ∧ mnv v l t d o n = via v l t d p o
  | 0 => .inl rfl
  | n + 1 => by
    have h3 : mnv v l t d o (n + 1) = min (mnv v l t d o n) (via v l t d n o) := rfl
    by_cases h : mnv v l t d o n ≤ via v l t d n o
    · rcases mnv_is (v := v) (l := l) (t := t) (d := d) (o := o) n with h1 | ⟨p, hp, h1⟩
      · exact .inl (by omega)
      · exact .inr ⟨p, by omega, by omega⟩
    · exact .inr ⟨n, by omega, by omega⟩
theorem soo_s {v : zV} {l t f k o : Nat} : soo v l t f (k + 1) o = mnv v l t (soo v l t f k) o (v 1) := rfl
theorem soo_mo {v : zV} {l t f o : Nat} (k : Nat) : soo v l t f (k + 1) o ≤ soo v l t f k o := (mnv_le _).1
theorem soo_mo2 {v : zV} {l t f o j : Nat} : ∀ d, soo v l t f (j + d) o ≤ soo v l t f j o
  | 0 => Nat.le_refl _
  | d + 1 => Nat.le_trans (soo_mo (j + d)) (soo_mo2 d)
theorem ev_const : ∀ (N : Nat) (f : Nat → Nat), (∀ k, f (k + 1) ≤ f k) → f 0 ≤ N → ∃ K, ∀ k, K ≤ k → f k = f K := by
  intro N
  induction N with
  | zero =>
    intro f h h0
    have hz : ∀ k, f k = 0 := fun k => by
      induction k with
      | zero => omega
      | succ k ih => have := h k; omega
    exact ⟨0, fun k _ => by rw [hz k, hz 0]⟩
  | succ N ih =>
    intro f h h0
    have hm : ∀ k, f k ≤ f 0 := fun k => by
      induction k with
      | zero => omega
      | succ k ih => have := h k; omega
    by_cases hc : ∀ k, f k = f 0
    · exact ⟨0, fun k _ => hc k⟩
    · obtain ⟨k0, hk0⟩ := Classical.not_forall.mp hc
      have := hm k0
      obtain ⟨K, hK⟩ := ih (fun k => f (k0 + k)) (fun k => h (k0 + k)) (by show f (k0 + 0) ≤ N; rw [Nat.add_zero]; omega)
      refine ⟨k0 + K, fun k hk => ?_⟩
      have := hK (k - k0) (by omega)
      simpa [show k0 + (k - k0) = k by omega] using this
/-- the first step at which it is as it stays -/
def isH (v : zV) (l t f K o k : Nat) : Prop := soo v l t f k o = soo v l t f K o ∧ ∀ j, j < k → soo v l t f j o ≠ soo v l t f K o
theorem inj_le : ∀ {m N : Nat} {S : Nat → Bool} {q : Nat → Nat}, (∀ k, k < m → q k < N ∧ S (q k) = true) → (∀ j k, j < m → k < m → q j = q k → j = k) → m ≤ cnt S N
  | 0, N, S, q, _, _ => Nat.zero_le _
  | m + 1, N, S, q, h, hi => by
    obtain ⟨h1, h2⟩ := h m (by omega)
    rw [cnt_del h2 h1]
    have := inj_le (m := m) (N := N) (S := fun i => S i && decide (i ≠ q m)) (q := q) (fun k hk => ⟨(h k (by omega)).1, by
      have : q k ≠ q m := fun z => by have := hi k m (by omega) (by omega) z; omega
      simp [(h k (by omega)).2, this]⟩) (fun j k hj hk => hi j k (by omega) (by omega))
    omega
theorem soo_fix {v : zV} {l t f : Nat} (hf : f < (v 1 : Nat)) {k o : Nat} (hk : (v 1 : Nat) - 1 ≤ k) (ho : o < (v 1 : Nat)) : soo v l t f k o = soo v l t f ((v 1 : Nat) - 1) o := by
  have hK1 : ∀ o, ∃ K, ∀ k, K ≤ k → soo v l t f k o = soo v l t f K o := fun o => ev_const _ (fun k => soo v l t f k o) (fun k => soo_mo k) (Nat.le_refl _)
  obtain ⟨g, hg⟩ := Classical.axiomOfChoice hK1
  have hmax : ∀ n, ∃ K, ∀ o, o < n → g o ≤ K := fun n => by
    induction n with
    | zero => exact ⟨0, fun o ho => by omega⟩
    | succ n ih =>
      obtain ⟨K, hK⟩ := ih
      refine ⟨max K (g n), fun o ho => ?_⟩
      by_cases hon : o = n
      · subst hon; omega
      · have := hK o (by omega); omega
  obtain ⟨K, hK⟩ := hmax (v 1)
  have fin : ∀ o, o < (v 1 : Nat) → ∀ k, K ≤ k → soo v l t f k o = soo v l t f K o := fun o ho k hk => by
    have := hK o ho
    rw [hg o k (by omega), hg o K (by omega)]
  have low : ∀ o, o < (v 1 : Nat) → ∀ k, soo v l t f K o ≤ soo v l t f k o := fun o ho k => by
    rw [← fin o ho (K + k) (by omega), Nat.add_comm]
    exact soo_mo2 K
  have exH : ∀ o, o < (v 1 : Nat) → ∃ k, isH v l t f K o k := fun o ho => by
    have : ∀ n, soo v l t f n o = soo v l t f K o → ∃ k, isH v l t f K o k := fun n => by
      induction n using Nat.strongRecOn with
      | ind n ih =>
        intro hn
        by_cases hc : ∃ j, j < n ∧ soo v l t f j o = soo v l t f K o
        · obtain ⟨j, hj, hj2⟩ := hc
          exact ih j hj hj2
        · exact ⟨n, hn, fun j hj z => hc ⟨j, hj, z⟩⟩
    exact this K rfl
  have lev : ∀ k o, o < (v 1 : Nat) → isH v l t f K o (k + 1) → ∃ p, p < (v 1 : Nat) ∧ isH v l t f K p k := fun k o ho hH => by
    obtain ⟨h1, h2⟩ := hH
    have h3 := h2 k (by omega)
    have h4 := soo_mo (v := v) (l := l) (t := t) (f := f) (o := o) k
    rcases mnv_is (v := v) (l := l) (t := t) (d := soo v l t f k) (o := o) (v 1) with h5 | ⟨p, hp, h5⟩
    · rw [← soo_s, h1] at h5; exact absurd h5.symm h3
    · rw [← soo_s] at h5
      refine ⟨p, hp, ?_⟩
      unfold via at h5
      by_cases he : edg v l p o = true
      · rw [if_pos he] at h5
        have up : ∀ j, soo v l t f (j + 1) o ≤ soo v l t f j p + wgt v t p o := fun j => by
          have := (mnv_le (v := v) (l := l) (t := t) (d := soo v l t f j) (o := o) (v 1)).2 p hp
          unfold via at this
          rw [if_pos he] at this
          exact this
        have h6 := up K
        rw [fin o ho (K + 1) (by omega)] at h6
        have h7 := low p hp k
        refine ⟨by omega, fun j hj z => ?_⟩
        have h8 := up j
        have h9 := low o ho (j + 1)
        exact h2 (j + 1) (by omega) (by omega)
      · rw [if_neg he] at h5
        -- it was never nearer than FAR
        exfalso
        have hle : soo v l t f k o ≤ FAR := by
          have := soo_mo2 (v := v) (l := l) (t := t) (f := f) (o := o) (j := 0) k
          rw [Nat.zero_add] at this
          have h0 : soo v l t f 0 o ≤ FAR := by
            show (if o = f then 0 else FAR) ≤ FAR
            split <;> omega
          omega
        omega
  have chain : ∀ k o, o < (v 1 : Nat) → isH v l t f K o k → ∃ q : Nat → Nat, ∀ j, j ≤ k → q j < (v 1 : Nat) ∧ isH v l t f K (q j) j := fun k => by
    induction k with
    | zero => exact fun o ho hH => ⟨fun _ => o, fun j hj => by rw [show j = 0 by omega]; exact ⟨ho, hH⟩⟩
    | succ k ih =>
      intro o ho hH
      obtain ⟨p, hp, hHp⟩ := lev k o ho hH
      obtain ⟨q, hq⟩ := ih p hp hHp
      refine ⟨fun j => if j = k + 1 then o else q j, fun j hj => ?_⟩
      by_cases hjk : j = k + 1
      · simp only [hjk, if_true]; exact ⟨ho, hH⟩
      · simp only [hjk, if_false]; exact hq j (by omega)
  have hn : ∀ o k, o < (v 1 : Nat) → isH v l t f K o k → k ≤ (v 1 : Nat) - 1 := fun o k ho hH => by
    obtain ⟨q, hq⟩ := chain k o ho hH
    have h1 := inj_le (m := k + 1) (N := (v 1 : Nat)) (S := fun _ => true) (q := q) (fun j hj => ⟨(hq j (by omega)).1, rfl⟩) (fun i j hi hj z => by
      have a := (hq i (by omega)).2
      have b := (hq j (by omega)).2
      rw [z] at a
      rcases Nat.lt_trichotomy i j with c | c | c
      · exact absurd a.1 (b.2 i c)
      · exact c
      · exact absurd b.1 (a.2 j c))
    have h2 := cnt_le (p := fun _ => true) (v 1)
    omega
  have all : ∀ k, (v 1 : Nat) - 1 ≤ k → soo v l t f k o = soo v l t f K o := fun k hk => by
    obtain ⟨j, hj⟩ := exH o ho
    have h1 := hn o j ho hj
    have h2 := soo_mo2 (v := v) (l := l) (t := t) (f := f) (o := o) (j := j) (k - j)
    rw [show j + (k - j) = k by omega, hj.1] at h2
    have h3 := low o ho k
    omega
  rw [all k hk, all _ (Nat.le_refl _)]
/-- the answer -/
def sn (v : zV) (l t f o : Nat) : Nat := soo v l t f ((v 1 : Nat) - 1) o
theorem sn_via {v : zV} {l t f p o : Nat} (hf : f < (v 1 : Nat)) (hp : p < (v 1 : Nat)) (ho : o < (v 1 : Nat)) : sn v l t f o ≤ via v l t (sn v l t f) p o := by
  have h1 := (mnv_le (v := v) (l := l) (t := t) (d := soo v l t f ((v 1 : Nat) - 1)) (o := o) (v 1)).2 p hp
  rw [← soo_s, soo_fix hf (by omega) ho] at h1
  exact h1
theorem sn_le {v : zV} {l t f o : Nat} : sn v l t f o ≤ FAR := by
  have h1 := soo_mo2 (v := v) (l := l) (t := t) (f := f) (o := o) (j := 0) ((v 1 : Nat) - 1)
  rw [Nat.zero_add] at h1
  have h0 : soo v l t f 0 o ≤ FAR := by
    show (if o = f then 0 else FAR) ≤ FAR
    split <;> omega
  exact Nat.le_trans h1 h0
/-- between the answer and the k-th step -/
def btw (v : zV) (l t f k : Nat) (d : Nat → Nat) : Prop := ∀ o, o < (v 1 : Nat) → sn v l t f o ≤ d o ∧ d o ≤ soo v l t f k o
theorem btw_e {v : zV} {l t f k : Nat} {d : Nat → Nat} (hf : f < (v 1 : Nat)) (hk : (v 1 : Nat) - 1 ≤ k) (h : btw v l t f k d) {o : Nat} (ho : o < (v 1 : Nat)) : d o = sn v l t f o := by
  obtain ⟨h1, h2⟩ := h o ho
  rw [soo_fix hf hk ho] at h2
  exact Nat.le_antisymm h2 h1
/-- a round: of those before p all have said it on; of p to those before o -/
def rnd (v : zV) (l t f k p o : Nat) (d : Nat → Nat) : Prop := btw v l t f k d ∧ (∀ q x, q < p → x < (v 1 : Nat) → d x ≤ via v l t (soo v l t f k) q x) ∧ ∀ x, x < o → d x ≤ via v l t (soo v l t f k) p x
theorem rnd_st {v : zV} {l t f k p o y : Nat} {d : Nat → Nat} (hf : f < (v 1 : Nat)) (hp : p < (v 1 : Nat)) (ho : o < (v 1 : Nat)) (h : rnd v l t f k p o d) (hy : y = min (d o) (via v l t d p o)) : rnd v l t f k p (o + 1) (fun x => if x = o then y else d x) := by
  obtain ⟨h1, h2, h3⟩ := h
  have hv : via v l t d p o ≤ via v l t (soo v l t f k) p o := by
    unfold via
    split
    · have := (h1 p hp).2; omega
    · exact Nat.le_refl _
  have hw : sn v l t f o ≤ via v l t d p o := by
    refine Nat.le_trans (sn_via hf hp ho) ?_
    unfold via
    split
    · have := (h1 p hp).1; omega
    · exact Nat.le_refl _
  refine ⟨fun x hx => ?_, fun q x hq hx => ?_, fun x hx => ?_⟩
  · by_cases hxo : x = o
    · subst hxo
      simp only [if_true]
      have := h1 x hx
      omega
    · simp only [hxo, if_false]; exact h1 x hx
  · by_cases hxo : x = o
    · subst hxo
      simp only [if_true]
      have := h2 q x hq hx
      omega
    · simp only [hxo, if_false]; exact h2 q x hq hx
  · by_cases hxo : x = o
    · subst hxo
      simp only [if_true]
      omega
    · simp only [hxo, if_false]; exact h3 x (by omega)
theorem rnd_np {v : zV} {l t f k p : Nat} {d : Nat → Nat} (h : rnd v l t f k p (v 1) d) : rnd v l t f k (p + 1) 0 d :=
  ⟨h.1, fun q x hq hx => by
    by_cases hqp : q = p
    · subst hqp; exact h.2.2 x hx
    · exact h.2.1 q x (by omega) hx, fun x hx => by omega⟩
theorem rnd_nk {v : zV} {l t f k : Nat} {d : Nat → Nat} (h : rnd v l t f k (v 1) 0 d) : rnd v l t f (k + 1) 0 0 d :=
  ⟨fun o ho => ⟨(h.1 o ho).1, by
    rw [soo_s]
    rcases mnv_is (v := v) (l := l) (t := t) (d := soo v l t f k) (o := o) (v 1) with h5 | ⟨p, hp, h5⟩
    · rw [h5]; exact (h.1 o ho).2
    · rw [h5]; exact h.2.1 p o hp ho⟩, fun q x hq => by omega, fun x hx => by omega⟩
theorem rnd_00 {v : zV} {l t f : Nat} : rnd v l t f 0 0 0 (fun o => if o = f then 0 else FAR) :=
  ⟨fun o _ => ⟨by
    have h1 := soo_mo2 (v := v) (l := l) (t := t) (f := f) (o := o) (j := 0) ((v 1 : Nat) - 1)
    rw [Nat.zero_add] at h1
    exact h1, Nat.le_refl _⟩, fun q x hq => by omega, fun x hx => by omega⟩
