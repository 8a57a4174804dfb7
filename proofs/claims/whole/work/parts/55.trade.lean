/-! counting lemmas -/
theorem cnt_mono {p q : Nat → Bool} : ∀ {n : Nat}, (∀ i, i < n → p i = true → q i = true) → cnt p n ≤ cnt q n
  | 0, _ => Nat.le_refl _
  | n + 1, h => by
    have h1 := cnt_mono (p := p) (q := q) (n := n) (fun i hi => h i (by omega))
    have h2 := h n (by omega)
    rw [cnt_s, cnt_s]
    cases hp : p n
    · simp; split <;> omega
    · rw [h2 hp]; simp; exact h1
theorem cnt_del {p : Nat → Bool} {x : Nat} (hp : p x = true) : ∀ {n : Nat}, x < n → cnt p n = cnt (fun i => p i && decide (i ≠ x)) n + 1
  | 0, h => by omega
  | n + 1, h => by
    rw [cnt_s, cnt_s]
    by_cases hx : x = n
    · subst hx
      have h1 : cnt p x = cnt (fun i => p i && decide (i ≠ x)) x := cnt_c (fun i hi => by simp [show i ≠ x by omega])
      rw [h1]
      simp [hp]
    · have h1 := cnt_del hp (n := n) (by omega)
      have hd : (p n && decide (n ≠ x)) = p n := by
        have hx2 : n ≠ x := fun z => hx z.symm
        simp [hx2]
      show _ = cnt (fun i => p i && decide (i ≠ x)) n + (if (p n && decide (n ≠ x)) = true then 1 else 0) + 1
      rw [h1, hd]
      omega
theorem cnt_lt {p : Nat → Bool} {x n : Nat} (hp : p x = false) (hx : x < n) : cnt p n < n := by
  have h1 := cnt_del (p := fun _ => true) (x := x) rfl hx
  have h2 : cnt (fun _ => true) n = n := by
    clear h1 hx hp
    induction n with
    | zero => rfl
    | succ n ih => rw [cnt_s, ih]; rfl
  have h3 : cnt p n ≤ cnt (fun i => true && decide (i ≠ x)) n := cnt_mono (fun i _ h => by
    by_cases e : i = x
    · rw [e, hp] at h; cases h
    · simp [e])
  omega
theorem cnt_slt {p q : Nat → Bool} {n x : Nat} (h : ∀ i, i < n → p i = true → q i = true) (hx : x < n) (hp : p x = false) (hq : q x = true) : cnt p n < cnt q n := by
  rw [cnt_del hq hx]
  exact Nat.lt_succ_of_le (cnt_mono (fun i hi h1 => by
    have := h i hi h1
    by_cases hix : i = x
    · subst hix; rw [hp] at h1; cases h1
    · simp [this, hix]))
theorem cnt_0 {p : Nat → Bool} : ∀ {n : Nat}, cnt p n = 0 → ∀ i, i < n → p i = false
  | 0, _, i, hi => by omega
  | n + 1, h, i, hi => by
    rw [cnt_s] at h
    by_cases hx : i = n
    · subst hx
      cases hp : p i
      · rfl
      · rw [hp] at h; simp at h
    · exact cnt_0 (n := n) (by omega) i (by omega)
theorem cnt_bij {P : Nat → Bool} : ∀ {n N : Nat} {S : Nat → Bool} {q : Nat → Nat}, (∀ k, k < n → q k < N ∧ S (q k) = true) → (∀ j k, j < n → k < n → q j = q k → j = k) → cnt S N = n → cnt (fun k => P (q k)) n = cnt (fun p => S p && P p) N
  | 0, N, S, q, _, _, h => by
    have h1 : cnt (fun p => S p && P p) N ≤ cnt S N := cnt_mono (fun i _ h2 => by
      rw [Bool.and_eq_true] at h2
      exact h2.1)
    show 0 = _
    omega
  | n + 1, N, S, q, hq, hi, h => by
    obtain ⟨h1, h2⟩ := hq n (by omega)
    have h3 := cnt_del h2 h1
    have ih := cnt_bij (P := P) (n := n) (N := N) (S := fun i => S i && decide (i ≠ q n)) (q := q) (fun k hk => ⟨(hq k (by omega)).1, by
      have : q k ≠ q n := fun h9 => by have := hi k n (by omega) (by omega) h9; omega
      simp [(hq k (by omega)).2, this]⟩) (fun j k hj hk => hi j k (by omega) (by omega)) (by omega)
    rw [cnt_s, ih]
    by_cases hP : P (q n) = true
    · have h4 := cnt_del (p := fun p => S p && P p) (x := q n) (n := N) (by simp [h2, hP]) h1
      rw [h4, if_pos hP]
      congr 1
      exact cnt_c (fun i _ => by cases S i <;> cases P i <;> simp)
    · rw [if_neg hP]
      refine cnt_c (fun i _ => ?_)
      by_cases hx : i = q n
      · subst hx; simp [Bool.eq_false_iff.mpr hP]
      · simp [hx]
/-! loops by invariants -/
theorem zf1_inv {A R : Type} {f : (A → Option R) → A → Option R} (n : Nat) (P : Nat → A → Prop) (Q : R → Prop) (hs : ∀ i x0, i < n → P i x0 → ∀ F, ∃ y0, f F x0 = F y0 ∧ P (i + 1) y0) (he : ∀ x0, P n x0 → ∀ F, ∃ r, f F x0 = some r ∧ Q r) {N : Nat} (hN : n < N) {x0 : A} (h0 : P 0 x0) : ∃ r, zf1 f N x0 = some r ∧ Q r := by
  have h : ∀ d i N x0, i + d = n → d < N → P i x0 → ∃ r, zf1 f N x0 = some r ∧ Q r := by
    intro d
    induction d with
    | zero =>
      intro i N x0 hi hN hP
      cases N with
      | zero => omega
      | succ N => exact he x0 (by rw [← show i = n by omega]; exact hP) _
    | succ d ih =>
      intro i N x0 hi hN hP
      cases N with
      | zero => omega
      | succ N =>
        obtain ⟨y0, e1, h1⟩ := hs i x0 (by omega) hP (zf1 f N)
        show ∃ r, f (zf1 f N) x0 = some r ∧ Q r
        rw [e1]
        exact ih (i + 1) N y0 (by omega) (by omega) h1
  exact h n 0 N x0 (by omega) hN h0
theorem zf2_inv {A B R : Type} {f : (A → B → Option R) → A → B → Option R} (n : Nat) (P : Nat → A → B → Prop) (Q : R → Prop) (hs : ∀ i x0 x1, i < n → P i x0 x1 → ∀ F, ∃ y0 y1, f F x0 x1 = F y0 y1 ∧ P (i + 1) y0 y1) (he : ∀ x0 x1, P n x0 x1 → ∀ F, ∃ r, f F x0 x1 = some r ∧ Q r) {N : Nat} (hN : n < N) {x0 : A} {x1 : B} (h0 : P 0 x0 x1) : ∃ r, zf2 f N x0 x1 = some r ∧ Q r := by
  have h : ∀ d i N x0 x1, i + d = n → d < N → P i x0 x1 → ∃ r, zf2 f N x0 x1 = some r ∧ Q r := by
    intro d
    induction d with
    | zero =>
      intro i N x0 x1 hi hN hP
      cases N with
      | zero => omega
      | succ N => exact he x0 x1 (by rw [← show i = n by omega]; exact hP) _
    | succ d ih =>
      intro i N x0 x1 hi hN hP
      cases N with
      | zero => omega
      | succ N =>
        obtain ⟨y0, y1, e1, h1⟩ := hs i x0 x1 (by omega) hP (zf2 f N)
        show ∃ r, f (zf2 f N) x0 x1 = some r ∧ Q r
        rw [e1]
        exact ih (i + 1) N y0 y1 (by omega) (by omega) h1
  exact h n 0 N x0 x1 (by omega) hN h0
theorem zf3_inv {A B C R : Type} {f : (A → B → C → Option R) → A → B → C → Option R} (n : Nat) (P : Nat → A → B → C → Prop) (Q : R → Prop) (hs : ∀ i x0 x1 x2, i < n → P i x0 x1 x2 → ∀ F, ∃ y0 y1 y2, f F x0 x1 x2 = F y0 y1 y2 ∧ P (i + 1) y0 y1 y2) (he : ∀ x0 x1 x2, P n x0 x1 x2 → ∀ F, ∃ r, f F x0 x1 x2 = some r ∧ Q r) {N : Nat} (hN : n < N) {x0 : A} {x1 : B} {x2 : C} (h0 : P 0 x0 x1 x2) : ∃ r, zf3 f N x0 x1 x2 = some r ∧ Q r := by
  have h : ∀ d i N x0 x1 x2, i + d = n → d < N → P i x0 x1 x2 → ∃ r, zf3 f N x0 x1 x2 = some r ∧ Q r := by
    intro d
    induction d with
    | zero =>
      intro i N x0 x1 x2 hi hN hP
      cases N with
      | zero => omega
      | succ N => exact he x0 x1 x2 (by rw [← show i = n by omega]; exact hP) _
    | succ d ih =>
      intro i N x0 x1 x2 hi hN hP
      cases N with
      | zero => omega
      | succ N =>
        obtain ⟨y0, y1, y2, e1, h1⟩ := hs i x0 x1 x2 (by omega) hP (zf3 f N)
        show ∃ r, f (zf3 f N) x0 x1 x2 = some r ∧ Q r
        rw [e1]
        exact ih (i + 1) N y0 y1 y2 (by omega) (by omega) h1
  exact h n 0 N x0 x1 x2 (by omega) hN h0
theorem zf4_inv {A B C D R : Type} {f : (A → B → C → D → Option R) → A → B → C → D → Option R} (n : Nat) (P : Nat → A → B → C → D → Prop) (Q : R → Prop) (hs : ∀ i x0 x1 x2 x3, i < n → P i x0 x1 x2 x3 → ∀ F, ∃ y0 y1 y2 y3, f F x0 x1 x2 x3 = F y0 y1 y2 y3 ∧ P (i + 1) y0 y1 y2 y3) (he : ∀ x0 x1 x2 x3, P n x0 x1 x2 x3 → ∀ F, ∃ r, f F x0 x1 x2 x3 = some r ∧ Q r) {N : Nat} (hN : n < N) {x0 : A} {x1 : B} {x2 : C} {x3 : D} (h0 : P 0 x0 x1 x2 x3) : ∃ r, zf4 f N x0 x1 x2 x3 = some r ∧ Q r := by
  have h : ∀ d i N x0 x1 x2 x3, i + d = n → d < N → P i x0 x1 x2 x3 → ∃ r, zf4 f N x0 x1 x2 x3 = some r ∧ Q r := by
    intro d
    induction d with
    | zero =>
      intro i N x0 x1 x2 x3 hi hN hP
      cases N with
      | zero => omega
      | succ N => exact he x0 x1 x2 x3 (by rw [← show i = n by omega]; exact hP) _
    | succ d ih =>
      intro i N x0 x1 x2 x3 hi hN hP
      cases N with
      | zero => omega
      | succ N =>
        obtain ⟨y0, y1, y2, y3, e1, h1⟩ := hs i x0 x1 x2 x3 (by omega) hP (zf4 f N)
        show ∃ r, f (zf4 f N) x0 x1 x2 x3 = some r ∧ Q r
        rw [e1]
        exact ih (i + 1) N y0 y1 y2 y3 (by omega) (by omega) h1
  exact h n 0 N x0 x1 x2 x3 (by omega) hN h0
theorem zf5_inv {A B C D E R : Type} {f : (A → B → C → D → E → Option R) → A → B → C → D → E → Option R} (n : Nat) (P : Nat → A → B → C → D → E → Prop) (Q : R → Prop) (hs : ∀ i x0 x1 x2 x3 x4, i < n → P i x0 x1 x2 x3 x4 → ∀ F, ∃ y0 y1 y2 y3 y4, f F x0 x1 x2 x3 x4 = F y0 y1 y2 y3 y4 ∧ P (i + 1) y0 y1 y2 y3 y4) (he : ∀ x0 x1 x2 x3 x4, P n x0 x1 x2 x3 x4 → ∀ F, ∃ r, f F x0 x1 x2 x3 x4 = some r ∧ Q r) {N : Nat} (hN : n < N) {x0 : A} {x1 : B} {x2 : C} {x3 : D} {x4 : E} (h0 : P 0 x0 x1 x2 x3 x4) : ∃ r, zf5 f N x0 x1 x2 x3 x4 = some r ∧ Q r := by
  have h : ∀ d i N x0 x1 x2 x3 x4, i + d = n → d < N → P i x0 x1 x2 x3 x4 → ∃ r, zf5 f N x0 x1 x2 x3 x4 = some r ∧ Q r := by
    intro d
    induction d with
    | zero =>
      intro i N x0 x1 x2 x3 x4 hi hN hP
      cases N with
      | zero => omega
      | succ N => exact he x0 x1 x2 x3 x4 (by rw [← show i = n by omega]; exact hP) _
    | succ d ih =>
      intro i N x0 x1 x2 x3 x4 hi hN hP
      cases N with
      | zero => omega
      | succ N =>
        obtain ⟨y0, y1, y2, y3, y4, e1, h1⟩ := hs i x0 x1 x2 x3 x4 (by omega) hP (zf5 f N)
        show ∃ r, f (zf5 f N) x0 x1 x2 x3 x4 = some r ∧ Q r
        rw [e1]
        exact ih (i + 1) N y0 y1 y2 y3 y4 (by omega) (by omega) h1
  exact h n 0 N x0 x1 x2 x3 x4 (by omega) hN h0
theorem zf6_inv {A B C D E H R : Type} {f : (A → B → C → D → E → H → Option R) → A → B → C → D → E → H → Option R} (n : Nat) (P : Nat → A → B → C → D → E → H → Prop) (Q : R → Prop) (hs : ∀ i x0 x1 x2 x3 x4 x5, i < n → P i x0 x1 x2 x3 x4 x5 → ∀ F, ∃ y0 y1 y2 y3 y4 y5, f F x0 x1 x2 x3 x4 x5 = F y0 y1 y2 y3 y4 y5 ∧ P (i + 1) y0 y1 y2 y3 y4 y5) (he : ∀ x0 x1 x2 x3 x4 x5, P n x0 x1 x2 x3 x4 x5 → ∀ F, ∃ r, f F x0 x1 x2 x3 x4 x5 = some r ∧ Q r) {N : Nat} (hN : n < N) {x0 : A} {x1 : B} {x2 : C} {x3 : D} {x4 : E} {x5 : H} (h0 : P 0 x0 x1 x2 x3 x4 x5) : ∃ r, zf6 f N x0 x1 x2 x3 x4 x5 = some r ∧ Q r := by
  have h : ∀ d i N x0 x1 x2 x3 x4 x5, i + d = n → d < N → P i x0 x1 x2 x3 x4 x5 → ∃ r, zf6 f N x0 x1 x2 x3 x4 x5 = some r ∧ Q r := by
    intro d
    induction d with
    | zero =>
      intro i N x0 x1 x2 x3 x4 x5 hi hN hP
      cases N with
      | zero => omega
      | succ N => exact he x0 x1 x2 x3 x4 x5 (by rw [← show i = n by omega]; exact hP) _
    | succ d ih =>
      intro i N x0 x1 x2 x3 x4 x5 hi hN hP
      cases N with
      | zero => omega
      | succ N =>
        obtain ⟨y0, y1, y2, y3, y4, y5, e1, h1⟩ := hs i x0 x1 x2 x3 x4 x5 (by omega) hP (zf6 f N)
        show ∃ r, f (zf6 f N) x0 x1 x2 x3 x4 x5 = some r ∧ Q r
        rw [e1]
        exact ih (i + 1) N y0 y1 y2 y3 y4 y5 (by omega) (by omega) h1
  exact h n 0 N x0 x1 x2 x3 x4 x5 (by omega) hN h0
/-! the best that is left -/
def kee (k a b : Nat) : Bool := if k = 0 then decide (a < b) else decide (b < a)
def knd (v : zV) (k p : Nat) : Bool := decide ((v (27 + p) : Nat) = k)
def bl (v : zV) (k s : Nat) : Nat → Option Nat := itr (fun p b => if knd v k p && !bit s p && (match b with | none => true | some q => kee k (v (39 + p)) (v (39 + q))) then some p else b) none
theorem bl_s {v : zV} {k s i : Nat} : bl v k s (i + 1) = if knd v k i && !bit s i && (match bl v k s i with | none => true | some q => kee k (v (39 + i)) (v (39 + q))) then some i else bl v k s i := rfl
/-- who comes ahead of whom -/
def bef (v : zV) (k o p : Nat) : Bool := kee k (v (39 + o)) (v (39 + p)) || (decide ((v (39 + o) : Nat) = (v (39 + p) : Nat)) && decide (o < p))
theorem bl_ok {v : zV} {k s : Nat} : ∀ n, match bl v k s n with
    | none => ∀ p, p < n → knd v k p = true → bit s p = true
    | some q => q < n ∧ knd v k q = true ∧ bit s q = false ∧ ∀ p, p < n → knd v k p = true → bit s p = false → p ≠ q → bef v k q p = true
  | 0 => fun p hp => by omega
  | n + 1 => by
    have ih := bl_ok (v := v) (k := k) (s := s) n
    rw [bl_s]
    cases hb : bl v k s n with
    | none =>
      rw [hb] at ih
      simp only at ih ⊢
      by_cases hc : (knd v k n && !bit s n && true) = true
      · rw [if_pos hc]
        simp only [Bool.and_true, Bool.and_eq_true, Bool.not_eq_true'] at hc
        refine ⟨by omega, hc.1, hc.2, fun p hp h1 h2 h3 => ?_⟩
        have h4 := ih p (by omega) h1
        rw [h2] at h4; cases h4
      · rw [if_neg hc]
        intro p hp h1
        by_cases hpn : p = n
        · subst hpn
          simp only [h1, Bool.true_and, Bool.and_true, Bool.not_eq_true', Bool.not_eq_false] at hc
          exact hc
        · exact ih p (by omega) h1
    | some q =>
      rw [hb] at ih
      simp only at ih ⊢
      by_cases hc : (knd v k n && !bit s n && kee k (v (39 + n)) (v (39 + q))) = true
      · rw [if_pos hc]
        simp only [Bool.and_eq_true, Bool.not_eq_true'] at hc
        refine ⟨by omega, hc.1.1, hc.1.2, fun p hp h1 h2 h3 => ?_⟩
        have h5 := hc.2
        unfold bef
        unfold kee at h5 ⊢
        by_cases hpq : p = q
        · subst hpq
          by_cases hk : k = 0 <;> simp [hk] at h5 ⊢ <;> omega
        · have h4 := ih.2.2.2 p (by omega) h1 h2 hpq
          unfold bef kee at h4
          by_cases hk : k = 0 <;> simp [hk] at h4 h5 ⊢ <;> omega
      · rw [if_neg hc]
        refine ⟨by omega, ih.2.1, ih.2.2.1, fun p hp h1 h2 h3 => ?_⟩
        by_cases hpn : p = n
        · subst hpn
          have h6 : kee k (v (39 + p)) (v (39 + q)) = false := by
            cases h7 : kee k (v (39 + p)) (v (39 + q))
            · rfl
            · rw [h1, h2, h7] at hc; simp at hc
          unfold bef
          unfold kee at h6 ⊢
          have := ih.1
          by_cases hk : k = 0 <;> simp [hk] at h6 ⊢ <;> omega
        · exact ih.2.2.2 p (by omega) h1 h2 h3
theorem C_isOfKind {U : zCS} {a : Nat} {v : zV} (h : isVal U a v) (hV : VOK v) {p k : Nat} (hp : p < (v 1 : Nat)) (hk : k < 100) : gX9_isOfKind U a (J p) (J k) = some (bJ (knd v k p)) := by
  have h6 := hV.2.2.1
  have hn : ¬ (v 1 : Nat) ≤ p := by omega
  unfold gX9_isOfKind gX9_hasPerson knd
  simp (disch := omega) only [wb1, wb2, wb3, wb4, wc1, wc2, zb1_ite, zb2_ite, zb3_ite, zb4_ite, zzc1_ite, zzc2_ite, J_lit, J_n1, J_n2, J_add, J_mul, J_lt, J_le, J_eq, J_eN, N_eJ, J_eN2, J_nn, J_lN, N_lJ, J_leN, N_leJ, NN_l0, NN_eN, bJ_0, bJ_1, bJ_ite, zbz_b, zbz_0, zbz_1, zag_J, zas_J, ite_true, ite_false, if_true, if_false, ite_self, reduceIte, not_true_eq_false, not_false_eq_true, J_o, Nat.reduceEqDiff, Nat.reduceAdd, Nat.reduceMul, Nat.reduceSub, Nat.reduceLT, Nat.reduceLeDiff, Nat.one_ne_zero, V_p h, V_ki h, eq_false hn]
  by_cases hq : (v (27 + p) : Nat) = k
  · simp only [hq, if_true, decide_true]; rfl
  · simp only [eq_false hq, if_false, decide_false]; rfl
theorem C_isKeener {k a b : Nat} (hk : k < 2) (ha : a < 100) (hb : b < 100) : gX8_isKeener (J k) (J a) (J b) = some (bJ (kee k a b)) := by
  unfold gX8_isKeener kee
  simp (disch := omega) only [wb1, wb2, wb3, wb4, wc1, wc2, zb1_ite, zb2_ite, zb3_ite, zb4_ite, zzc1_ite, zzc2_ite, J_lit, J_n1, J_n2, J_add, J_mul, J_lt, J_le, J_eq, J_eN, N_eJ, J_eN2, J_nn, J_lN, N_lJ, J_leN, N_leJ, NN_l0, NN_eN, bJ_0, bJ_1, bJ_ite, zbz_b, zbz_0, zbz_1, zag_J, zas_J, ite_true, ite_false, if_true, if_false, ite_self, reduceIte, not_true_eq_false, not_false_eq_true, J_o, Nat.reduceEqDiff, Nat.reduceAdd, Nat.reduceMul, Nat.reduceSub, Nat.reduceLT, Nat.reduceLeDiff, Nat.one_ne_zero]
  by_cases h0 : k = 0
  · by_cases h1 : a < b
    · simp [h0, h1, show ¬ b ≤ a by omega, bJ, zb1, zbz_1]
    · simp [h0, h1, show b ≤ a by omega, bJ, zb1, zbz_0]
  · by_cases h1 : b < a
    · simp [h0, h1, show ¬ a ≤ b by omega, bJ, zb1, zbz_1]
    · simp [h0, h1, show a ≤ b by omega, bJ, zb1, zbz_0]
theorem C_bestLeft {U : zCS} {a : Nat} {v : zV} (h : isVal U a v) (hV : VOK v) {k s : Nat} (hk : k < 2) (hs : s < 64) : gX8_bestLeft U a (J k) (J s) = some (oJ (bl v k s (v 1))) := by
  have h6 := hV.2.2.1
  unfold gX8_bestLeft
  have hze := zf2_run (f := gX8_bestLeft_l5 U a (J k) (J s)) (r := some (oJ (bl v k s (v 1)))) (v 1) (fun i => oJ (bl v k s i)) J (by
    intro i hi F
    rw [bl_s]
    have hbo := bl_ok (v := v) (k := k) (s := s) i
    simp (disch := omega) only [gX8_bestLeft_l5, wb1, wb2, wb3, wb4, wc1, wc2, zb1_ite, zb2_ite, zb3_ite, zb4_ite, zzc1_ite, zzc2_ite, J_lit, J_n1, J_n2, J_add, J_mul, J_lt, J_le, J_eq, J_eN, N_eJ, J_eN2, J_nn, J_lN, N_lJ, J_leN, N_leJ, NN_l0, NN_eN, bJ_0, bJ_1, bJ_ite, zbz_b, zbz_0, zbz_1, zag_J, zas_J, ite_true, ite_false, if_true, if_false, ite_self, reduceIte, not_true_eq_false, not_false_eq_true, J_o, Nat.reduceEqDiff, Nat.reduceAdd, Nat.reduceMul, Nat.reduceSub, Nat.reduceLT, Nat.reduceLeDiff, Nat.one_ne_zero, V_p h, C_isOfKind h hV, J_bit s hs i (by omega)]
    rw [if_neg (by omega)]
    cases knd v k i
    · rfl
    · cases bit s i
      · cases hb : bl v k s i with
        | none => simp (disch := omega) only [wb1, wb2, wb3, wb4, wc1, wc2, zb1_ite, zb2_ite, zb3_ite, zb4_ite, zzc1_ite, zzc2_ite, J_lit, J_n1, J_n2, J_add, J_mul, J_lt, J_le, J_eq, J_eN, N_eJ, J_eN2, J_nn, J_lN, N_lJ, J_leN, N_leJ, NN_l0, NN_eN, bJ_0, bJ_1, bJ_ite, zbz_b, zbz_0, zbz_1, zag_J, zas_J, ite_true, ite_false, if_true, if_false, ite_self, reduceIte, not_true_eq_false, not_false_eq_true, J_o, Nat.reduceEqDiff, Nat.reduceAdd, Nat.reduceMul, Nat.reduceSub, Nat.reduceLT, Nat.reduceLeDiff, Nat.one_ne_zero, oJ_n]; rfl
        | some q =>
          rw [hb] at hbo
          have hq := hbo.1
          simp (disch := omega) only [wb1, wb2, wb3, wb4, wc1, wc2, zb1_ite, zb2_ite, zb3_ite, zb4_ite, zzc1_ite, zzc2_ite, J_lit, J_n1, J_n2, J_add, J_mul, J_lt, J_le, J_eq, J_eN, N_eJ, J_eN2, J_nn, J_lN, N_lJ, J_leN, N_leJ, NN_l0, NN_eN, bJ_0, bJ_1, bJ_ite, zbz_b, zbz_0, zbz_1, zag_J, zas_J, ite_true, ite_false, if_true, if_false, ite_self, reduceIte, not_true_eq_false, not_false_eq_true, J_o, Nat.reduceEqDiff, Nat.reduceAdd, Nat.reduceMul, Nat.reduceSub, Nat.reduceLT, Nat.reduceLeDiff, Nat.one_ne_zero, oJ_s, V_wi h, C_isKeener]
          rcases Bool.eq_false_or_eq_true (kee k (v (39 + i)) (v (39 + q))) with hk2 | hk2 <;> simp [hk2, oJ]
      · rfl) (by
    intro F
    simp (disch := omega) only [gX8_bestLeft_l5, wb1, wb2, wb3, wb4, wc1, wc2, zb1_ite, zb2_ite, zb3_ite, zb4_ite, zzc1_ite, zzc2_ite, J_lit, J_n1, J_n2, J_add, J_mul, J_lt, J_le, J_eq, J_eN, N_eJ, J_eN2, J_nn, J_lN, N_lJ, J_leN, N_leJ, NN_l0, NN_eN, bJ_0, bJ_1, bJ_ite, zbz_b, zbz_0, zbz_1, zag_J, zas_J, ite_true, ite_false, if_true, if_false, ite_self, reduceIte, not_true_eq_false, not_false_eq_true, J_o, Nat.reduceEqDiff, Nat.reduceAdd, Nat.reduceMul, Nat.reduceSub, Nat.reduceLT, Nat.reduceLeDiff, Nat.one_ne_zero, V_p h]
    simp) (zfu_lt (by omega))
  exact (congrArg (zb1 · fun x => some x) hze)
/-! what stays of the reference's state -/
def Msame (M M' : zMS) : Prop := ∀ k, (1 ≤ k ∧ k ≤ 9) ∨ k = 53 → M'.2.2 k = M.2.2 k
theorem Msame_r {M : zMS} : Msame M M := fun _ _ => rfl
theorem Msame_I {M : zMS} {k : Nat} {x : Int32} : Msame M (zsI M k x) := fun _ _ => rfl
theorem Msame_L {M : zMS} {k : Nat} {x : Int64} : Msame M (zsL M k x) := fun _ _ => rfl
theorem Msame_A {M : zMS} {k : Nat} {g : Nat → Int32} (hk : 10 ≤ k ∧ k ≠ 53) : Msame M (zsA M k g) := fun j hj => if_neg (by omega)
theorem Msame_t {a b c : zMS} (h1 : Msame a b) (h2 : Msame b c) : Msame a c := fun k hk => (h2 k hk).trans (h1 k hk)
theorem isMV_I {M : zMS} {v : zV} {k : Nat} {x : Int32} (hk : k ≠ 23 ∧ k ≠ 24 ∧ k ≠ 25) (h : isMV M v) : isMV (zsI M k x) v := by
  obtain ⟨s, h1, h2, h3, h4, h5⟩ := h
  exact ⟨s, h1, by simpa [zsI, hk.1.symm] using h2, by simpa [zsI, hk.2.1.symm] using h3, by simpa [zsI, hk.2.2.symm] using h4, h5⟩
theorem isMV_A {M : zMS} {v : zV} {k : Nat} {g : Nat → Int32} (hk : k ≠ 6) (h : isMV M v) : isMV (zsA M k g) v := by
  obtain ⟨s, h1, h2, h3, h4, h5⟩ := h
  exact ⟨s, h1, h2, h3, h4, by simpa [zsA, hk.symm] using h5⟩
theorem zsI_1 {M : zMS} {k : Nat} {x : Int32} : (zsI M k x).1 k = x := if_pos rfl
theorem zsI_o {M : zMS} {k j : Nat} {x : Int32} (h : j ≠ k) : (zsI M k x).1 j = M.1 j := if_neg h
theorem zsI_a {M : zMS} {k : Nat} {x : Int32} : (zsI M k x).2.2 = M.2.2 := rfl
theorem zsA_1 {M : zMS} {k : Nat} {g : Nat → Int32} : (zsA M k g).2.2 k = g := if_pos rfl
theorem zsA_o {M : zMS} {k j : Nat} {g : Nat → Int32} (h : j ≠ k) : (zsA M k g).2.2 j = M.2.2 j := if_neg h
theorem zsA_i {M : zMS} {k : Nat} {g : Nat → Int32} : (zsA M k g).1 = M.1 := rfl
theorem upd_1 {f : Nat → Int32} {i : Nat} {x : Int32} : upd f i x i = x := by simp [upd]
theorem upd_o {f : Nat → Int32} {i j : Nat} {x : Int32} (h : j ≠ i) : upd f i x j = f j := by simp [upd, h]
/-! ranks -/
def rk (v : zV) (k p : Nat) : Nat := cnt (fun o => knd v k o && bef v k o p) (v 1)
theorem bef_ir {v : zV} {k p : Nat} : bef v k p p = false := by unfold bef kee; split <;> simp
theorem bef_tr {v : zV} {k a b c : Nat} (h1 : bef v k a b = true) (h2 : bef v k b c = true) : bef v k a c = true := by
  unfold bef kee at *
  by_cases hk : k = 0 <;> simp [hk] at h1 h2 ⊢ <;> omega
theorem bef_as {v : zV} {k a b : Nat} (h1 : bef v k a b = true) : bef v k b a = false := by
  cases h2 : bef v k b a
  · rfl
  · have := bef_tr h1 h2; rw [bef_ir] at this; cases this
theorem bef_to {v : zV} {k a b : Nat} (h : a ≠ b) (h1 : bef v k a b = false) : bef v k b a = true := by
  unfold bef kee at *
  by_cases hk : k = 0 <;> simp [hk] at h1 ⊢ <;> omega
theorem rk_lt {v : zV} {k p : Nat} (hp : p < (v 1 : Nat)) : rk v k p < (v 1 : Nat) := cnt_lt (x := p) (by rw [bef_ir, Bool.and_false]) hp
theorem rk_mo {v : zV} {k o p : Nat} (ho : o < (v 1 : Nat)) (hk : knd v k o = true) (h : bef v k o p = true) : rk v k o < rk v k p := by
  refine cnt_slt (x := o) (fun i hi h1 => ?_) ho ?_ ?_
  · rw [Bool.and_eq_true] at h1 ⊢
    exact ⟨h1.1, bef_tr h1.2 h⟩
  · rw [bef_ir, Bool.and_false]
  · rw [hk, h]; rfl
theorem rk_in {v : zV} {k o p : Nat} (ho : o < (v 1 : Nat)) (hp : p < (v 1 : Nat)) (hk : knd v k o = true) (hk2 : knd v k p = true) (h : rk v k o = rk v k p) : o = p := by
  by_cases e : o = p
  · exact e
  · cases h1 : bef v k o p
    · have := rk_mo hp hk2 (bef_to e h1); omega
    · have := rk_mo ho hk h1; omega
theorem J_subI {a b : Nat} (ha : a < 1073741824) (hb : b < 1073741824) : (J a - J b).toInt = (a : Int) - (b : Int) := by
  have h1 : J a - J b = Int32.ofInt ((a : Int) - (b : Int)) := by rw [Int32.ofInt_sub, Int32.ofInt_eq_ofNat, Int32.ofInt_eq_ofNat]; rfl
  rw [h1]
  exact Int32.toInt_ofInt_of_le (by omega) (by omega)
theorem J_subP {a b : Nat} (ha : a < 1073741824) (hb : b < 1073741824) : (J 0 < J a - J b) ↔ b < a := by
  rw [Int32.lt_iff_toInt_lt, J_subI ha hb, J_toInt (by omega)]; omega
theorem J_subE {a b : Nat} (ha : a < 1073741824) (hb : b < 1073741824) : (J a - J b = J 0) ↔ a = b := by
  constructor
  · intro h
    have h1 := congrArg Int32.toInt h
    rw [J_subI ha hb, J_toInt (by omega)] at h1
    omega
  · intro h; subst h; rw [J_sub (Nat.le_refl _), Nat.sub_self]
theorem R_isPerson {M : zMS} {v : zV} (h : isMV M v) (hV : VOK v) {p : Nat} (hp : p < 1000) : gX12_isPerson M (J p) = some (bJ (decide (p < (v 1 : Nat)))) := by
  have h6 := hV.2.2.1
  unfold gX12_isPerson
  rw [R_p h, R_in]
  by_cases h0 : (v 1 : Nat) = 0
  · rw [h0, show J 0 - 1 = NN from rfl]
    simp (disch := omega) only [wb1, wb2, wb3, wb4, wc1, wc2, zb1_ite, zb2_ite, zb3_ite, zb4_ite, zzc1_ite, zzc2_ite, J_lit, J_n1, J_n2, J_add, J_mul, J_lt, J_le, J_eq, J_eN, N_eJ, J_eN2, J_nn, J_lN, N_lJ, J_leN, N_leJ, NN_l0, NN_eN, bJ_0, bJ_1, bJ_ite, zbz_b, zbz_0, zbz_1, zag_J, zas_J, ite_true, ite_false, if_true, if_false, ite_self, reduceIte, not_true_eq_false, not_false_eq_true, J_o, Nat.reduceEqDiff, Nat.reduceAdd, Nat.reduceMul, Nat.reduceSub, Nat.reduceLT, Nat.reduceLeDiff, Nat.one_ne_zero]
    simp
  · simp (disch := omega) only [wb1, wb2, wb3, wb4, wc1, wc2, zb1_ite, zb2_ite, zb3_ite, zb4_ite, zzc1_ite, zzc2_ite, J_lit, J_n1, J_n2, J_add, J_mul, J_lt, J_le, J_eq, J_eN, N_eJ, J_eN2, J_nn, J_lN, N_lJ, J_leN, N_leJ, NN_l0, NN_eN, bJ_0, bJ_1, bJ_ite, zbz_b, zbz_0, zbz_1, zag_J, zas_J, ite_true, ite_false, if_true, if_false, ite_self, reduceIte, not_true_eq_false, not_false_eq_true, J_o, Nat.reduceEqDiff, Nat.reduceAdd, Nat.reduceMul, Nat.reduceSub, Nat.reduceLT, Nat.reduceLeDiff, Nat.one_ne_zero, J_sub]
    congr 2
    rw [decide_eq_decide]
    omega
theorem R_isKind {M : zMS} {v : zV} (h : isMV M v) (hV : VOK v) {p k : Nat} (hp : p < (v 1 : Nat)) (hk : k < 100) : gX12_isKind M (J p) (J k) = some (bJ (knd v k p)) := by
  have h6 := hV.2.2.1
  unfold gX12_isKind knd
  rw [R_isPerson h hV (by omega), decide_eq_true hp]
  simp (disch := omega) only [wb1, wb2, wb3, wb4, wc1, wc2, zb1_ite, zb2_ite, zb3_ite, zb4_ite, zzc1_ite, zzc2_ite, J_lit, J_n1, J_n2, J_add, J_mul, J_lt, J_le, J_eq, J_eN, N_eJ, J_eN2, J_nn, J_lN, N_lJ, J_leN, N_leJ, NN_l0, NN_eN, bJ_0, bJ_1, bJ_ite, zbz_b, zbz_0, zbz_1, zag_J, zas_J, ite_true, ite_false, if_true, if_false, ite_self, reduceIte, not_true_eq_false, not_false_eq_true, J_o, Nat.reduceEqDiff, Nat.reduceAdd, Nat.reduceMul, Nat.reduceSub, Nat.reduceLT, Nat.reduceLeDiff, Nat.one_ne_zero, R_of h, Bool.true_eq_false]
  by_cases hq : (v (27 + p) : Nat) = k
  · simp only [hq, if_true, decide_true]; rfl
  · simp only [eq_false hq, if_false, decide_false]; rfl
theorem R_rankOf {M : zMS} {v : zV} (h : isMV M v) (hV : VOK v) {p k : Nat} (hp : p < (v 1 : Nat)) (hk : k < 2) (hkp : knd v k p = true) : gX12_rankOf M (J p) (J (1 - k)) = some (J (rk v k p)) := by
  have h6 := hV.2.2.1
  have hkp2 := of_decide_eq_true hkp
  unfold gX12_rankOf
  have hze := zf2_run (f := gX12_rankOf_l5 M (J (1 - k)) (J p)) (r := some (J (rk v k p))) (v 1) (fun i => J (cnt (fun o => knd v k o && bef v k o p) i)) J (by
    intro i hi F
    rw [cnt_s]
    simp (disch := omega) only [gX12_rankOf_l5, wb1, wb2, wb3, wb4, wc1, wc2, zb1_ite, zb2_ite, zb3_ite, zb4_ite, zzc1_ite, zzc2_ite, J_lit, J_n1, J_n2, J_add, J_mul, J_lt, J_le, J_eq, J_eN, N_eJ, J_eN2, J_nn, J_lN, N_lJ, J_leN, N_leJ, NN_l0, NN_eN, bJ_0, bJ_1, bJ_ite, zbz_b, zbz_0, zbz_1, zag_J, zas_J, ite_true, ite_false, if_true, if_false, ite_self, reduceIte, not_true_eq_false, not_false_eq_true, J_o, Nat.reduceEqDiff, Nat.reduceAdd, Nat.reduceMul, Nat.reduceSub, Nat.reduceLT, Nat.reduceLeDiff, Nat.one_ne_zero, R_p h, R_of h, hkp2, R_isKind h hV, J_subP, J_subE]
    rw [if_neg (by omega)]
    unfold bef kee
    have : k = 0 ∨ k = 1 := by omega
    rcases this with rfl | rfl
    · simp (disch := omega) only [wb1, wb2, wb3, wb4, wc1, wc2, zb1_ite, zb2_ite, zb3_ite, zb4_ite, zzc1_ite, zzc2_ite, J_lit, J_n1, J_n2, J_add, J_mul, J_lt, J_le, J_eq, J_eN, N_eJ, J_eN2, J_nn, J_lN, N_lJ, J_leN, N_leJ, NN_l0, NN_eN, bJ_0, bJ_1, bJ_ite, zbz_b, zbz_0, zbz_1, zag_J, zas_J, ite_true, ite_false, if_true, if_false, ite_self, reduceIte, not_true_eq_false, not_false_eq_true, J_o, Nat.reduceEqDiff, Nat.reduceAdd, Nat.reduceMul, Nat.reduceSub, Nat.reduceLT, Nat.reduceLeDiff, Nat.one_ne_zero]
      cases knd v 0 i
      · simp
      · by_cases h1 : (v (39 + i) : Nat) < (v (39 + p) : Nat)
        · simp [h1]
        · by_cases h2 : (v (39 + p) : Nat) = (v (39 + i) : Nat)
          · by_cases h3 : i < p
            · simp [h2, h3, show ¬ p ≤ i by omega]
            · simp [h2, h3, show p ≤ i by omega]
          · simp [h1, h2, show ¬ (v (39 + i) : Nat) = (v (39 + p) : Nat) from fun z => h2 z.symm]
    · simp (disch := omega) only [wb1, wb2, wb3, wb4, wc1, wc2, zb1_ite, zb2_ite, zb3_ite, zb4_ite, zzc1_ite, zzc2_ite, J_lit, J_n1, J_n2, J_add, J_mul, J_lt, J_le, J_eq, J_eN, N_eJ, J_eN2, J_nn, J_lN, N_lJ, J_leN, N_leJ, NN_l0, NN_eN, bJ_0, bJ_1, bJ_ite, zbz_b, zbz_0, zbz_1, zag_J, zas_J, ite_true, ite_false, if_true, if_false, ite_self, reduceIte, not_true_eq_false, not_false_eq_true, J_o, Nat.reduceEqDiff, Nat.reduceAdd, Nat.reduceMul, Nat.reduceSub, Nat.reduceLT, Nat.reduceLeDiff, Nat.one_ne_zero]
      cases knd v 1 i
      · simp
      · by_cases h1 : (v (39 + p) : Nat) < (v (39 + i) : Nat)
        · simp [h1]
        · by_cases h2 : (v (39 + i) : Nat) = (v (39 + p) : Nat)
          · by_cases h3 : i < p
            · simp [h2, h3, show ¬ p ≤ i by omega]
            · simp [h2, h3, show p ≤ i by omega]
          · simp [h1, h2]) (by
    intro F
    simp (disch := omega) only [gX12_rankOf_l5, wb1, wb2, wb3, wb4, wc1, wc2, zb1_ite, zb2_ite, zb3_ite, zb4_ite, zzc1_ite, zzc2_ite, J_lit, J_n1, J_n2, J_add, J_mul, J_lt, J_le, J_eq, J_eN, N_eJ, J_eN2, J_nn, J_lN, N_lJ, J_leN, N_leJ, NN_l0, NN_eN, bJ_0, bJ_1, bJ_ite, zbz_b, zbz_0, zbz_1, zag_J, zas_J, ite_true, ite_false, if_true, if_false, ite_self, reduceIte, not_true_eq_false, not_false_eq_true, J_o, Nat.reduceEqDiff, Nat.reduceAdd, Nat.reduceMul, Nat.reduceSub, Nat.reduceLT, Nat.reduceLeDiff, Nat.one_ne_zero, R_p h]
    simp [rk]) (zfu_lt (by omega))
  exact (congrArg (zb1 · fun x => some x) hze)
/-- the market laid out: sellers by what they ask, buyers by what they bid -/
def isMk (M : zMS) (v : zV) (n : Nat) : Prop := M.1 39 = J (cnt (knd v 0) n) ∧ M.1 40 = J (cnt (knd v 1) n) ∧ (∀ p, p < n → knd v 0 p = true → M.2.2 37 (rk v 0 p) = J (v (39 + p))) ∧ ∀ p, p < n → knd v 1 p = true → M.2.2 38 (rk v 1 p) = J (v (39 + p))
theorem R_layMarket {M : zMS} {v : zV} (h : isMV M v) (hV : VOK v) : ∃ M', gX12_layMarket M = some M' ∧ isMV M' v ∧ Msame M M' ∧ isMk M' v (v 1) := by
  have h6 := hV.2.2.1
  unfold gX12_layMarket
  obtain ⟨r, hr, hQ⟩ := zf2_inv (f := gX12_layMarket_l12) (v 1) (fun i x m => x = J i ∧ isMV m v ∧ Msame M m ∧ isMk m v i) (fun m => isMV m v ∧ Msame M m ∧ isMk m v (v 1)) (by
    intro i x m hi hP F
    obtain ⟨rfl, hm, hs, hk⟩ := hP
    have hr0 := rk_lt (k := 0) hi
    have hr1 := rk_lt (k := 1) hi
    simp (disch := omega) only [gX12_layMarket_l12, wb1, wb2, wb3, wb4, wc1, wc2, zb1_ite, zb2_ite, zb3_ite, zb4_ite, zzc1_ite, zzc2_ite, J_lit, J_n1, J_n2, J_add, J_mul, J_lt, J_le, J_eq, J_eN, N_eJ, J_eN2, J_nn, J_lN, N_lJ, J_leN, N_leJ, NN_l0, NN_eN, bJ_0, bJ_1, bJ_ite, zbz_b, zbz_0, zbz_1, zag_J, zas_J, ite_true, ite_false, if_true, if_false, ite_self, reduceIte, not_true_eq_false, not_false_eq_true, J_o, Nat.reduceEqDiff, Nat.reduceAdd, Nat.reduceMul, Nat.reduceSub, Nat.reduceLT, Nat.reduceLeDiff, Nat.one_ne_zero, R_p hm, R_isKind hm hV]
    rw [if_neg (by omega)]
    have h2 := (hV.2.2.2.2.2.2 i hi).1
    have hc : (v (27 + i) : Nat) = 0 ∨ (v (27 + i) : Nat) = 1 ∨ (v (27 + i) : Nat) = 2 := by omega
    rcases hc with hc | hc | hc
    · have k0 : knd v 0 i = true := by unfold knd; rw [hc]; rfl
      have k1 : knd v 1 i = false := by unfold knd; rw [hc]; rfl
      have hrr := R_rankOf hm hV hi (k := 0) (by omega) k0
      simp (disch := omega) only [k0, k1, Bool.true_eq_false, wb1, wb2, wb3, wb4, wc1, wc2, zb1_ite, zb2_ite, zb3_ite, zb4_ite, zzc1_ite, zzc2_ite, J_lit, J_n1, J_n2, J_add, J_mul, J_lt, J_le, J_eq, J_eN, N_eJ, J_eN2, J_nn, J_lN, N_lJ, J_leN, N_leJ, NN_l0, NN_eN, bJ_0, bJ_1, bJ_ite, zbz_b, zbz_0, zbz_1, zag_J, zas_J, ite_true, ite_false, if_true, if_false, ite_self, reduceIte, not_true_eq_false, not_false_eq_true, J_o, Nat.reduceEqDiff, Nat.reduceAdd, Nat.reduceMul, Nat.reduceSub, Nat.reduceLT, Nat.reduceLeDiff, Nat.one_ne_zero, hrr, R_of hm, zsA_i, hk.1]
      have hm2 : isMV (zsI (zsA m 37 (upd (m.2.2 37) (rk v 0 i) (J (v (39 + i))))) 39 (J (cnt (knd v 0) i + 1))) v := isMV_I (by omega) (isMV_A (by omega) hm)
      simp (disch := omega) only [R_isKind hm2 hV, k1, wb1, wb2, wb3, wb4, wc1, wc2, zb1_ite, zb2_ite, zb3_ite, zb4_ite, zzc1_ite, zzc2_ite, J_lit, J_n1, J_n2, J_add, J_mul, J_lt, J_le, J_eq, J_eN, N_eJ, J_eN2, J_nn, J_lN, N_lJ, J_leN, N_leJ, NN_l0, NN_eN, bJ_0, bJ_1, bJ_ite, zbz_b, zbz_0, zbz_1, zag_J, zas_J, ite_true, ite_false, if_true, if_false, ite_self, reduceIte, not_true_eq_false, not_false_eq_true, J_o, Nat.reduceEqDiff, Nat.reduceAdd, Nat.reduceMul, Nat.reduceSub, Nat.reduceLT, Nat.reduceLeDiff, Nat.one_ne_zero]
      refine ⟨_, _, rfl, rfl, hm2, Msame_t hs (Msame_t (Msame_A (by omega)) Msame_I), ?_, ?_, ?_, ?_⟩
      · rw [zsI_1, cnt_s, k0]; rfl
      · rw [zsI_o (by omega), zsA_i, cnt_s, k1]; exact hk.2.1
      · intro p hp hkp
        rw [zsI_a, zsA_1]
        by_cases hpi : p = i
        · subst hpi; exact upd_1
        · rw [upd_o (fun z => hpi (rk_in (by omega) hi hkp k0 z))]
          exact hk.2.2.1 p (by omega) hkp
      · intro p hp hkp
        rw [zsI_a, zsA_o (by omega)]
        have hpi : p ≠ i := fun z => by rw [z, k1] at hkp; cases hkp
        exact hk.2.2.2 p (by omega) hkp
    · have k0 : knd v 0 i = false := by unfold knd; rw [hc]; rfl
      have k1 : knd v 1 i = true := by unfold knd; rw [hc]; rfl
      have hrr := R_rankOf hm hV hi (k := 1) (by omega) k1
      simp (disch := omega) only [k0, k1, Bool.true_eq_false, wb1, wb2, wb3, wb4, wc1, wc2, zb1_ite, zb2_ite, zb3_ite, zb4_ite, zzc1_ite, zzc2_ite, J_lit, J_n1, J_n2, J_add, J_mul, J_lt, J_le, J_eq, J_eN, N_eJ, J_eN2, J_nn, J_lN, N_lJ, J_leN, N_leJ, NN_l0, NN_eN, bJ_0, bJ_1, bJ_ite, zbz_b, zbz_0, zbz_1, zag_J, zas_J, ite_true, ite_false, if_true, if_false, ite_self, reduceIte, not_true_eq_false, not_false_eq_true, J_o, Nat.reduceEqDiff, Nat.reduceAdd, Nat.reduceMul, Nat.reduceSub, Nat.reduceLT, Nat.reduceLeDiff, Nat.one_ne_zero, R_isKind hm hV, hrr, R_of hm, zsA_i, hk.2.1]
      refine ⟨_, _, rfl, rfl, isMV_I (by omega) (isMV_A (by omega) hm), Msame_t hs (Msame_t (Msame_A (by omega)) Msame_I), ?_, ?_, ?_, ?_⟩
      · rw [zsI_o (by omega), zsA_i, cnt_s, k0]; exact hk.1
      · rw [zsI_1, cnt_s, k1]; rfl
      · intro p hp hkp
        rw [zsI_a, zsA_o (by omega)]
        have hpi : p ≠ i := fun z => by rw [z, k0] at hkp; cases hkp
        exact hk.2.2.1 p (by omega) hkp
      · intro p hp hkp
        rw [zsI_a, zsA_1]
        by_cases hpi : p = i
        · subst hpi; exact upd_1
        · rw [upd_o (fun z => hpi (rk_in (by omega) hi hkp k1 z))]
          exact hk.2.2.2 p (by omega) hkp
    · have k0 : knd v 0 i = false := by unfold knd; rw [hc]; rfl
      have k1 : knd v 1 i = false := by unfold knd; rw [hc]; rfl
      simp (disch := omega) only [k0, k1, wb1, wb2, wb3, wb4, wc1, wc2, zb1_ite, zb2_ite, zb3_ite, zb4_ite, zzc1_ite, zzc2_ite, J_lit, J_n1, J_n2, J_add, J_mul, J_lt, J_le, J_eq, J_eN, N_eJ, J_eN2, J_nn, J_lN, N_lJ, J_leN, N_leJ, NN_l0, NN_eN, bJ_0, bJ_1, bJ_ite, zbz_b, zbz_0, zbz_1, zag_J, zas_J, ite_true, ite_false, if_true, if_false, ite_self, reduceIte, not_true_eq_false, not_false_eq_true, J_o, Nat.reduceEqDiff, Nat.reduceAdd, Nat.reduceMul, Nat.reduceSub, Nat.reduceLT, Nat.reduceLeDiff, Nat.one_ne_zero, R_isKind hm hV]
      refine ⟨_, _, rfl, rfl, hm, hs, ?_, ?_, ?_, ?_⟩
      · rw [cnt_s, k0]; exact hk.1
      · rw [cnt_s, k1]; exact hk.2.1
      · intro p hp hkp
        have hpi : p ≠ i := fun z => by rw [z, k0] at hkp; cases hkp
        exact hk.2.2.1 p (by omega) hkp
      · intro p hp hkp
        have hpi : p ≠ i := fun z => by rw [z, k1] at hkp; cases hkp
        exact hk.2.2.2 p (by omega) hkp) (by
    intro x m hP F
    obtain ⟨rfl, hm, hs, hk⟩ := hP
    simp (disch := omega) only [gX12_layMarket_l12, wb1, wb2, wb3, wb4, wc1, wc2, zb1_ite, zb2_ite, zb3_ite, zb4_ite, zzc1_ite, zzc2_ite, J_lit, J_n1, J_n2, J_add, J_mul, J_lt, J_le, J_eq, J_eN, N_eJ, J_eN2, J_nn, J_lN, N_lJ, J_leN, N_leJ, NN_l0, NN_eN, bJ_0, bJ_1, bJ_ite, zbz_b, zbz_0, zbz_1, zag_J, zas_J, ite_true, ite_false, if_true, if_false, ite_self, reduceIte, not_true_eq_false, not_false_eq_true, J_o, Nat.reduceEqDiff, Nat.reduceAdd, Nat.reduceMul, Nat.reduceSub, Nat.reduceLT, Nat.reduceLeDiff, Nat.one_ne_zero, R_p hm]
    rw [if_pos (Nat.le_refl _)]
    exact ⟨m, rfl, hm, hs, hk⟩) (zfu_lt (n := (v 1 : Nat)) (by omega)) (x0 := J 0) (x1 := zsI (zsI M 39 0) 40 0) ⟨rfl, isMV_I (by omega) (isMV_I (by omega) h), Msame_t Msame_I Msame_I, rfl, rfl, fun p hp => by omega, fun p hp => by omega⟩
  exact ⟨r, congrArg (zb1 · fun x => some x) hr, hQ⟩
/-! couples -/
def gsq (v : zV) (k : Nat) : Nat → Nat
  | 0 => 0
  | i + 1 => match bl v k (gsq v k i) (v 1) with
    | some q => gsq v k i ||| 2 ^ q
    | none => gsq v k i
theorem gsq_s {v : zV} {k i : Nat} : gsq v k (i + 1) = match bl v k (gsq v k i) (v 1) with
    | some q => gsq v k i ||| 2 ^ q
    | none => gsq v k i := rfl
def qth (v : zV) (k i : Nat) : Option Nat := bl v k (gsq v k i) (v 1)
theorem bit_or {s q p : Nat} : bit (s ||| 2 ^ q) p = (bit s p || decide (p = q)) := by
  unfold bit
  rw [Nat.testBit_or, Nat.testBit_two_pow]
  by_cases h : q = p
  · simp [h]
  · simp [h, show ¬ p = q from fun z => h z.symm]
theorem or_64 {s q : Nat} (hs : s < 64) (hq : q < 6) : s ||| 2 ^ q < 64 := Nat.or_lt_two_pow (n := 6) hs (Nat.pow_lt_pow_right (by decide) hq)
theorem gsq_ok {v : zV} (hV : VOK v) {k : Nat} : ∀ i, i ≤ cnt (knd v k) (v 1) → gsq v k i < 64 ∧ (∀ p, p < (v 1 : Nat) → bit (gsq v k i) p = true → knd v k p = true) ∧ (∀ o p, o < (v 1 : Nat) → p < (v 1 : Nat) → bit (gsq v k i) p = true → knd v k o = true → bef v k o p = true → bit (gsq v k i) o = true) ∧ cnt (fun p => bit (gsq v k i) p) (v 1) = i
  | 0, _ => ⟨by show 0 < 64; omega, fun p hp h => by simp [gsq, bit] at h, fun o p _ _ h => by simp [gsq, bit] at h, by
      rw [cnt_c (q := fun _ => false) (fun i hi => by simp [gsq, bit])]
      generalize (v 1 : Nat) = N
      induction N with
      | zero => rfl
      | succ N ih => rw [cnt_s, ih]; rfl⟩
  | i + 1, hi => by
    obtain ⟨h1, h2, h3, h4⟩ := gsq_ok hV (k := k) i (by omega)
    have h6 := hV.2.2.1
    have hb := bl_ok (v := v) (k := k) (s := gsq v k i) (v 1)
    cases hc : bl v k (gsq v k i) (v 1) with
    | none =>
      rw [hc] at hb
      exfalso
      have : cnt (knd v k) (v 1) ≤ cnt (fun p => bit (gsq v k i) p) (v 1) := cnt_mono hb
      omega
    | some q =>
      rw [hc] at hb
      rw [gsq_s, hc]
      simp only
      refine ⟨or_64 (q := q) h1 (by have := hb.1; omega), ?_, ?_, ?_⟩
      · intro p hp hq
        rw [bit_or, Bool.or_eq_true, decide_eq_true_eq] at hq
        rcases hq with hq | rfl
        · exact h2 p hp hq
        · exact hb.2.1
      · intro o p ho hp hq hko hbe
        rw [bit_or, Bool.or_eq_true, decide_eq_true_eq] at hq ⊢
        rcases hq with hq | rfl
        · exact .inl (h3 o p ho hp hq hko hbe)
        · cases hbo : bit (gsq v k i) o
          · by_cases hoq : o = p
            · exact .inr hoq
            · have := bef_as (hb.2.2.2 o ho hko hbo hoq)
              rw [hbe] at this; cases this
          · exact .inl rfl
      · rw [cnt_del (x := q) (by rw [bit_or]; simp) hb.1]
        congr 1
        refine (cnt_c (fun p _ => ?_)).trans h4
        rw [bit_or]
        by_cases hpq : p = q
        · subst hpq; simp [hb.2.2.1]
        · simp [hpq]
theorem qth_s {v : zV} (hV : VOK v) {k i : Nat} (hi : i < cnt (knd v k) (v 1)) : ∃ q, qth v k i = some q ∧ q < (v 1 : Nat) ∧ knd v k q = true ∧ rk v k q = i := by
  obtain ⟨h1, h2, h3, h4⟩ := gsq_ok hV (k := k) i (by omega)
  have hb := bl_ok (v := v) (k := k) (s := gsq v k i) (v 1)
  unfold qth
  cases hc : bl v k (gsq v k i) (v 1) with
  | none =>
    rw [hc] at hb
    exfalso
    have : cnt (knd v k) (v 1) ≤ cnt (fun p => bit (gsq v k i) p) (v 1) := cnt_mono hb
    omega
  | some q =>
    rw [hc] at hb
    refine ⟨q, rfl, hb.1, hb.2.1, ?_⟩
    rw [← h4]
    refine cnt_c (fun o ho => ?_)
    cases hbo : bit (gsq v k i) o
    · cases hko : knd v k o
      · rfl
      · by_cases hoq : o = q
        · subst hoq; rw [bef_ir]; rfl
        · rw [bef_as (hb.2.2.2 o ho hko hbo hoq)]; rfl
    · have hko := h2 o ho hbo
      rw [hko]
      cases hbe : bef v k o q
      · have hoq : o ≠ q := fun z => by rw [z, hb.2.2.1] at hbo; cases hbo
        have := h3 q o hb.1 ho hbo hb.2.1 (bef_to hoq hbe)
        rw [hb.2.2.1] at this; cases this
      · rfl
theorem gsq_n {v : zV} (hV : VOK v) {k : Nat} : ∀ d, bl v k (gsq v k (cnt (knd v k) (v 1) + d)) (v 1) = none ∧ gsq v k (cnt (knd v k) (v 1) + d) = gsq v k (cnt (knd v k) (v 1))
  | 0 => by
    obtain ⟨h1, h2, h3, h4⟩ := gsq_ok hV (k := k) _ (Nat.le_refl _)
    have hb := bl_ok (v := v) (k := k) (s := gsq v k (cnt (knd v k) (v 1))) (v 1)
    refine ⟨?_, rfl⟩
    cases hc : bl v k (gsq v k (cnt (knd v k) (v 1) + 0)) (v 1) with
    | none => rfl
    | some q =>
      rw [Nat.add_zero] at hc
      rw [hc] at hb
      exfalso
      have : cnt (fun p => bit (gsq v k (cnt (knd v k) (v 1))) p) (v 1) < cnt (knd v k) (v 1) := cnt_slt (x := q) h2 hb.1 hb.2.2.1 hb.2.1
      omega
  | d + 1 => by
    obtain ⟨h1, h2⟩ := gsq_n hV (k := k) d
    have h3 : gsq v k (cnt (knd v k) (v 1) + (d + 1)) = gsq v k (cnt (knd v k) (v 1)) := by
      show (match bl v k (gsq v k (cnt (knd v k) (v 1) + d)) (v 1) with | some q => gsq v k (cnt (knd v k) (v 1) + d) ||| 2 ^ q | none => gsq v k (cnt (knd v k) (v 1) + d)) = _
      rw [h1, h2]
    refine ⟨?_, h3⟩
    rw [h3, ← h2]
    exact h1
theorem qth_n {v : zV} (hV : VOK v) {k i : Nat} (hi : cnt (knd v k) (v 1) ≤ i) : qth v k i = none := by
  obtain ⟨d, rfl⟩ := Nat.exists_eq_add_of_le hi
  exact (gsq_n hV d).1
def gnc (v : zV) (c : Nat) : Option Nat := match qth v 0 c, qth v 1 c with
  | some s, some b => if (v (39 + s) : Nat) ≤ (v (39 + b) : Nat) then some ((v (39 + b) : Nat) - (v (39 + s) : Nat)) else none
  | _, _ => none
theorem gnc_lt {v : zV} {c n : Nat} (h : gnc v c = some n) : n < 100 := by
  unfold gnc at h
  split at h
  · split at h
    · cases h; omega
    · cases h
  · cases h
theorem gsq_64 {v : zV} (hV : VOK v) {k : Nat} (i : Nat) : gsq v k i < 64 := by
  by_cases h : i ≤ cnt (knd v k) (v 1)
  · exact (gsq_ok hV i h).1
  · obtain ⟨d, rfl⟩ := Nat.exists_eq_add_of_le (Nat.le_of_lt (Nat.not_le.mp h))
    rw [(gsq_n hV d).2]
    exact (gsq_ok hV _ (Nat.le_refl _)).1
theorem C_gainOfCouple {U : zCS} {a : Nat} {v : zV} (h : isVal U a v) (hV : VOK v) {c : Nat} (hc : c < 100) : gX8_gainOfCouple U a (J c) = some (oJ (gnc v c)) := by
  have h6 := hV.2.2.1
  have stp : ∀ i s b x y F, i ≤ c → qth v 0 i = some s → qth v 1 i = some b → gX8_gainOfCouple_l13 (J c) U a F (J (gsq v 0 i)) (J (gsq v 1 i)) x y (J i) = F (J (gsq v 0 (i + 1))) (J (gsq v 1 (i + 1))) (J s) (J b) (J (i + 1)) := by
    intro i s b x y F hi hs hb
    have l0 := bl_ok (v := v) (k := 0) (s := gsq v 0 i) (v 1)
    have l1 := bl_ok (v := v) (k := 1) (s := gsq v 1 i) (v 1)
    have e0 : gsq v 0 (i + 1) = gsq v 0 i ||| 2 ^ s := by
      show (match qth v 0 i with | some q => gsq v 0 i ||| 2 ^ q | none => gsq v 0 i) = _
      rw [hs]
    have e1 : gsq v 1 (i + 1) = gsq v 1 i ||| 2 ^ b := by
      show (match qth v 1 i with | some q => gsq v 1 i ||| 2 ^ q | none => gsq v 1 i) = _
      rw [hb]
    unfold qth at hs hb
    rw [hs] at l0
    rw [hb] at l1
    have hs6 := l0.1
    have hb6 := l1.1
    simp (disch := omega) only [gX8_gainOfCouple_l13, wb1, wb2, wb3, wb4, wc1, wc2, zb1_ite, zb2_ite, zb3_ite, zb4_ite, zzc1_ite, zzc2_ite, J_lit, J_n1, J_n2, J_add, J_mul, J_lt, J_le, J_eq, J_eN, N_eJ, J_eN2, J_nn, J_lN, N_lJ, J_leN, N_leJ, NN_l0, NN_eN, bJ_0, bJ_1, bJ_ite, zbz_b, zbz_0, zbz_1, zag_J, zas_J, ite_true, ite_false, if_true, if_false, ite_self, reduceIte, not_true_eq_false, not_false_eq_true, J_o, Nat.reduceEqDiff, Nat.reduceAdd, Nat.reduceMul, Nat.reduceSub, Nat.reduceLT, Nat.reduceLeDiff, Nat.one_ne_zero, C_bestLeft h hV (k := 0) (by omega) (gsq_64 hV (k := 0) i), C_bestLeft h hV (k := 1) (by omega) (gsq_64 hV (k := 1) i), hs, hb, oJ_s, J_shl, J_or]
    rw [if_neg (by omega), e0, e1]
  unfold gX8_gainOfCouple
  rw [show (0 : Int32) = J 0 from rfl, show (-1 : Int32) = NN from rfl]
  by_cases hn : c < cnt (knd v 0) (v 1) ∧ c < cnt (knd v 1) (v 1)
  · have hq0 : ∀ i, ∃ s, i ≤ c → qth v 0 i = some s ∧ s < (v 1 : Nat) := fun i => by
      by_cases hi : i ≤ c
      · obtain ⟨s, h1, h2, -⟩ := qth_s hV (k := 0) (i := i) (by omega)
        exact ⟨s, fun _ => ⟨h1, h2⟩⟩
      · exact ⟨0, fun z => absurd z hi⟩
    have hq1 : ∀ i, ∃ s, i ≤ c → qth v 1 i = some s ∧ s < (v 1 : Nat) := fun i => by
      by_cases hi : i ≤ c
      · obtain ⟨s, h1, h2, -⟩ := qth_s hV (k := 1) (i := i) (by omega)
        exact ⟨s, fun _ => ⟨h1, h2⟩⟩
      · exact ⟨0, fun z => absurd z hi⟩
    obtain ⟨f0, hf0⟩ := Classical.axiomOfChoice hq0
    obtain ⟨f1, hf1⟩ := Classical.axiomOfChoice hq1
    have hs1 := hf0 c (Nat.le_refl _)
    have hb1 := hf1 c (Nat.le_refl _)
    refine zf5_run (f := gX8_gainOfCouple_l13 (J c) U a) (c + 1) (fun i => J (gsq v 0 i)) (fun i => J (gsq v 1 i)) (fun i => if i = 0 then NN else J (f0 (i - 1))) (fun i => if i = 0 then NN else J (f1 (i - 1))) J (fun i hi F => ?_) (fun F => ?_) (zfu_lt (by omega))
    · rw [if_neg (Nat.succ_ne_zero i), if_neg (Nat.succ_ne_zero i), Nat.add_sub_cancel]
      exact stp i _ _ _ _ F (by omega) (hf0 i (by omega)).1 (hf1 i (by omega)).1
    · rw [if_neg (Nat.succ_ne_zero c), if_neg (Nat.succ_ne_zero c), Nat.add_sub_cancel]
      unfold gnc
      rw [hs1.1, hb1.1]
      simp (disch := omega) only [gX8_gainOfCouple_l13, wb1, wb2, wb3, wb4, wc1, wc2, zb1_ite, zb2_ite, zb3_ite, zb4_ite, zzc1_ite, zzc2_ite, J_lit, J_n1, J_n2, J_add, J_mul, J_lt, J_le, J_eq, J_eN, N_eJ, J_eN2, J_nn, J_lN, N_lJ, J_leN, N_leJ, NN_l0, NN_eN, bJ_0, bJ_1, bJ_ite, zbz_b, zbz_0, zbz_1, zag_J, zas_J, ite_true, ite_false, if_true, if_false, ite_self, reduceIte, not_true_eq_false, not_false_eq_true, J_o, Nat.reduceEqDiff, Nat.reduceAdd, Nat.reduceMul, Nat.reduceSub, Nat.reduceLT, Nat.reduceLeDiff, Nat.one_ne_zero, V_wi h]
      by_cases hw : (v (39 + f0 c) : Nat) ≤ (v (39 + f1 c) : Nat)
      · simp (disch := omega) only [wb1, wb2, wb3, wb4, wc1, wc2, zb1_ite, zb2_ite, zb3_ite, zb4_ite, zzc1_ite, zzc2_ite, J_lit, J_n1, J_n2, J_add, J_mul, J_lt, J_le, J_eq, J_eN, N_eJ, J_eN2, J_nn, J_lN, N_lJ, J_leN, N_leJ, NN_l0, NN_eN, bJ_0, bJ_1, bJ_ite, zbz_b, zbz_0, zbz_1, zag_J, zas_J, ite_true, ite_false, if_true, if_false, ite_self, reduceIte, not_true_eq_false, not_false_eq_true, J_o, Nat.reduceEqDiff, Nat.reduceAdd, Nat.reduceMul, Nat.reduceSub, Nat.reduceLT, Nat.reduceLeDiff, Nat.one_ne_zero, J_sub, hw]
        simp [hw, oJ]
      · simp [hw, oJ]
  · -- the first that is wanting
    have hg : gnc v c = none := by
      unfold gnc
      by_cases h0 : c < cnt (knd v 0) (v 1)
      · rw [qth_n hV (k := 1) (i := c) (by omega)]
        cases qth v 0 c <;> rfl
      · rw [qth_n hV (k := 0) (i := c) (by omega)]
    rw [hg]
    have hmin : ∃ n, n ≤ c ∧ n ≤ cnt (knd v 0) (v 1) ∧ n ≤ cnt (knd v 1) (v 1) ∧ (qth v 0 n = none ∨ qth v 1 n = none) := by
      by_cases h0 : cnt (knd v 0) (v 1) ≤ cnt (knd v 1) (v 1)
      · exact ⟨cnt (knd v 0) (v 1), by omega, Nat.le_refl _, h0, .inl (qth_n hV (Nat.le_refl _))⟩
      · exact ⟨cnt (knd v 1) (v 1), by omega, by omega, Nat.le_refl _, .inr (qth_n hV (Nat.le_refl _))⟩
    obtain ⟨n, hnc, hn0, hn1, hnn⟩ := hmin
    have hq0 : ∀ i, ∃ s, i < n → qth v 0 i = some s ∧ s < (v 1 : Nat) := fun i => by
      by_cases hi : i < n
      · obtain ⟨s, h1, h2, -⟩ := qth_s hV (k := 0) (i := i) (by omega)
        exact ⟨s, fun _ => ⟨h1, h2⟩⟩
      · exact ⟨0, fun z => absurd z hi⟩
    have hq1 : ∀ i, ∃ s, i < n → qth v 1 i = some s ∧ s < (v 1 : Nat) := fun i => by
      by_cases hi : i < n
      · obtain ⟨s, h1, h2, -⟩ := qth_s hV (k := 1) (i := i) (by omega)
        exact ⟨s, fun _ => ⟨h1, h2⟩⟩
      · exact ⟨0, fun z => absurd z hi⟩
    obtain ⟨f0, hf0⟩ := Classical.axiomOfChoice hq0
    obtain ⟨f1, hf1⟩ := Classical.axiomOfChoice hq1
    refine zf5_run (f := gX8_gainOfCouple_l13 (J c) U a) n (fun i => J (gsq v 0 i)) (fun i => J (gsq v 1 i)) (fun i => if i = 0 then NN else J (f0 (i - 1))) (fun i => if i = 0 then NN else J (f1 (i - 1))) J (fun i hi F => ?_) (fun F => ?_) (zfu_lt (by omega))
    · rw [if_neg (Nat.succ_ne_zero i), if_neg (Nat.succ_ne_zero i), Nat.add_sub_cancel]
      exact stp i _ _ _ _ F (by omega) (hf0 i hi).1 (hf1 i hi).1
    · generalize (if n = 0 then NN else J (f0 (n - 1))) = x
      generalize (if n = 0 then NN else J (f1 (n - 1))) = y
      unfold qth at hnn
      simp (disch := omega) only [gX8_gainOfCouple_l13, wb1, wb2, wb3, wb4, wc1, wc2, zb1_ite, zb2_ite, zb3_ite, zb4_ite, zzc1_ite, zzc2_ite, J_lit, J_n1, J_n2, J_add, J_mul, J_lt, J_le, J_eq, J_eN, N_eJ, J_eN2, J_nn, J_lN, N_lJ, J_leN, N_leJ, NN_l0, NN_eN, bJ_0, bJ_1, bJ_ite, zbz_b, zbz_0, zbz_1, zag_J, zas_J, ite_true, ite_false, if_true, if_false, ite_self, reduceIte, not_true_eq_false, not_false_eq_true, J_o, Nat.reduceEqDiff, Nat.reduceAdd, Nat.reduceMul, Nat.reduceSub, Nat.reduceLT, Nat.reduceLeDiff, Nat.one_ne_zero, C_bestLeft h hV (k := 0) (by omega) (gsq_64 hV (k := 0) n), C_bestLeft h hV (k := 1) (by omega) (gsq_64 hV (k := 1) n)]
      rw [if_neg (by omega)]
      rcases hnn with hnn | hnn
      · rw [hnn]; rfl
      · rw [hnn]
        simp only [oJ_n, if_true]
        split <;> rfl
/-- how many couples trade, and what they gain -/
def cpl (v : zV) : Nat := match fstI (fun c => (gnc v c).isNone) 6 with
  | some c => c
  | none => 6
def gsm (v : zV) : Nat → Nat := itr (fun c x => x + (gnc v c).getD 0) 0
theorem gsm_le {v : zV} : ∀ n, gsm v n ≤ 100 * n
  | 0 => Nat.le_refl _
  | n + 1 => by
    have h1 := gsm_le (v := v) n
    have h2 : (gnc v n).getD 0 < 100 := by
      cases hg : gnc v n with
      | none => simp
      | some x => simpa using gnc_lt hg
    show gsm v n + (gnc v n).getD 0 ≤ _
    omega
theorem cpl_le {v : zV} : cpl v ≤ 6 := by
  unfold cpl
  cases h : fstI (fun c => (gnc v c).isNone) 6 with
  | none => exact Nat.le_refl _
  | some c => exact Nat.le_of_lt (fstI_s h).1
theorem cpl_b {v : zV} {c : Nat} (hc : c < cpl v) : (gnc v c).isSome = true := by
  unfold cpl at hc
  cases h : fstI (fun c => (gnc v c).isNone) 6 with
  | none =>
    rw [h] at hc
    have := fstI_n h c hc
    cases hg : gnc v c with
    | none => rw [hg] at this; cases this
    | some _ => rfl
  | some d =>
    rw [h] at hc
    have := (fstI_s h).2.2 c hc
    cases hg : gnc v c with
    | none => rw [hg] at this; cases this
    | some _ => rfl
theorem C_couples {U : zCS} {a : Nat} {v : zV} (h : isVal U a v) (hV : VOK v) : gX8_couples U a = some (J (cpl v)) := by
  unfold gX8_couples
  have hze := zf1_find (f := gX8_couples_l2 U a) 6 (fun c => (gnc v c).isNone) (fun i => some (J i)) (some (J 6)) (by omega) (by
    intro i hi hp F
    simp (disch := omega) only [gX8_couples_l2, wb1, wb2, wb3, wb4, wc1, wc2, zb1_ite, zb2_ite, zb3_ite, zb4_ite, zzc1_ite, zzc2_ite, J_lit, J_n1, J_n2, J_add, J_mul, J_lt, J_le, J_eq, J_eN, N_eJ, J_eN2, J_nn, J_lN, N_lJ, J_leN, N_leJ, NN_l0, NN_eN, bJ_0, bJ_1, bJ_ite, zbz_b, zbz_0, zbz_1, zag_J, zas_J, ite_true, ite_false, if_true, if_false, ite_self, reduceIte, not_true_eq_false, not_false_eq_true, J_o, Nat.reduceEqDiff, Nat.reduceAdd, Nat.reduceMul, Nat.reduceSub, Nat.reduceLT, Nat.reduceLeDiff, Nat.one_ne_zero, C_gainOfCouple h hV]
    rw [if_neg (by omega)]
    cases hg : gnc v i with
    | none => rw [hg] at hp; cases hp
    | some x =>
      have := gnc_lt hg
      simp (disch := omega) only [wb1, wb2, wb3, wb4, wc1, wc2, zb1_ite, zb2_ite, zb3_ite, zb4_ite, zzc1_ite, zzc2_ite, J_lit, J_n1, J_n2, J_add, J_mul, J_lt, J_le, J_eq, J_eN, N_eJ, J_eN2, J_nn, J_lN, N_lJ, J_leN, N_leJ, NN_l0, NN_eN, bJ_0, bJ_1, bJ_ite, zbz_b, zbz_0, zbz_1, zag_J, zas_J, ite_true, ite_false, if_true, if_false, ite_self, reduceIte, not_true_eq_false, not_false_eq_true, J_o, Nat.reduceEqDiff, Nat.reduceAdd, Nat.reduceMul, Nat.reduceSub, Nat.reduceLT, Nat.reduceLeDiff, Nat.one_ne_zero, oJ_s]) (by
    intro i hi hp F
    simp (disch := omega) only [gX8_couples_l2, wb1, wb2, wb3, wb4, wc1, wc2, zb1_ite, zb2_ite, zb3_ite, zb4_ite, zzc1_ite, zzc2_ite, J_lit, J_n1, J_n2, J_add, J_mul, J_lt, J_le, J_eq, J_eN, N_eJ, J_eN2, J_nn, J_lN, N_lJ, J_leN, N_leJ, NN_l0, NN_eN, bJ_0, bJ_1, bJ_ite, zbz_b, zbz_0, zbz_1, zag_J, zas_J, ite_true, ite_false, if_true, if_false, ite_self, reduceIte, not_true_eq_false, not_false_eq_true, J_o, Nat.reduceEqDiff, Nat.reduceAdd, Nat.reduceMul, Nat.reduceSub, Nat.reduceLT, Nat.reduceLeDiff, Nat.one_ne_zero, C_gainOfCouple h hV]
    rw [if_neg (by omega)]
    cases hg : gnc v i with
    | none => simp (disch := omega) only [wb1, wb2, wb3, wb4, wc1, wc2, zb1_ite, zb2_ite, zb3_ite, zb4_ite, zzc1_ite, zzc2_ite, J_lit, J_n1, J_n2, J_add, J_mul, J_lt, J_le, J_eq, J_eN, N_eJ, J_eN2, J_nn, J_lN, N_lJ, J_leN, N_leJ, NN_l0, NN_eN, bJ_0, bJ_1, bJ_ite, zbz_b, zbz_0, zbz_1, zag_J, zas_J, ite_true, ite_false, if_true, if_false, ite_self, reduceIte, not_true_eq_false, not_false_eq_true, J_o, Nat.reduceEqDiff, Nat.reduceAdd, Nat.reduceMul, Nat.reduceSub, Nat.reduceLT, Nat.reduceLeDiff, Nat.one_ne_zero, oJ_n]
    | some x => rw [hg] at hp; cases hp) (by
    intro F
    simp (disch := omega) only [gX8_couples_l2, wb1, wb2, wb3, wb4, wc1, wc2, zb1_ite, zb2_ite, zb3_ite, zb4_ite, zzc1_ite, zzc2_ite, J_lit, J_n1, J_n2, J_add, J_mul, J_lt, J_le, J_eq, J_eN, N_eJ, J_eN2, J_nn, J_lN, N_lJ, J_leN, N_leJ, NN_l0, NN_eN, bJ_0, bJ_1, bJ_ite, zbz_b, zbz_0, zbz_1, zag_J, zas_J, ite_true, ite_false, if_true, if_false, ite_self, reduceIte, not_true_eq_false, not_false_eq_true, J_o, Nat.reduceEqDiff, Nat.reduceAdd, Nat.reduceMul, Nat.reduceSub, Nat.reduceLT, Nat.reduceLeDiff, Nat.one_ne_zero])
  rw [show (0 : Int32) = J 0 from rfl, hze]
  unfold cpl
  cases fstI (fun c => (gnc v c).isNone) 6 <;> rfl
theorem C_gain {U : zCS} {a : Nat} {v : zV} (h : isVal U a v) (hV : VOK v) : gX8_gain U a = some (J (gsm v (cpl v))) := by
  have hcl := @cpl_le v
  unfold gX8_gain
  rw [C_couples h hV]
  have hze := zf2_run (f := gX8_gain_l9 (J (cpl v)) U a) (r := some (J (gsm v (cpl v)))) (cpl v) (fun i => J (gsm v i)) J (by
    intro i hi F
    have h1 := cpl_b hi
    simp (disch := omega) only [gX8_gain_l9, wb1, wb2, wb3, wb4, wc1, wc2, zb1_ite, zb2_ite, zb3_ite, zb4_ite, zzc1_ite, zzc2_ite, J_lit, J_n1, J_n2, J_add, J_mul, J_lt, J_le, J_eq, J_eN, N_eJ, J_eN2, J_nn, J_lN, N_lJ, J_leN, N_leJ, NN_l0, NN_eN, bJ_0, bJ_1, bJ_ite, zbz_b, zbz_0, zbz_1, zag_J, zas_J, ite_true, ite_false, if_true, if_false, ite_self, reduceIte, not_true_eq_false, not_false_eq_true, J_o, Nat.reduceEqDiff, Nat.reduceAdd, Nat.reduceMul, Nat.reduceSub, Nat.reduceLT, Nat.reduceLeDiff, Nat.one_ne_zero, C_gainOfCouple h hV]
    rw [if_neg (by omega), show gsm v (i + 1) = gsm v i + (gnc v i).getD 0 from rfl]
    cases hg : gnc v i with
    | none => rw [hg] at h1; cases h1
    | some x => simp (disch := omega) only [wb1, wb2, wb3, wb4, wc1, wc2, zb1_ite, zb2_ite, zb3_ite, zb4_ite, zzc1_ite, zzc2_ite, J_lit, J_n1, J_n2, J_add, J_mul, J_lt, J_le, J_eq, J_eN, N_eJ, J_eN2, J_nn, J_lN, N_lJ, J_leN, N_leJ, NN_l0, NN_eN, bJ_0, bJ_1, bJ_ite, zbz_b, zbz_0, zbz_1, zag_J, zas_J, ite_true, ite_false, if_true, if_false, ite_self, reduceIte, not_true_eq_false, not_false_eq_true, J_o, Nat.reduceEqDiff, Nat.reduceAdd, Nat.reduceMul, Nat.reduceSub, Nat.reduceLT, Nat.reduceLeDiff, Nat.one_ne_zero, oJ_s]; rfl) (by
    intro F
    simp (disch := omega) only [gX8_gain_l9, wb1, wb2, wb3, wb4, wc1, wc2, zb1_ite, zb2_ite, zb3_ite, zb4_ite, zzc1_ite, zzc2_ite, J_lit, J_n1, J_n2, J_add, J_mul, J_lt, J_le, J_eq, J_eN, N_eJ, J_eN2, J_nn, J_lN, N_lJ, J_leN, N_leJ, NN_l0, NN_eN, bJ_0, bJ_1, bJ_ite, zbz_b, zbz_0, zbz_1, zag_J, zas_J, ite_true, ite_false, if_true, if_false, ite_self, reduceIte, not_true_eq_false, not_false_eq_true, J_o, Nat.reduceEqDiff, Nat.reduceAdd, Nat.reduceMul, Nat.reduceSub, Nat.reduceLT, Nat.reduceLeDiff, Nat.one_ne_zero]
    simp) (zfu_lt (by omega))
  exact (congrArg (zb1 · fun x => some x) hze)
