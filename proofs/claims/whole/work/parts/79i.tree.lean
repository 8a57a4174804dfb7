/-! the shortest talk, by itself: trees by levels, and by a budget -/
def mnf (g : Nat → Nat) : Nat → Nat := itr (fun i y => min y (g i)) 1000000
theorem mnf_s {g : Nat → Nat} {n : Nat} : mnf g (n + 1) = min (mnf g n) (g n) := rfl
theorem mnf_B {g : Nat → Nat} : ∀ n, mnf g n ≤ 1000000
  | 0 => Nat.le_refl _
  | n + 1 => by have := mnf_B (g := g) n; rw [mnf_s]; omega
theorem mnf_le {g : Nat → Nat} {i : Nat} : ∀ {n}, i < n → mnf g n ≤ g i
  | 0, h => by omega
  | n + 1, h => by
    rw [mnf_s]
    by_cases hi : i = n
    · subst hi; omega
    · have := mnf_le (g := g) (i := i) (n := n) (by omega)
      omega
theorem mnf_at {g : Nat → Nat} : ∀ n, mnf g n = 1000000 ∨ ∃ i, i < n ∧ mnf g n = g i
  | 0 => .inl rfl
  | n + 1 => by
    rw [mnf_s]
    rcases mnf_at (g := g) n with h | ⟨i, h1, h2⟩
    · by_cases hg : g n ≤ 1000000
      · exact .inr ⟨n, by omega, by omega⟩
      · exact .inl (by omega)
    · by_cases hg : g n ≤ mnf g n
      · exact .inr ⟨n, by omega, by omega⟩
      · exact .inr ⟨i, by omega, by omega⟩
def wF (h : Nat → Nat) : Nat → Nat → Nat
  | 0, _ => 0
  | r + 1, k => h k + wF h r (k + 1)
def fT (h : Nat → Nat) : Nat → Nat → Nat → Nat
  | 0, r, o => if r ≤ o then 0 else 1000000
  | l + 1, r, o => if r ≤ o then 0 else mnf (fun e => fT h l (r - e) (2 * (o - e)) + wF h (r - e) (8 - (r - e))) o
def dT (h : Nat → Nat) (x : Nat) : Nat → Nat → Nat
  | 0, _ => 0
  | r + 1, B => mnf (fun j => if B < 2 ^ (x - (j + 1)) then 1000000 else (j + 1) * h (7 - r) + dT h x r (B - 2 ^ (x - (j + 1)))) x
theorem fT_B {h : Nat → Nat} {l r o : Nat} : fT h l r o ≤ 1000000 := by
  cases l with
  | zero => unfold fT; split <;> omega
  | succ l => unfold fT; split; omega; exact mnf_B _
theorem dT_B {h : Nat → Nat} {x r B : Nat} : dT h x r B ≤ 1000000 := by
  cases r with
  | zero => unfold dT; omega
  | succ r => unfold dT; exact mnf_B _
/-- a word at depth t -/
theorem dT_1 {h : Nat → Nat} {x r B t : Nat} (h1 : 1 ≤ t) (h2 : t ≤ x) (hB : 2 ^ (x - t) ≤ B) : dT h x (r + 1) B ≤ t * h (7 - r) + dT h x r (B - 2 ^ (x - t)) := by
  have := mnf_le (g := fun j => if B < 2 ^ (x - (j + 1)) then 1000000 else (j + 1) * h (7 - r) + dT h x r (B - 2 ^ (x - (j + 1)))) (i := t - 1) (n := x) (by omega)
  simp only [show t - 1 + 1 = t by omega] at this
  rw [if_neg (by omega)] at this
  exact this
/-- e words at depth t -/
theorem dT_e {h : Nat → Nat} {x t : Nat} (h1 : 1 ≤ t) (h2 : t ≤ x) : ∀ e r B, e ≤ r → r ≤ 8 → e * 2 ^ (x - t) ≤ B → dT h x r B + t * wF h (r - e) (8 - (r - e)) ≤ dT h x (r - e) (B - e * 2 ^ (x - t)) + t * wF h r (8 - r)
  | 0, r, B, _, _, _ => by simp
  | e + 1, 0, B, he, _, _ => by omega
  | e + 1, r + 1, B, he, hr, hB => by
    have hm : (e + 1) * 2 ^ (x - t) = e * 2 ^ (x - t) + 2 ^ (x - t) := by rw [Nat.add_mul, Nat.one_mul]
    have a1 := dT_1 (h := h) (r := r) (B := B) h1 h2 (by omega)
    have a2 := dT_e (h := h) h1 h2 e r (B - 2 ^ (x - t)) (by omega) (by omega) (by omega)
    have a3 : wF h (r + 1) (8 - (r + 1)) = h (7 - r) + wF h r (8 - r) := by
      show h (8 - (r + 1)) + wF h r (8 - (r + 1) + 1) = _
      rw [show 8 - (r + 1) = 7 - r by omega, show 7 - r + 1 = 8 - r by omega]
    rw [a3, Nat.mul_add, show r + 1 - (e + 1) = r - e by omega, show B - (e + 1) * 2 ^ (x - t) = B - 2 ^ (x - t) - e * 2 ^ (x - t) by omega]
    omega
theorem fT_ge {h : Nat → Nat} {x : Nat} : ∀ l t r o, t + l = x → r ≤ 8 → (t = 0 → o ≤ 1 ∧ o < r) → dT h x r (o * 2 ^ l) ≤ fT h l r o + t * wF h r (8 - r) := by
  have flat : ∀ l t r o, t + l = x → r ≤ 8 → (t = 0 → o ≤ 1 ∧ o < r) → r ≤ o → dT h x r (o * 2 ^ l) ≤ t * wF h r (8 - r) := by
    intro l t r o ht hr h0 hro
    have ht1 : 1 ≤ t := by
      rcases Nat.eq_zero_or_pos t with z | z
      · have := h0 z; omega
      · exact z
    have := dT_e (h := h) (x := x) ht1 (by omega) r r (o * 2 ^ l) (Nat.le_refl _) hr (by rw [show x - t = l by omega]; exact Nat.mul_le_mul_right _ hro)
    rw [Nat.sub_self] at this
    have z1 : dT h x 0 (o * 2 ^ l - r * 2 ^ (x - t)) = 0 := rfl
    have z2 : wF h 0 (8 - 0) = 0 := rfl
    rw [z1, z2] at this
    omega
  intro l
  induction l with
  | zero =>
    intro t r o ht hr h0
    by_cases hro : r ≤ o
    · have := flat 0 t r o ht hr h0 hro
      omega
    · have hz : fT h 0 r o = 1000000 := if_neg hro
      have := @dT_B h x r (o * 2 ^ 0)
      omega
  | succ l ih =>
    intro t r o ht hr h0
    by_cases hro : r ≤ o
    · have := flat (l + 1) t r o ht hr h0 hro
      omega
    · have hz : fT h (l + 1) r o = mnf (fun e => fT h l (r - e) (2 * (o - e)) + wF h (r - e) (8 - (r - e))) o := if_neg hro
      rw [hz]
      rcases mnf_at (g := fun e => fT h l (r - e) (2 * (o - e)) + wF h (r - e) (8 - (r - e))) o with hm | ⟨e, he, hm⟩
      · have := @dT_B h x r (o * 2 ^ (l + 1))
        omega
      · rw [hm]
        have i1 := ih (t + 1) (r - e) (2 * (o - e)) (by omega) (by omega) (by omega)
        have eB : 2 * (o - e) * 2 ^ l = o * 2 ^ (l + 1) - e * 2 ^ (l + 1) := by
          rw [← Nat.sub_mul, Nat.pow_succ, Nat.mul_comm 2 (o - e), Nat.mul_assoc, Nat.mul_comm 2 (2 ^ l)]
        rw [eB, Nat.add_mul, Nat.one_mul] at i1
        rcases Nat.eq_zero_or_pos t with z | z
        · have := h0 z
          have he0 : e = 0 := by omega
          subst z
          subst he0
          simp only [Nat.zero_mul, Nat.sub_zero, Nat.zero_add, Nat.add_zero] at i1 ⊢
          exact i1
        · have i2 := dT_e (h := h) (x := x) z (by omega) e r (o * 2 ^ (l + 1)) (by omega) hr (by rw [show x - t = l + 1 by omega]; exact Nat.mul_le_mul_right _ (by omega))
          rw [show x - t = l + 1 by omega] at i2
          omega
/-! depths as a list, the heaviest word first -/
def cst (h : Nat → Nat) : Nat → List Nat → Nat
  | _, [] => 0
  | k, d :: ds => d * h k + cst h (k + 1) ds
def krf (x : Nat) : List Nat → Nat
  | [] => 0
  | d :: ds => 2 ^ (x - d) + krf x ds
def srt : List Nat → Prop
  | [] => True
  | d :: ds => (∀ y, y ∈ ds → d ≤ y) ∧ srt ds
def ins (d : Nat) : List Nat → List Nat
  | [] => [d]
  | y :: ys => if d ≤ y then d :: y :: ys else y :: ins d ys
theorem ins_m {d z : Nat} : ∀ ys, z ∈ ins d ys ↔ z = d ∨ z ∈ ys
  | [] => by simp [ins]
  | y :: ys => by
    unfold ins
    split
    · simp
    · rw [List.mem_cons, ins_m ys, List.mem_cons]
      constructor
      · rintro (h | h | h)
        · exact .inr (.inl h)
        · exact .inl h
        · exact .inr (.inr h)
      · rintro (h | h | h)
        · exact .inr (.inl h)
        · exact .inl h
        · exact .inr (.inr h)
theorem ins_l {d : Nat} : ∀ ys, (ins d ys).length = ys.length + 1
  | [] => rfl
  | y :: ys => by
    unfold ins
    split
    · rfl
    · rw [List.length_cons, ins_l ys, List.length_cons]
theorem ins_k {x d : Nat} : ∀ ys, krf x (ins d ys) = 2 ^ (x - d) + krf x ys
  | [] => rfl
  | y :: ys => by
    unfold ins
    split
    · rfl
    · show 2 ^ (x - y) + krf x (ins d ys) = 2 ^ (x - d) + (2 ^ (x - y) + krf x ys)
      rw [ins_k ys]; omega
theorem ins_s {d : Nat} : ∀ ys, srt ys → srt (ins d ys)
  | [], _ => ⟨fun _ h => (by cases h), trivial⟩
  | y :: ys, h => by
    unfold ins
    split
    · rename_i hd
      refine ⟨fun z hz => ?_, h⟩
      rcases List.mem_cons.mp hz with rfl | hz
      · exact hd
      · exact Nat.le_trans hd (h.1 z hz)
    · refine ⟨fun z hz => ?_, ins_s ys h.2⟩
      rcases (ins_m ys).mp hz with rfl | hz
      · omega
      · exact h.1 z hz
theorem ins_c {h : Nat → Nat} (hh : ∀ k, k < 7 → h (k + 1) ≤ h k) {d : Nat} : ∀ ys k, k + ys.length ≤ 7 → cst h k (ins d ys) ≤ d * h k + cst h (k + 1) ys
  | [], k, _ => Nat.le_refl _
  | y :: ys, k, hk => by
    unfold ins
    split
    · exact Nat.le_refl _
    · rename_i hd
      rw [List.length_cons] at hk
      have a1 := ins_c hh (d := d) ys (k + 1) (by omega)
      show y * h k + cst h (k + 1) (ins d ys) ≤ d * h k + (y * h (k + 1) + cst h (k + 1 + 1) ys)
      have a2 := hh k (by omega)
      obtain ⟨p, hp⟩ : ∃ p, d = y + p := ⟨d - y, by omega⟩
      obtain ⟨q, hq⟩ : ∃ q, h k = h (k + 1) + q := ⟨h k - h (k + 1), by omega⟩
      have a3 : y * h k + d * h (k + 1) ≤ d * h k + y * h (k + 1) := by
        rw [hp, hq, Nat.add_mul, Nat.mul_add, Nat.add_mul, Nat.mul_add, Nat.mul_add]
        omega
      omega
/-- the budget's least is some list's -/
theorem dT_at {h : Nat → Nat} (hh : ∀ k, k < 7 → h (k + 1) ≤ h k) {x : Nat} : ∀ r B, r ≤ 8 → dT h x r B = 1000000 ∨ ∃ ds : List Nat, ds.length = r ∧ (∀ d, d ∈ ds → 1 ≤ d ∧ d ≤ x) ∧ srt ds ∧ krf x ds ≤ B ∧ cst h (8 - r) ds ≤ dT h x r B
  | 0, B, _ => .inr ⟨[], rfl, fun _ h => (by cases h), trivial, Nat.zero_le _, Nat.zero_le _⟩
  | r + 1, B, hr => by
    have hz : dT h x (r + 1) B = mnf (fun j => if B < 2 ^ (x - (j + 1)) then 1000000 else (j + 1) * h (7 - r) + dT h x r (B - 2 ^ (x - (j + 1)))) x := rfl
    rw [hz]
    rcases mnf_at (g := fun j => if B < 2 ^ (x - (j + 1)) then 1000000 else (j + 1) * h (7 - r) + dT h x r (B - 2 ^ (x - (j + 1)))) x with hm | ⟨j, hj, hm⟩
    · exact .inl hm
    · have hb := mnf_B (g := fun j => if B < 2 ^ (x - (j + 1)) then 1000000 else (j + 1) * h (7 - r) + dT h x r (B - 2 ^ (x - (j + 1)))) x
      rw [hm] at hb ⊢
      by_cases hB : B < 2 ^ (x - (j + 1))
      · rw [if_pos hB]; exact .inl rfl
      · rw [if_neg hB] at hb ⊢
        rcases dT_at hh (x := x) r (B - 2 ^ (x - (j + 1))) (by omega) with h1 | ⟨ds, l1, l2, l3, l4, l5⟩
        · left; omega
        · right
          refine ⟨ins (j + 1) ds, by rw [ins_l, l1], fun d hd => ?_, ins_s ds l3, by rw [ins_k]; omega, ?_⟩
          · rcases (ins_m ds).mp hd with rfl | hd
            · omega
            · exact l2 d hd
          · have := ins_c hh (d := j + 1) ds (8 - (r + 1)) (by omega)
            rw [show 8 - (r + 1) + 1 = 8 - r by omega, show 8 - (r + 1) = 7 - r by omega] at this
            rw [show 8 - (r + 1) = 7 - r by omega]
            omega
/-- the words of a sorted list that end at depth t -/
theorem srt_t {t : Nat} : ∀ ds, srt ds → (∀ d, d ∈ ds → t ≤ d) → ∃ n ls, ds = List.replicate n t ++ ls ∧ srt ls ∧ ∀ d, d ∈ ls → t + 1 ≤ d
  | [], _, _ => ⟨0, [], rfl, trivial, fun _ h => (by cases h)⟩
  | y :: ys, hs, hl => by
    by_cases hy : y = t
    · obtain ⟨n, ls, h1, h2, h3⟩ := srt_t ys hs.2 (fun d hd => hl d (List.mem_cons_of_mem _ hd))
      refine ⟨n + 1, ls, ?_, h2, h3⟩
      rw [h1, hy]; rfl
    · have h0 := hl y (List.mem_cons_self ..)
      refine ⟨0, y :: ys, rfl, hs, fun d hd => ?_⟩
      rcases List.mem_cons.mp hd with rfl | hd
      · omega
      · have := hs.1 d hd; omega
theorem krf_r {x t : Nat} {ls : List Nat} : ∀ n, krf x (List.replicate n t ++ ls) = n * 2 ^ (x - t) + krf x ls
  | 0 => by simp
  | n + 1 => by
    show 2 ^ (x - t) + krf x (List.replicate n t ++ ls) = _
    rw [krf_r n, Nat.add_mul, Nat.one_mul]; omega
theorem krf_p {x : Nat} {ls : List Nat} (h : krf x ls = 0) : ls = [] := by
  cases ls with
  | nil => rfl
  | cons d ds =>
    have : 0 < 2 ^ (x - d) := Nat.pos_of_ne_zero (by simp)
    have hk : krf x (d :: ds) = 2 ^ (x - d) + krf x ds := rfl
    omega
theorem cst_r {h : Nat → Nat} {t : Nat} {ls : List Nat} : ∀ n k, cst h k (List.replicate n t ++ ls) + t * wF h ls.length (k + n) = t * wF h (n + ls.length) k + cst h (k + n) ls
  | 0, k => by simp; omega
  | n + 1, k => by
    show t * h k + cst h (k + 1) (List.replicate n t ++ ls) + _ = _
    have := cst_r (h := h) (t := t) (ls := ls) n (k + 1)
    rw [show n + 1 + ls.length = (n + ls.length) + 1 by omega, show wF h (n + ls.length + 1) k = h k + wF h (n + ls.length) (k + 1) from rfl, Nat.mul_add, show k + (n + 1) = k + 1 + n by omega]
    omega
theorem cst_l {h : Nat → Nat} {t : Nat} : ∀ ds k, (∀ d, d ∈ ds → t ≤ d) → t * wF h ds.length k ≤ cst h k ds
  | [], k, _ => by show t * 0 ≤ 0; omega
  | d :: ds, k, hd => by
    have a1 := cst_l (h := h) ds (k + 1) (fun y hy => hd y (List.mem_cons_of_mem _ hy))
    have a2 := Nat.mul_le_mul_right (h k) (hd d (List.mem_cons_self ..))
    show t * (h k + wF h ds.length (k + 1)) ≤ d * h k + cst h (k + 1) ds
    rw [Nat.mul_add]; omega
theorem fT_le {h : Nat → Nat} {x : Nat} : ∀ l t (ds : List Nat) o, t + l = x → ds.length ≤ 8 → srt ds → (∀ d, d ∈ ds → t ≤ d ∧ d ≤ x) → krf x ds ≤ o * 2 ^ l → fT h l ds.length o + t * wF h ds.length (8 - ds.length) ≤ cst h (8 - ds.length) ds := by
  intro l
  induction l with
  | zero =>
    intro t ds o ht hr hs hd hk
    have hz : ∀ ds : List Nat, (∀ d, d ∈ ds → t ≤ d ∧ d ≤ x) → ds.length ≤ krf x ds := by
      intro ds
      induction ds with
      | nil => intro _; exact Nat.le_refl _
      | cons y ys ih =>
        intro hy
        have h1 := ih (fun d hd => hy d (List.mem_cons_of_mem _ hd))
        have h2 : 0 < 2 ^ (x - y) := Nat.pos_of_ne_zero (by simp)
        have hkk : krf x (y :: ys) = 2 ^ (x - y) + krf x ys := rfl
        rw [List.length_cons]; omega
    have h1 := hz ds hd
    have h2 : fT h 0 ds.length o = 0 := if_pos (by omega)
    have h3 := cst_l (h := h) (t := t) ds (8 - ds.length) (fun d hq => (hd d hq).1)
    omega
  | succ l ih =>
    intro t ds o ht hr hs hd hk
    by_cases hro : ds.length ≤ o
    · have h2 : fT h (l + 1) ds.length o = 0 := if_pos hro
      have h3 := cst_l (h := h) (t := t) ds (8 - ds.length) (fun d hq => (hd d hq).1)
      omega
    · obtain ⟨n, ls, h1, h2, h3⟩ := srt_t ds hs (fun d hq => (hd d hq).1)
      have hlen : ds.length = n + ls.length := by rw [h1, List.length_append, List.length_replicate]
      have hkr : krf x ds = n * 2 ^ (l + 1) + krf x ls := by rw [h1, krf_r, show x - t = l + 1 by omega]
      have hno : n < o := by
        rcases Nat.lt_or_ge n o with z | z
        · exact z
        · exfalso
          have := Nat.mul_le_mul_right (2 ^ (l + 1)) z
          have hl0 := krf_p (x := x) (ls := ls) (by omega)
          rw [hl0] at hlen
          simp only [List.length_nil] at hlen
          rw [hl0] at hkr
          have hk0 : krf x [] = 0 := rfl
          have hno2 : n * 2 ^ (l + 1) ≤ o * 2 ^ (l + 1) := by omega
          have := Nat.le_of_mul_le_mul_right hno2 (Nat.pos_of_ne_zero (by simp))
          omega
      have eB : 2 * (o - n) * 2 ^ l = o * 2 ^ (l + 1) - n * 2 ^ (l + 1) := by
        rw [← Nat.sub_mul, Nat.pow_succ, Nat.mul_comm 2 (o - n), Nat.mul_assoc, Nat.mul_comm 2 (2 ^ l)]
      have i1 := ih (t + 1) ls (2 * (o - n)) (by omega) (by omega) h2 (fun d hq => ⟨h3 d hq, (hd d (by rw [h1]; exact List.mem_append_right _ hq)).2⟩) (by rw [eB]; omega)
      have hz : fT h (l + 1) ds.length o = mnf (fun e => fT h l (ds.length - e) (2 * (o - e)) + wF h (ds.length - e) (8 - (ds.length - e))) o := if_neg hro
      have hm := mnf_le (g := fun e => fT h l (ds.length - e) (2 * (o - e)) + wF h (ds.length - e) (8 - (ds.length - e))) (i := n) hno
      simp only [show ds.length - n = ls.length by omega] at hm
      have hc := cst_r (h := h) (t := t) (ls := ls) n (8 - ds.length)
      rw [← h1, ← hlen, show 8 - ds.length + n = 8 - ls.length by omega] at hc
      rw [Nat.add_mul, Nat.one_mul] at i1
      rw [hz]
      omega
theorem tree_same {h : Nat → Nat} (hh : ∀ k, k < 7 → h (k + 1) ≤ h k) {x : Nat} : fT h x 8 1 = dT h x 8 (2 ^ x) := by
  have h1 := fT_ge (h := h) (x := x) x 0 8 1 (by omega) (by omega) (by omega)
  rw [Nat.one_mul, Nat.zero_mul, Nat.add_zero] at h1
  have h2 : fT h x 8 1 ≤ dT h x 8 (2 ^ x) := by
    rcases dT_at hh (x := x) 8 (2 ^ x) (by omega) with hz | ⟨ds, l1, l2, l3, l4, l5⟩
    · rw [hz]; exact fT_B
    · have := fT_le (h := h) (x := x) x 0 ds 1 (by omega) (by omega) l3 (fun d hd => ⟨Nat.zero_le _, (l2 d hd).2⟩) (by omega)
      rw [l1] at this
      omega
  omega
