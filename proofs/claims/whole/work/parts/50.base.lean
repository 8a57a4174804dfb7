/-! layer C: numbers as naturals, loops as sequences of states -/
def J (n : Nat) : Int32 := Int32.ofNat n
theorem J_o (n : Nat) : Int32.ofNat n = J n := (rfl)
def NN : Int32 := -1
def NN2 : Int32 := -2
theorem J_lit (n : Nat) : (@OfNat.ofNat Int32 n Int32.instOfNat) = J (@OfNat.ofNat Nat n (instOfNatNat n)) := (rfl)
theorem J_n1 : -(J 1) = NN := (rfl)
theorem J_n2 : -(J 2) = NN2 := (rfl)
theorem J_toInt {a : Nat} (h : a < 2147483648) : (J a).toInt = a := Int32.toInt_ofNat_of_lt (by omega)
theorem NN_toInt : NN.toInt = -1 := by decide
theorem NN2_toInt : NN2.toInt = -2 := by decide
theorem J_lt {a b : Nat} (ha : a < 2147483648) (hb : b < 2147483648) : (J a < J b) ↔ a < b := by
  rw [Int32.lt_iff_toInt_lt, J_toInt ha, J_toInt hb]; omega
theorem J_le {a b : Nat} (ha : a < 2147483648) (hb : b < 2147483648) : (J a ≤ J b) ↔ a ≤ b := by
  rw [Int32.le_iff_toInt_le, J_toInt ha, J_toInt hb]; omega
theorem J_eq {a b : Nat} (ha : a < 2147483648) (hb : b < 2147483648) : (J a = J b) ↔ a = b :=
  ⟨fun h => by have h1 := congrArg Int32.toInt h; rw [J_toInt ha, J_toInt hb] at h1; omega, fun h => by rw [h]⟩
theorem J_add (a b : Nat) : J a + J b = J (a + b) := (Int32.ofNat_add a b).symm
theorem J_mul (a b : Nat) : J a * J b = J (a * b) := (Int32.ofNat_mul a b).symm
theorem J_sub {a b : Nat} (h : b ≤ a) : J a - J b = J (a - b) := (Int32.ofNat_sub a b h).symm
theorem J_nat {a : Nat} (h : a < 2147483648) : (J a).toNatClampNeg = a := Int32.toNatClampNeg_ofNat_of_lt (by omega)
theorem J_div {a b : Nat} (ha : a < 2147483648) (hb : b < 2147483648) : J a / J b = J (a / b) := (Int32.ofNat_div (by omega) (by omega)).symm
theorem J_nn {a : Nat} (h : a < 2147483648) : (J a < J 0) ↔ False := by rw [J_lt h (by omega)]; simp only [iff_false, iff_true]; omega
theorem J_eN {a : Nat} (h : a < 2147483648) : (J a = NN) ↔ False := ⟨fun e => by have h1 := congrArg Int32.toInt e; rw [J_toInt h, NN_toInt] at h1; omega, False.elim⟩
theorem N_eJ {a : Nat} (h : a < 2147483648) : (NN = J a) ↔ False := ⟨fun e => (J_eN h).mp e.symm, False.elim⟩
theorem J_eN2 {a : Nat} (h : a < 2147483648) : (J a = NN2) ↔ False := ⟨fun e => by have h1 := congrArg Int32.toInt e; rw [J_toInt h, NN2_toInt] at h1; omega, False.elim⟩
theorem J_lN {a : Nat} (h : a < 2147483648) : (J a < NN) ↔ False := by rw [Int32.lt_iff_toInt_lt, J_toInt h, NN_toInt]; simp only [iff_false, iff_true]; omega
theorem N_lJ {a : Nat} (h : a < 2147483648) : (NN < J a) ↔ True := by rw [Int32.lt_iff_toInt_lt, J_toInt h, NN_toInt]; simp only [iff_false, iff_true]; omega
theorem J_leN {a : Nat} (h : a < 2147483648) : (J a ≤ NN) ↔ False := by rw [Int32.le_iff_toInt_le, J_toInt h, NN_toInt]; simp only [iff_false, iff_true]; omega
theorem N_leJ {a : Nat} (h : a < 2147483648) : (NN ≤ J a) ↔ True := by rw [Int32.le_iff_toInt_le, J_toInt h, NN_toInt]; simp only [iff_false, iff_true]; omega
theorem NN_l0 : (NN < J 0) ↔ True := by simp only [iff_true]; decide
theorem NN_eN : (NN = NN) ↔ True := by simp
/-- an int is a natural up to n, or outside -/
theorem J_in (x : Int32) (n : Nat) (hn : n < 2147483648) : (∃ k, k ≤ n ∧ x = J k) ∨ (x < J 0 ∨ J n < x) := by
  by_cases h0 : x < J 0
  · exact .inr (.inl h0)
  · by_cases h1 : J n < x
    · exact .inr (.inr h1)
    · refine .inl ⟨x.toNatClampNeg, ?_, (Int32.ofNat_toNatClampNeg x ?_).symm⟩
      · rw [Int32.lt_iff_toInt_lt, J_toInt hn] at h1
        rw [Int32.toNatClampNeg]; omega
      · rw [Int32.lt_iff_toInt_lt, J_toInt (by omega)] at h0
        rw [Int32.le_iff_toInt_le, show (0 : Int32) = J 0 from rfl, J_toInt (by omega)]; omega
theorem zag_J {n : Nat} {f : Nat → Int32} {i : Nat} (h : i < n) (hn : n < 2147483648) : zag n f (J i) = some (f i) := by
  have h0 : ¬ (J i < 0 ∨ n ≤ (J i).toNatClampNeg) := by
    rw [show (0 : Int32) = J 0 from rfl, J_lt (by omega) (by omega), J_nat (by omega)]; omega
  unfold zag
  rw [if_neg h0, J_nat (by omega)]
theorem zas_J {n : Nat} {f : Nat → Int32} {i : Nat} {v : Int32} (h : i < n) (hn : n < 2147483648) : zas n f (J i) v = some (upd f i v) := by
  have h0 : ¬ (J i < 0 ∨ n ≤ (J i).toNatClampNeg) := by
    rw [show (0 : Int32) = J 0 from rfl, J_lt (by omega) (by omega), J_nat (by omega)]; omega
  unfold zas
  rw [if_neg h0, J_nat (by omega)]
theorem zbz_0 : zbz (J 0) = some (J 0) := by decide
theorem zbz_1 : zbz (J 1) = some (J 1) := by decide
/-- truth as an int -/
def bJ (c : Bool) : Int32 := if c then J 1 else J 0
theorem bJ_t : bJ true = J 1 := (rfl)
theorem bJ_f : bJ false = J 0 := (rfl)
theorem bJ_0 {c : Bool} : (bJ c = J 0) ↔ c = false := by cases c <;> simp [bJ] <;> decide
theorem bJ_1 {c : Bool} : (bJ c = J 1) ↔ c = true := by cases c <;> simp [bJ] <;> decide
theorem zbz_b {c : Bool} : zbz (bJ c) = some (bJ c) := by cases c <;> decide
theorem bJ_ite {c : Prop} [Decidable c] : (if c then J 1 else J 0 : Int32) = bJ (decide c) := by by_cases h : c <;> simp [h, bJ]
/-- none as -1 -/
def oJ (o : Option Nat) : Int32 := match o with
  | none => NN
  | some n => J n
theorem oJ_n : oJ none = NN := (rfl)
theorem oJ_s {n : Nat} : oJ (some n) = J n := (rfl)
theorem wb1 {A R : Type} {x0 : A} {f : A → Option R} : zb1 (some x0) f = f x0 := (rfl)
theorem wb2 {A B R : Type} {x0 : A} {x1 : B} {f : A → B → Option R} : zb2 (some (x0, x1)) f = f x0 x1 := (rfl)
theorem wb3 {A B C R : Type} {x0 : A} {x1 : B} {x2 : C} {f : A → B → C → Option R} : zb3 (some (x0, x1, x2)) f = f x0 x1 x2 := (rfl)
theorem wb4 {A B C D R : Type} {x0 : A} {x1 : B} {x2 : C} {x3 : D} {f : A → B → C → D → Option R} : zb4 (some (x0, x1, x2, x3)) f = f x0 x1 x2 x3 := (rfl)
theorem wb5 {A B C D E R : Type} {x0 : A} {x1 : B} {x2 : C} {x3 : D} {x4 : E} {f : A → B → C → D → E → Option R} : zb5 (some (x0, x1, x2, x3, x4)) f = f x0 x1 x2 x3 x4 := (rfl)
theorem wb6 {A B C D E H R : Type} {x0 : A} {x1 : B} {x2 : C} {x3 : D} {x4 : E} {x5 : H} {f : A → B → C → D → E → H → Option R} : zb6 (some (x0, x1, x2, x3, x4, x5)) f = f x0 x1 x2 x3 x4 x5 := (rfl)
theorem wc1 {A R : Type} {x0 : A} {f : A → Option R} : zc1 (some x0) f = f x0 := (rfl)
theorem wc2 {A B R : Type} {x0 : A} {x1 : B} {f : A → B → Option R} : zc2 (some (x0, x1)) f = f x0 x1 := (rfl)
theorem wc3 {A B C R : Type} {x0 : A} {x1 : B} {x2 : C} {f : A → B → C → Option R} : zc3 (some (x0, x1, x2)) f = f x0 x1 x2 := (rfl)
theorem wc4 {A B C D R : Type} {x0 : A} {x1 : B} {x2 : C} {x3 : D} {f : A → B → C → D → Option R} : zc4 (some (x0, x1, x2, x3)) f = f x0 x1 x2 x3 := (rfl)
theorem wc5 {A B C D E R : Type} {x0 : A} {x1 : B} {x2 : C} {x3 : D} {x4 : E} {f : A → B → C → D → E → Option R} : zc5 (some (x0, x1, x2, x3, x4)) f = f x0 x1 x2 x3 x4 := (rfl)
theorem wc6 {A B C D E H R : Type} {x0 : A} {x1 : B} {x2 : C} {x3 : D} {x4 : E} {x5 : H} {f : A → B → C → D → E → H → Option R} : zc6 (some (x0, x1, x2, x3, x4, x5)) f = f x0 x1 x2 x3 x4 x5 := (rfl)
theorem zb1_ite {A R : Type} {c : Prop} [Decidable c] {a b : Option A} {f : A → Option R} : zb1 (if c then a else b) f = if c then zb1 a f else zb1 b f := by split <;> rfl
theorem zb2_ite {A B R : Type} {c : Prop} [Decidable c] {a b : Option (A × B)} {f : A → B → Option R} : zb2 (if c then a else b) f = if c then zb2 a f else zb2 b f := by split <;> rfl
theorem zb3_ite {A B C R : Type} {c : Prop} [Decidable c] {a b : Option (A × B × C)} {f : A → B → C → Option R} : zb3 (if c then a else b) f = if c then zb3 a f else zb3 b f := by split <;> rfl
theorem zb4_ite {A B C D R : Type} {c : Prop} [Decidable c] {a b : Option (A × B × C × D)} {f : A → B → C → D → Option R} : zb4 (if c then a else b) f = if c then zb4 a f else zb4 b f := by split <;> rfl
theorem zb5_ite {A B C D E R : Type} {c : Prop} [Decidable c] {a b : Option (A × B × C × D × E)} {f : A → B → C → D → E → Option R} : zb5 (if c then a else b) f = if c then zb5 a f else zb5 b f := by split <;> rfl
theorem some_ite {A : Type} {c : Prop} [Decidable c] {a b : A} : (if c then some a else some b) = some (if c then a else b) := by split <;> rfl
/-- sequences of states -/
def itr {A : Type} (g : Nat → A → A) (a : A) : Nat → A
  | 0 => a
  | n + 1 => g n (itr g a n)
theorem itr_s {A : Type} {g : Nat → A → A} {a : A} {n : Nat} : itr g a (n + 1) = g n (itr g a n) := rfl
theorem itr_0 {A : Type} {g : Nat → A → A} {a : A} : itr g a 0 = a := rfl
theorem itr_i {A : Type} {g : Nat → A → A} {a : A} (P : Nat → A → Prop) (h0 : P 0 a) (hs : ∀ i x, P i x → P (i + 1) (g i x)) : ∀ n, P n (itr g a n)
  | 0 => h0
  | n + 1 => hs n _ (itr_i P h0 hs n)
theorem itr_il {A : Type} {g : Nat → A → A} {a : A} {N : Nat} (P : Nat → A → Prop) (h0 : P 0 a) (hs : ∀ i x, i < N → P i x → P (i + 1) (g i x)) : ∀ n, n ≤ N → P n (itr g a n)
  | 0, _ => h0
  | n + 1, h => hs n _ h (itr_il P h0 hs n (Nat.le_of_succ_le h))
theorem itr_c {A : Type} {g h : Nat → A → A} {a : A} {N : Nat} (e : ∀ i x, i < N → g i x = h i x) : ∀ n, n ≤ N → itr g a n = itr h a n
  | 0, _ => rfl
  | n + 1, l => by rw [itr_s, itr_s, itr_c e n (Nat.le_of_succ_le l), e n _ l]
theorem zf1_run {A R : Type} {f : (A → Option R) → A → Option R} {r : Option R} (n : Nat) (s : Nat → A) (hs : ∀ i, i < n → ∀ F, f F (s i) = F (s (i + 1))) (he : ∀ F, f F (s n) = r) {N : Nat} (hN : n < N) : zf1 f N (s 0) = r := by
  have h : ∀ d i N, i + d = n → d < N → zf1 f N (s i) = r := by
    intro d
    induction d with
    | zero =>
      intro i N hi hN
      cases N with
      | zero => omega
      | succ N => show f (zf1 f N) (s i) = r; rw [show i = n by omega]; exact he _
    | succ d ih =>
      intro i N hi hN
      cases N with
      | zero => omega
      | succ N => show f (zf1 f N) (s i) = r; rw [hs i (by omega)]; exact ih (i + 1) N (by omega) (by omega)
  exact h n 0 N (by omega) hN
theorem zf2_run {A B R : Type} {f : (A → B → Option R) → A → B → Option R} {r : Option R} (n : Nat) (s0 : Nat → A) (s1 : Nat → B) (hs : ∀ i, i < n → ∀ F, f F (s0 i) (s1 i) = F (s0 (i + 1)) (s1 (i + 1))) (he : ∀ F, f F (s0 n) (s1 n) = r) {N : Nat} (hN : n < N) : zf2 f N (s0 0) (s1 0) = r := by
  have h : ∀ d i N, i + d = n → d < N → zf2 f N (s0 i) (s1 i) = r := by
    intro d
    induction d with
    | zero =>
      intro i N hi hN
      cases N with
      | zero => omega
      | succ N => show f (zf2 f N) (s0 i) (s1 i) = r; rw [show i = n by omega]; exact he _
    | succ d ih =>
      intro i N hi hN
      cases N with
      | zero => omega
      | succ N => show f (zf2 f N) (s0 i) (s1 i) = r; rw [hs i (by omega)]; exact ih (i + 1) N (by omega) (by omega)
  exact h n 0 N (by omega) hN
theorem zf3_run {A B C R : Type} {f : (A → B → C → Option R) → A → B → C → Option R} {r : Option R} (n : Nat) (s0 : Nat → A) (s1 : Nat → B) (s2 : Nat → C) (hs : ∀ i, i < n → ∀ F, f F (s0 i) (s1 i) (s2 i) = F (s0 (i + 1)) (s1 (i + 1)) (s2 (i + 1))) (he : ∀ F, f F (s0 n) (s1 n) (s2 n) = r) {N : Nat} (hN : n < N) : zf3 f N (s0 0) (s1 0) (s2 0) = r := by
  have h : ∀ d i N, i + d = n → d < N → zf3 f N (s0 i) (s1 i) (s2 i) = r := by
    intro d
    induction d with
    | zero =>
      intro i N hi hN
      cases N with
      | zero => omega
      | succ N => show f (zf3 f N) (s0 i) (s1 i) (s2 i) = r; rw [show i = n by omega]; exact he _
    | succ d ih =>
      intro i N hi hN
      cases N with
      | zero => omega
      | succ N => show f (zf3 f N) (s0 i) (s1 i) (s2 i) = r; rw [hs i (by omega)]; exact ih (i + 1) N (by omega) (by omega)
  exact h n 0 N (by omega) hN
theorem zf4_run {A B C D R : Type} {f : (A → B → C → D → Option R) → A → B → C → D → Option R} {r : Option R} (n : Nat) (s0 : Nat → A) (s1 : Nat → B) (s2 : Nat → C) (s3 : Nat → D) (hs : ∀ i, i < n → ∀ F, f F (s0 i) (s1 i) (s2 i) (s3 i) = F (s0 (i + 1)) (s1 (i + 1)) (s2 (i + 1)) (s3 (i + 1))) (he : ∀ F, f F (s0 n) (s1 n) (s2 n) (s3 n) = r) {N : Nat} (hN : n < N) : zf4 f N (s0 0) (s1 0) (s2 0) (s3 0) = r := by
  have h : ∀ d i N, i + d = n → d < N → zf4 f N (s0 i) (s1 i) (s2 i) (s3 i) = r := by
    intro d
    induction d with
    | zero =>
      intro i N hi hN
      cases N with
      | zero => omega
      | succ N => show f (zf4 f N) (s0 i) (s1 i) (s2 i) (s3 i) = r; rw [show i = n by omega]; exact he _
    | succ d ih =>
      intro i N hi hN
      cases N with
      | zero => omega
      | succ N => show f (zf4 f N) (s0 i) (s1 i) (s2 i) (s3 i) = r; rw [hs i (by omega)]; exact ih (i + 1) N (by omega) (by omega)
  exact h n 0 N (by omega) hN
theorem zf5_run {A B C D E R : Type} {f : (A → B → C → D → E → Option R) → A → B → C → D → E → Option R} {r : Option R} (n : Nat) (s0 : Nat → A) (s1 : Nat → B) (s2 : Nat → C) (s3 : Nat → D) (s4 : Nat → E) (hs : ∀ i, i < n → ∀ F, f F (s0 i) (s1 i) (s2 i) (s3 i) (s4 i) = F (s0 (i + 1)) (s1 (i + 1)) (s2 (i + 1)) (s3 (i + 1)) (s4 (i + 1))) (he : ∀ F, f F (s0 n) (s1 n) (s2 n) (s3 n) (s4 n) = r) {N : Nat} (hN : n < N) : zf5 f N (s0 0) (s1 0) (s2 0) (s3 0) (s4 0) = r := by
  have h : ∀ d i N, i + d = n → d < N → zf5 f N (s0 i) (s1 i) (s2 i) (s3 i) (s4 i) = r := by
    intro d
    induction d with
    | zero =>
      intro i N hi hN
      cases N with
      | zero => omega
      | succ N => show f (zf5 f N) (s0 i) (s1 i) (s2 i) (s3 i) (s4 i) = r; rw [show i = n by omega]; exact he _
    | succ d ih =>
      intro i N hi hN
      cases N with
      | zero => omega
      | succ N => show f (zf5 f N) (s0 i) (s1 i) (s2 i) (s3 i) (s4 i) = r; rw [hs i (by omega)]; exact ih (i + 1) N (by omega) (by omega)
  exact h n 0 N (by omega) hN
theorem zf6_run {A B C D E H R : Type} {f : (A → B → C → D → E → H → Option R) → A → B → C → D → E → H → Option R} {r : Option R} (n : Nat) (s0 : Nat → A) (s1 : Nat → B) (s2 : Nat → C) (s3 : Nat → D) (s4 : Nat → E) (s5 : Nat → H) (hs : ∀ i, i < n → ∀ F, f F (s0 i) (s1 i) (s2 i) (s3 i) (s4 i) (s5 i) = F (s0 (i + 1)) (s1 (i + 1)) (s2 (i + 1)) (s3 (i + 1)) (s4 (i + 1)) (s5 (i + 1))) (he : ∀ F, f F (s0 n) (s1 n) (s2 n) (s3 n) (s4 n) (s5 n) = r) {N : Nat} (hN : n < N) : zf6 f N (s0 0) (s1 0) (s2 0) (s3 0) (s4 0) (s5 0) = r := by
  have h : ∀ d i N, i + d = n → d < N → zf6 f N (s0 i) (s1 i) (s2 i) (s3 i) (s4 i) (s5 i) = r := by
    intro d
    induction d with
    | zero =>
      intro i N hi hN
      cases N with
      | zero => omega
      | succ N => show f (zf6 f N) (s0 i) (s1 i) (s2 i) (s3 i) (s4 i) (s5 i) = r; rw [show i = n by omega]; exact he _
    | succ d ih =>
      intro i N hi hN
      cases N with
      | zero => omega
      | succ N => show f (zf6 f N) (s0 i) (s1 i) (s2 i) (s3 i) (s4 i) (s5 i) = r; rw [hs i (by omega)]; exact ih (i + 1) N (by omega) (by omega)
  exact h n 0 N (by omega) hN
theorem zfu_lt {n : Nat} (h : n < 1000000) : n < zfu := Nat.lt_of_lt_of_le h zfu_ge
/-- the least index below n with a property -/
def fstI (p : Nat → Bool) (n : Nat) : Option Nat := (List.range n).find? p
theorem fstI_s {p : Nat → Bool} {n i : Nat} (h : fstI p n = some i) : i < n ∧ p i = true ∧ ∀ j, j < i → p j = false := by
  unfold fstI at h
  rw [List.find?_range_eq_some] at h
  exact ⟨by simpa using h.2.1, h.1, fun j hj => by simpa using h.2.2 j hj⟩
theorem fstI_n {p : Nat → Bool} {n : Nat} (h : fstI p n = none) : ∀ j, j < n → p j = false := by
  unfold fstI at h
  rw [List.find?_eq_none] at h
  intro j hj
  simpa using h j (List.mem_range.mpr hj)
theorem any_fst {p : Nat → Bool} {n : Nat} : (List.range n).any p = (fstI p n).isSome := by
  unfold fstI
  rw [← List.isSome_find?]
/-- a loop that looks for the first index -/
theorem zf1_find {R : Type} {f : (Int32 → Option R) → Int32 → Option R} (n : Nat) (p : Nat → Bool) (hit : Nat → Option R) (miss : Option R) (hn : n < 1000000) (hs : ∀ i, i < n → p i = false → ∀ F, f F (J i) = F (J (i + 1))) (hh : ∀ i, i < n → p i = true → ∀ F, f F (J i) = hit i) (he : ∀ F, f F (J n) = miss) : zf1 f zfu (J 0) = match fstI p n with
    | some i => hit i
    | none => miss := by
  cases h : fstI p n with
  | none => exact zf1_run n J (fun i hi F => hs i hi (fstI_n h i hi) F) he (zfu_lt hn)
  | some k =>
    obtain ⟨h1, h2, h3⟩ := fstI_s h
    exact zf1_run k J (fun i hi F => hs i (by omega) (h3 i hi) F) (hh k h1 h2) (zfu_lt (by omega))
/-- a loop with one number that is kept, up to n -/
theorem zf2_acc {A R : Type} {f : (A → Int32 → Option R) → A → Int32 → Option R} (n : Nat) (g : Nat → A → A) (a : A) {r : Option R} (hn : n < 1000000) (hs : ∀ i, i < n → ∀ F, f F (itr g a i) (J i) = F (g i (itr g a i)) (J (i + 1))) (he : ∀ F, f F (itr g a n) (J n) = r) : zf2 f zfu a (J 0) = r :=
  zf2_run n (itr g a) J hs he (zfu_lt hn)
theorem zf1_any {R : Type} {f : (Int32 → Option R) → Int32 → Option R} (n : Nat) (p : Nat → Bool) (hit miss : Option R) (hn : n < 1000000) (hs : ∀ i, i < n → p i = false → ∀ F, f F (J i) = F (J (i + 1))) (hh : ∀ i, i < n → p i = true → ∀ F, f F (J i) = hit) (he : ∀ F, f F (J n) = miss) : zf1 f zfu (J 0) = if (List.range n).any p then hit else miss := by
  rw [zf1_find n p (fun _ => hit) miss hn hs hh he, any_fst]
  cases fstI p n <;> rfl
