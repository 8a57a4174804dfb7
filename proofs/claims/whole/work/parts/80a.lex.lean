/-! texts: signs, runs, tokens -/
def bq (x : Int32) (n : Nat) : Prop := n < 256 ∧ x &&& 255 = J n ∧ (n < 128 → x = J n) ∧ (128 ≤ n → x < J 0)
theorem bq_neg {x : Int32} {n : Nat} (h : bq x n) (hn : 128 ≤ n) : x.toInt < 0 := by
  have h0 := h.2.2.2 hn
  rw [Int32.lt_iff_toInt_lt, J_toInt (by omega)] at h0
  exact h0
theorem bq_eq {x : Int32} {n c : Nat} (h : bq x n) (hc : c < 128) : (x = J c) ↔ n = c := by
  by_cases hn : n < 128
  · rw [h.2.2.1 hn, J_eq (by omega) (by omega)]
  · have h0 := bq_neg h (by omega)
    refine ⟨fun z => ?_, fun z => by omega⟩
    rw [z, J_toInt (by omega)] at h0
    omega
theorem bq_lt {x : Int32} {n c : Nat} (h : bq x n) (hc : c < 128) : (x < J c) ↔ (n < c ∨ 128 ≤ n) := by
  by_cases hn : n < 128
  · rw [h.2.2.1 hn, J_lt (by omega) (by omega)]; omega
  · have h0 := bq_neg h (by omega)
    rw [Int32.lt_iff_toInt_lt, J_toInt (by omega)]
    omega
theorem bq_gt {x : Int32} {n c : Nat} (h : bq x n) (hc : c < 128) : (J c < x) ↔ (c < n ∧ n < 128) := by
  by_cases hn : n < 128
  · rw [h.2.2.1 hn, J_lt (by omega) (by omega)]; omega
  · have h0 := bq_neg h (by omega)
    rw [Int32.lt_iff_toInt_lt, J_toInt (by omega)]
    omega
def isBk (n : Nat) : Bool := decide (n = 10 ∨ n = 32)
def isLt (n : Nat) : Bool := decide (97 ≤ n ∧ n ≤ 122)
def isDg (n : Nat) : Bool := decide (48 ≤ n ∧ n ≤ 57)
theorem isBk_t {n : Nat} : isBk n = true ↔ n = 10 ∨ n = 32 := by simp [isBk]
theorem isLt_t {n : Nat} : isLt n = true ↔ 97 ≤ n ∧ n ≤ 122 := by simp [isLt]
theorem isDg_t {n : Nat} : isDg n = true ↔ 48 ≤ n ∧ n ≤ 57 := by simp [isDg]
theorem bJ_is {b : Bool} {c : Prop} [Decidable c] (h : b = true ↔ c) : (if c then J 1 else J 0 : Int32) = bJ b := by
  by_cases hc : c
  · rw [if_pos hc, h.mpr hc]; rfl
  · rw [if_neg hc]
    cases b with
    | false => rfl
    | true => exact absurd (h.mp rfl) hc
theorem C_isBlank {x : Int32} {n : Nat} (h : bq x n) : gX4_isBlank x = some (bJ (isBk n)) := by
  have h1 : x = 10 ↔ n = 10 := bq_eq h (c := 10) (by omega)
  have h2 : x = 32 ↔ n = 32 := bq_eq h (c := 32) (by omega)
  unfold gX4_isBlank
  by_cases c1 : n = 10
  · rw [if_pos (h1.mpr c1), wb1, isBk_t.mpr (.inl c1)]
    show zb1 (zbz (J 1)) _ = _
    rw [zbz_1, wb1]; rfl
  · rw [if_neg (fun z => c1 (h1.mp z))]
    by_cases c2 : n = 32
    · rw [if_pos (h2.mpr c2), wb1, isBk_t.mpr (.inr c2)]
      show zb1 (zbz (J 1)) _ = _
      rw [zbz_1, wb1]; rfl
    · rw [if_neg (fun z => c2 (h2.mp z)), wb1, show isBk n = false by simp [isBk, c1, c2]]
      show zb1 (zbz (J 0)) _ = _
      rw [zbz_0, wb1]; rfl
theorem C_isLetter {x : Int32} {n : Nat} (h : bq x n) : gX4_isLetter x = some (bJ (isLt n)) := by
  have h1 : x < 97 ↔ n < 97 ∨ 128 ≤ n := bq_lt h (c := 97) (by omega)
  have h2 : 122 < x ↔ 122 < n ∧ n < 128 := bq_gt h (c := 122) (by omega)
  unfold gX4_isLetter
  by_cases c1 : n < 97 ∨ 128 ≤ n
  · rw [if_pos (h1.mpr c1), wb1, show isLt n = false by simp [isLt]; omega]
    show zb1 (zbz (J 0)) _ = _
    rw [zbz_0, wb1]; rfl
  · rw [if_neg (fun z => c1 (h1.mp z))]
    by_cases c2 : 122 < n ∧ n < 128
    · rw [if_pos (h2.mpr c2), wb1, show isLt n = false by simp [isLt]; omega]
      show zb1 (zbz (J 0)) _ = _
      rw [zbz_0, wb1]; rfl
    · rw [if_neg (fun z => c2 (h2.mp z)), wb1, isLt_t.mpr (by omega)]
      show zb1 (zbz (J 1)) _ = _
      rw [zbz_1, wb1]; rfl
theorem C_isDigit {x : Int32} {n : Nat} (h : bq x n) : gX4_isDigit x = some (bJ (isDg n)) := by
  have h1 : x < 48 ↔ n < 48 ∨ 128 ≤ n := bq_lt h (c := 48) (by omega)
  have h2 : 57 < x ↔ 57 < n ∧ n < 128 := bq_gt h (c := 57) (by omega)
  unfold gX4_isDigit
  by_cases c1 : n < 48 ∨ 128 ≤ n
  · rw [if_pos (h1.mpr c1), wb1, show isDg n = false by simp [isDg]; omega]
    show zb1 (zbz (J 0)) _ = _
    rw [zbz_0, wb1]; rfl
  · rw [if_neg (fun z => c1 (h1.mp z))]
    by_cases c2 : 57 < n ∧ n < 128
    · rw [if_pos (h2.mpr c2), wb1, show isDg n = false by simp [isDg]; omega]
      show zb1 (zbz (J 0)) _ = _
      rw [zbz_0, wb1]; rfl
    · rw [if_neg (fun z => c2 (h2.mp z)), wb1, isDg_t.mpr (by omega)]
      show zb1 (zbz (J 1)) _ = _
      rw [zbz_1, wb1]; rfl
/-- the end of a run -/
def sRun (q : Nat → Bool) (n : Nat) : Nat → Nat → Nat
  | 0, i => i
  | d + 1, i => if i < n ∧ q i = true then sRun q n d (i + 1) else i
def eRun (q : Nat → Bool) (n i : Nat) : Nat := sRun q n (n - i) i
theorem sRun_p (q : Nat → Bool) (n : Nat) : ∀ d i, n - i ≤ d → i ≤ sRun q n d i ∧ (∀ j, i ≤ j → j < sRun q n d i → j < n ∧ q j = true) ∧ ¬ (sRun q n d i < n ∧ q (sRun q n d i) = true) ∧ (i ≤ n → sRun q n d i ≤ n)
  | 0, i, h => ⟨Nat.le_refl _, fun j h1 h2 => absurd h2 (Nat.not_lt.mpr h1), fun z => by have := z.1; simp only [sRun] at this; omega, fun z => z⟩
  | d + 1, i, h => by
    unfold sRun
    by_cases hc : i < n ∧ q i = true
    · rw [if_pos hc]
      obtain ⟨h1, h2, h3, h4⟩ := sRun_p q n d (i + 1) (by omega)
      refine ⟨by omega, fun j h5 h6 => ?_, h3, fun _ => h4 hc.1⟩
      by_cases hj : j = i
      · rw [hj]; exact hc
      · exact h2 j (by omega) h6
    · rw [if_neg hc]
      exact ⟨Nat.le_refl _, fun j h1 h2 => absurd h2 (Nat.not_lt.mpr h1), hc, fun z => z⟩
theorem eRun_p (q : Nat → Bool) (n i : Nat) : i ≤ eRun q n i ∧ (∀ j, i ≤ j → j < eRun q n i → j < n ∧ q j = true) ∧ ¬ (eRun q n i < n ∧ q (eRun q n i) = true) ∧ (i ≤ n → eRun q n i ≤ n) := sRun_p q n (n - i) i (Nat.le_refl _)
theorem eRun_s {q : Nat → Bool} {n i : Nat} (h : i < n) (hq : q i = true) : i < eRun q n i := by
  obtain ⟨h1, h2, h3, h4⟩ := eRun_p q n i
  rcases Nat.lt_or_ge i (eRun q n i) with z | z
  · exact z
  · exfalso
    have : eRun q n i = i := by omega
    rw [this] at h3
    exact h3 ⟨h, hq⟩
theorem zf1_scan {f : (Int32 → Option Int32) → Int32 → Option Int32} {q : Nat → Bool} {n : Nat} (hn : n < 100000) (hs : ∀ j, j ≤ n → ∀ F, f F (J j) = if j < n ∧ q j = true then F (J (j + 1)) else some (J j)) {i : Nat} (hi : i ≤ n) : zf1 f zfu (J i) = some (J (eRun q n i)) := by
  obtain ⟨h1, h2, h3, h4⟩ := eRun_p q n i
  have h5 := h4 hi
  exact zf1_run (f := f) (r := some (J (eRun q n i))) (eRun q n i - i) (fun j => J (i + j)) (fun j hj F => by
    show f F (J (i + j)) = F (J (i + (j + 1)))
    rw [hs (i + j) (by omega) F, if_pos (h2 (i + j) (by omega) (by omega))]; rfl) (fun F => by
    show f F (J (i + (eRun q n i - i))) = _
    rw [show i + (eRun q n i - i) = eRun q n i by omega, hs _ h5 F, if_neg h3]) (zfu_lt (by omega))
/-- the token behind a place: where it begins, its kind, where it ends, its number -/
def Sk (t : Nat → Nat) (n i : Nat) : Nat := eRun (fun j => isBk (t j)) n i
def Ek (t : Nat → Nat) (n i : Nat) : Nat := if n ≤ Sk t n i then Sk t n i else if isLt (t (Sk t n i)) = true then eRun (fun j => isLt (t j)) n (Sk t n i) else if isDg (t (Sk t n i)) = true then eRun (fun j => isDg (t j)) n (Sk t n i) else Sk t n i + 1
def Kk (t : Nat → Nat) (n i : Nat) : Nat := if n ≤ Sk t n i then 0 else if isLt (t (Sk t n i)) = true then 1 else if isDg (t (Sk t n i)) = true then (if Ek t n i - Sk t n i ≤ 2 then 2 else 4) else if t (Sk t n i) = 59 then 3 else 4
def nmb (t : Nat → Nat) (s : Nat) : Nat → Nat
  | 0 => 0
  | d + 1 => 10 * nmb t s d + (t (s + d) - 48)
def Vk (t : Nat → Nat) (n i : Nat) : Nat := nmb t (Sk t n i) (Ek t n i - Sk t n i)
theorem Sk_p {t : Nat → Nat} {n i : Nat} (hi : i ≤ n) : i ≤ Sk t n i ∧ Sk t n i ≤ n := ⟨(eRun_p _ n i).1, (eRun_p _ n i).2.2.2 hi⟩
theorem Ek_p {t : Nat → Nat} {n i : Nat} (hi : i ≤ n) : Sk t n i ≤ Ek t n i ∧ Ek t n i ≤ n ∧ (Sk t n i < n → Sk t n i < Ek t n i) ∧ (Kk t n i = 0 ↔ Sk t n i = n) := by
  have h0 := Sk_p (t := t) hi
  unfold Ek Kk
  by_cases c1 : n ≤ Sk t n i
  · rw [if_pos c1, if_pos c1]; refine ⟨by omega, by omega, by omega, ⟨fun _ => by omega, fun _ => rfl⟩⟩
  · rw [if_neg c1, if_neg c1]
    by_cases c2 : isLt (t (Sk t n i)) = true
    · rw [if_pos c2, if_pos c2]
      have h1 := eRun_s (q := fun j => isLt (t j)) (n := n) (i := Sk t n i) (by omega) c2
      have h2 := (eRun_p (fun j => isLt (t j)) n (Sk t n i)).2.2.2 (by omega)
      exact ⟨by omega, h2, fun _ => h1, ⟨fun z => by omega, fun z => by omega⟩⟩
    · rw [if_neg c2, if_neg c2]
      by_cases c3 : isDg (t (Sk t n i)) = true
      · rw [if_pos c3, if_pos c3]
        have h1 := eRun_s (q := fun j => isDg (t j)) (n := n) (i := Sk t n i) (by omega) c3
        have h2 := (eRun_p (fun j => isDg (t j)) n (Sk t n i)).2.2.2 (by omega)
        refine ⟨by omega, h2, fun _ => h1, ⟨fun z => ?_, fun z => by omega⟩⟩
        split at z <;> omega
      · rw [if_neg c3, if_neg c3]
        refine ⟨by omega, by omega, fun _ => by omega, ⟨fun z => ?_, fun z => by omega⟩⟩
        split at z <;> omega
theorem Kk_le {t : Nat → Nat} {n i : Nat} : Kk t n i ≤ 4 := by
  unfold Kk
  repeat' split
  all_goals omega
theorem Kk_w {t : Nat → Nat} {n i : Nat} (h : Kk t n i = 1) : ∀ j, Sk t n i ≤ j → j < Ek t n i → j < n ∧ isLt (t j) = true := by
  unfold Kk at h
  by_cases c1 : n ≤ Sk t n i
  · rw [if_pos c1] at h; omega
  · rw [if_neg c1] at h
    by_cases c2 : isLt (t (Sk t n i)) = true
    · intro j h1 h2
      unfold Ek at h2
      rw [if_neg c1, if_pos c2] at h2
      exact (eRun_p (fun j => isLt (t j)) n (Sk t n i)).2.1 j h1 h2
    · exfalso
      rw [if_neg c2] at h
      repeat' split at h
      all_goals omega
theorem Kk_d {t : Nat → Nat} {n i : Nat} (h : Kk t n i = 2) : Ek t n i - Sk t n i ≤ 2 ∧ ∀ j, Sk t n i ≤ j → j < Ek t n i → j < n ∧ isDg (t j) = true := by
  unfold Kk at h
  by_cases c1 : n ≤ Sk t n i
  · rw [if_pos c1] at h; omega
  · rw [if_neg c1] at h
    by_cases c2 : isLt (t (Sk t n i)) = true
    · rw [if_pos c2] at h; omega
    · rw [if_neg c2] at h
      by_cases c3 : isDg (t (Sk t n i)) = true
      · rw [if_pos c3] at h
        refine ⟨?_, fun j h1 h2 => ?_⟩
        · split at h <;> omega
        · unfold Ek at h2
          rw [if_neg c1, if_neg c2, if_pos c3] at h2
          exact (eRun_p (fun j => isDg (t j)) n (Sk t n i)).2.1 j h1 h2
      · rw [if_neg c3] at h
        split at h <;> omega
theorem Vk_lt {t : Nat → Nat} {n i : Nat} (h : Kk t n i = 2) : Vk t n i < 100 := by
  obtain ⟨h1, h2⟩ := Kk_d h
  unfold Vk
  obtain ⟨d, hd⟩ : ∃ d, d = Ek t n i - Sk t n i := ⟨_, rfl⟩
  rw [← hd]
  have h3 : ∀ j, j < d → t (Sk t n i + j) ≤ 57 := fun j hj => (isDg_t.mp (h2 (Sk t n i + j) (by omega) (by omega)).2).2
  match d, hd, h3 with
  | 0, _, _ => show 0 < 100; omega
  | 1, _, h3 => have := h3 0 (by omega); show 10 * 0 + (t (Sk t n i + 0) - 48) < 100; omega
  | 2, _, h3 => have := h3 0 (by omega); have := h3 1 (by omega); show 10 * (10 * 0 + (t (Sk t n i + 0) - 48)) + (t (Sk t n i + 1) - 48) < 100; omega
  | d + 3, hd, _ => omega
/-- the class's token -/
theorem C_advance {U : zCS} {r n i : Nat} {t : Nat → Nat} (hn : n ≤ 600) (hi : i ≤ n) (h7 : U.1 r 7 = J n) (h10 : U.1 r 10 = J i) (ht : ∀ k, k < 600 → bq (U.2.1 (r - 53) k) (t k)) : gX4_advance U r = some (csI (csI (csI U r 9 (J (Sk t n i))) r 8 (J (Kk t n i))) r 10 (J (Ek t n i))) := by
  have hs1 : ∀ j, j ≤ n → ∀ F, gX4_advance_l5 U r F (J j) = if j < n ∧ isBk (t j) = true then F (J (j + 1)) else some (J j) := by
    intro j hj F
    unfold gX4_advance_l5
    rw [h7]
    by_cases c1 : n ≤ j
    · rw [if_pos ((J_le (by omega) (by omega)).mpr c1), if_neg (by omega)]
    · rw [if_neg (fun z => c1 ((J_le (by omega) (by omega)).mp z)), zag_J (by omega) (by omega), wb1, C_isBlank (ht j (by omega)), wb1]
      show (if bJ (isBk (t j)) = J 0 then some (J j) else F (J j + J 1)) = _
      rw [J_add]
      cases hb : isBk (t j) with
      | true => rw [if_neg (by rw [bJ_0]; decide), if_pos ⟨by omega, rfl⟩]
      | false => rw [if_pos (by rw [bJ_0]), if_neg (fun z => by cases z.2)]
  have hsk := Sk_p (t := t) hi
  unfold gX4_advance
  rw [h10, zf1_scan (q := fun j => isBk (t j)) (by omega) hs1 hi, wb1, wb1]
  obtain ⟨s, hs⟩ : ∃ s, s = Sk t n i := ⟨_, rfl⟩
  rw [show eRun (fun j => isBk (t j)) n i = s from hs.symm]
  rw [← hs] at hsk
  obtain ⟨V, hV⟩ : ∃ V, V = csI U r 9 (J s) := ⟨_, rfl⟩
  have a7 : V.1 r 7 = J n := by rw [hV, csI_o2 (.inr (by decide))]; exact h7
  have a9 : V.1 r 9 = J s := by rw [hV]; exact csI_1
  have av : V.2.1 = U.2.1 := by rw [hV]; rfl
  rw [← hs, ← hV, a7, a9, av]
  have hs2 : ∀ j, j ≤ n → ∀ F, gX4_advance_l64 V r F (J j) = if j < n ∧ isLt (t j) = true then F (J (j + 1)) else some (J j) := by
    intro j hj F
    unfold gX4_advance_l64
    rw [a7, av]
    by_cases c1 : n ≤ j
    · rw [if_pos ((J_le (by omega) (by omega)).mpr c1), if_neg (by omega)]
    · rw [if_neg (fun z => c1 ((J_le (by omega) (by omega)).mp z)), zag_J (by omega) (by omega), wb1, C_isLetter (ht j (by omega)), wb1]
      show (if bJ (isLt (t j)) = J 0 then some (J j) else F (J j + J 1)) = _
      rw [J_add]
      cases hb : isLt (t j) with
      | true => rw [if_neg (by rw [bJ_0]; decide), if_pos ⟨by omega, rfl⟩]
      | false => rw [if_pos (by rw [bJ_0]), if_neg (fun z => by cases z.2)]
  have hs3 : ∀ j, j ≤ n → ∀ F, gX4_advance_l110 V r F (J j) = if j < n ∧ isDg (t j) = true then F (J (j + 1)) else some (J j) := by
    intro j hj F
    unfold gX4_advance_l110
    rw [a7, av]
    by_cases c1 : n ≤ j
    · rw [if_pos ((J_le (by omega) (by omega)).mpr c1), if_neg (by omega)]
    · rw [if_neg (fun z => c1 ((J_le (by omega) (by omega)).mp z)), zag_J (by omega) (by omega), wb1, C_isDigit (ht j (by omega)), wb1]
      show (if bJ (isDg (t j)) = J 0 then some (J j) else F (J j + J 1)) = _
      rw [J_add]
      cases hb : isDg (t j) with
      | true => rw [if_neg (by rw [bJ_0]; decide), if_pos ⟨by omega, rfl⟩]
      | false => rw [if_pos (by rw [bJ_0]), if_neg (fun z => by cases z.2)]
  have hEK := Ek_p (t := t) hi
  unfold Ek at hEK
  unfold Kk Ek
  rw [← hs] at hEK ⊢
  by_cases c1 : n ≤ s
  · rw [if_neg (show ¬ J s < J n by rw [J_lt (by omega) (by omega)]; omega), wb1, wc2, wb1, if_pos c1, if_pos c1]; rfl
  · rw [if_neg c1] at hEK
    rw [if_pos (show J s < J n by rw [J_lt (by omega) (by omega)]; omega), zag_J (by omega) (by omega), wb1, C_isLetter (ht s (by omega)), wb1, if_neg c1, if_neg c1]
    by_cases c2 : isLt (t s) = true
    · rw [if_neg (show ¬ bJ (isLt (t s)) = 0 by rw [c2]; decide), zf1_scan (q := fun j => isLt (t j)) (by omega) hs2 (by omega), wb1, wb1, wc2, wb1, if_pos c2, if_pos c2]; rfl
    · rw [if_neg c2] at hEK
      have c2' : isLt (t s) = false := by cases h : isLt (t s) with | true => exact absurd h c2 | false => rfl
      rw [if_pos (show bJ (isLt (t s)) = 0 by rw [c2']; rfl), wb1, C_isDigit (ht s (by omega)), wb1, if_neg c2, if_neg c2]
      by_cases c3 : isDg (t s) = true
      · rw [if_pos c3] at hEK
        rw [if_neg (show ¬ bJ (isDg (t s)) = 0 by rw [c3]; decide), zf1_scan (q := fun j => isDg (t j)) (by omega) hs3 (by omega), wb1, if_pos c3, if_pos c3, J_sub (by omega)]
        by_cases c4 : eRun (fun j => isDg (t j)) n s - s ≤ 2
        · rw [if_neg (show ¬ (2 : Int32) < J (eRun (fun j => isDg (t j)) n s - s) by rw [show (2 : Int32) = J 2 from rfl, J_lt (by omega) (by omega)]; omega), wb1, wb1, wc2, wb1, if_pos c4]; rfl
        · rw [if_pos (show (2 : Int32) < J (eRun (fun j => isDg (t j)) n s - s) by rw [show (2 : Int32) = J 2 from rfl, J_lt (by omega) (by omega)]; omega), wb1, wb1, wc2, wb1, if_neg c4]; rfl
      · have c3' : isDg (t s) = false := by cases h : isDg (t s) with | true => exact absurd h c3 | false => rfl
        have h59 : U.2.1 (r - 53) s = 59 ↔ t s = 59 := bq_eq (ht s (by omega)) (c := 59) (by omega)
        rw [if_pos (show bJ (isDg (t s)) = 0 by rw [c3']; rfl), wb1, if_neg c3, if_neg c3]
        by_cases c4 : t s = 59
        · rw [if_pos (h59.mpr c4), wb1, wb1, wc2, wb1, if_pos c4]
          show some (csI _ _ _ (J s + J 1)) = _
          rw [J_add]; rfl
        · rw [if_neg (fun z => c4 (h59.mp z)), wb1, wb1, wc2, wb1, if_neg c4]
          show some (csI _ _ _ (J s + J 1)) = _
          rw [J_add]; rfl
