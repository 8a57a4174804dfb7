/-! the new objects are the state -/
theorem vr_c {t s q : Nat} : vr t s q = .inl (t, 2, .inr (.inr (.inr (.inr (fun i => if i < 2 then some (q + 1 + s * i) else none))))) := by
  unfold vr
  refine congrArg (fun f => (.inl (t, 2, .inr (.inr (.inr (.inr f)))) : zE)) (funext fun i => ?_)
  unfold va_up
  by_cases c1 : i = 1
  · subst c1
    rw [if_pos rfl, if_pos (by omega), Nat.mul_one]
  · rw [if_neg c1]
    by_cases c0 : i = 0
    · subst c0
      rw [if_pos rfl, if_pos (by omega)]; rfl
    · rw [if_neg c0, if_neg (by omega)]
def czk (Z : Nat → zCS) (B : Nat) : Nat → List zE → List Nat → Prop
  | i, e :: L, c :: cs => e = ccell (B + i) c (Z i) ∧ czk Z B (i + 1) L cs
  | _, [], [] => True
  | _, _, _ => False
theorem czk_at {Z : Nat → zCS} {B : Nat} : ∀ {L : List zE} {cs : List Nat} {i : Nat}, czk Z B i L cs → ∀ {j : Nat}, j < L.length → ∃ c, cs[j]? = some c ∧ L[j]? = some (ccell (B + (i + j)) c (Z (i + j)))
  | [], _, _, _, _, hj => absurd hj (Nat.not_lt_zero _)
  | _ :: _, [], _, h, _, _ => False.elim h
  | e :: L, c :: cs, i, h, 0, _ => ⟨c, rfl, by rw [Nat.add_zero]; exact congrArg some h.1⟩
  | e :: L, c :: cs, i, h, j + 1, hj => by
    obtain ⟨d, h1, h2⟩ := czk_at h.2 (j := j) (Nat.lt_of_succ_lt_succ hj)
    exact ⟨d, h1, by rw [show i + (j + 1) = i + 1 + j by omega]; exact h2⟩
theorem czk_l {Z : Nat → zCS} {B : Nat} : ∀ {L : List zE} {cs : List Nat} {i : Nat}, czk Z B i L cs → cs.length = L.length
  | [], [], _, _ => rfl
  | [], _ :: _, _, h => False.elim h
  | _ :: _, [], _, h => False.elim h
  | _ :: _, _ :: _, _, h => congrArg (· + 1) (czk_l h.2)
def zZ (r p : Nat) (i : Nat) : zCS := (fun _ k => if (i = r ∧ k = 3) ∨ (i = p ∧ k = 5) then -1 else 0, fun _ _ => 0, fun _ => none)
def s7 : List Nat := [8, 9001, 1004, 9004, 10, 1008, 1008, 1008, 1006, 1006, 1006, 1004, 1004, 1004, 1100, 10, 1008, 1008, 1008, 1006, 1006, 1006, 1004, 1004, 1004, 1100, 9005, 3, 1040, 1040, 1040, 3, 1040, 1040, 1040, 9006, 4, 1010, 1010, 4, 1010, 1010, 9007, 7, 1008, 1008, 1008, 1008, 7, 1008, 1008, 1008, 1008]
def s4z : List Nat := [5, 10, 1008, 1008, 1008, 1006, 1006, 1006, 1004, 1004, 1004, 1100, 3, 1040, 1040, 1040, 4, 1010, 1010, 7, 1008, 1008, 1008, 1008, 1003, 1003]
def s1z : List Nat := [2, 1006, 1600, 1600]
def s5z : List Nat := [6, 4100, 1010]
def s8z : List Nat := [9, 1100, 1100]
def s0z : List Nat := [1, 1006, 1006, 1006]
def s11 : List Nat := 12 :: (s7 ++ [9003] ++ s4z ++ s1z ++ s5z ++ s8z ++ s0z)
theorem cz7_k (B : Nat) : czk (zZ 0 1000) B 0 (cz7 B) s7 := ⟨rfl, rfl, rfl, vr_c, rfl, rfl, rfl, rfl, rfl, rfl, rfl, rfl, rfl, rfl, rfl, rfl, rfl, rfl, rfl, rfl, rfl, rfl, rfl, rfl, rfl, rfl, vr_c, rfl, rfl, rfl, rfl, rfl, rfl, rfl, rfl, vr_c, rfl, rfl, rfl, rfl, rfl, rfl, vr_c, rfl, rfl, rfl, rfl, rfl, rfl, rfl, rfl, rfl, rfl, trivial⟩
theorem czk_app {Z : Nat → zCS} {B n : Nat} {L2 : List zE} {c2 : List Nat} : ∀ {L1 : List zE} {c1 : List Nat} {i : Nat}, czk Z B i L1 c1 → n = i + L1.length → czk Z B n L2 c2 → czk Z B i (L1 ++ L2) (c1 ++ c2)
  | [], [], i, _, hn, h => by
    obtain rfl : n = i := hn
    exact h
  | [], _ :: _, _, h, _, _ => False.elim h
  | _ :: _, [], _, h, _, _ => False.elim h
  | _ :: L1, _ :: _, i, h, hn, h2 => ⟨h.1, czk_app h.2 (by rw [hn, List.length_cons]; omega) h2⟩
theorem cz7_k1 (B : Nat) : czk (zZ 1 55) B 1 (cz7 (B + 1)) s7 := ⟨rfl, rfl, rfl, vr_c, rfl, rfl, rfl, rfl, rfl, rfl, rfl, rfl, rfl, rfl, rfl, rfl, rfl, rfl, rfl, rfl, rfl, rfl, rfl, rfl, rfl, rfl, vr_c, rfl, rfl, rfl, rfl, rfl, rfl, rfl, rfl, vr_c, rfl, rfl, rfl, rfl, rfl, rfl, vr_c, rfl, rfl, rfl, rfl, rfl, rfl, rfl, rfl, rfl, rfl, trivial⟩
theorem s4z_k (B : Nat) : czk (zZ 1 55) B 55 (cz4 (B + 55) (B + 2)) s4z := ⟨rfl, rfl, rfl, rfl, rfl, rfl, rfl, rfl, rfl, rfl, rfl, rfl, rfl, rfl, rfl, rfl, rfl, rfl, rfl, rfl, rfl, rfl, rfl, rfl, rfl, rfl, trivial⟩
theorem s1z_k (B : Nat) : czk (zZ 1 55) B 81 (cz1 (B + 81)) s1z := ⟨rfl, rfl, rfl, rfl, trivial⟩
theorem s5z_k (B : Nat) : czk (zZ 1 55) B 85 (cz5 (B + 85)) s5z := ⟨rfl, rfl, rfl, trivial⟩
theorem s8z_k (B : Nat) : czk (zZ 1 55) B 88 (cz8 (B + 88)) s8z := ⟨rfl, rfl, rfl, trivial⟩
theorem s0z_k (B : Nat) : czk (zZ 1 55) B 91 (cz0 (B + 91)) s0z := ⟨rfl, rfl, rfl, rfl, trivial⟩
theorem czp_k (B : Nat) : czk (zZ 1 55) B 54 [.inl (3, 3, .inr (.inr (.inr (.inr (fun _ => none)))))] [9003] := ⟨rfl, trivial⟩
theorem cz11_k (B : Nat) : czk (zZ 1 55) B 0 (cz11 B) s11 := by
  refine ⟨rfl, ?_⟩
  have l1 : (cz7 (B + 1)).length = 53 := rfl
  refine czk_app (czk_app (czk_app (czk_app (czk_app (czk_app (cz7_k1 B) ?_ (czp_k B)) ?_ (s4z_k B)) ?_ (s1z_k B)) ?_ (s5z_k B)) ?_ (s8z_k B)) ?_ (s0z_k B) <;> simp only [List.length_append, List.length_cons, List.length_nil, cz7_l, cz4_l, cz1_l, cz5_l, cz8_l]
def shz (S : List Nat) (B : Nat) (sh : Nat → Nat) : Nat → Nat := fun q => if q < B then sh q else match S[q - B]? with
  | some c => c
  | none => sh q
theorem shz_lo {S : List Nat} {B q : Nat} {sh : Nat → Nat} (h : q < B) : shz S B sh q = sh q := if_pos h
theorem shz_at {S : List Nat} {B i c : Nat} {sh : Nat → Nat} (h : S[i]? = some c) : shz S B sh (B + i) = c := by
  unfold shz
  rw [if_neg (by omega), Nat.add_sub_cancel_left, h]
theorem shz_hi {S : List Nat} {B q : Nat} {sh : Nat → Nat} (h : B + S.length ≤ q) : shz S B sh q = sh q := by
  unfold shz
  rw [if_neg (by omega), List.getElem?_eq_none (by omega)]
theorem isX7_z {B : Nat} {sh : Nat → Nat} : isX7 (shz s7 B sh) B := ⟨shz_at (i := 0) rfl, shz_at (i := 1) rfl, shz_at (i := 2) rfl, shz_at (i := 3) rfl, ⟨shz_at (i := 4) rfl, shz_at (i := 5) rfl, shz_at (i := 6) rfl, shz_at (i := 7) rfl, shz_at (i := 8) rfl, shz_at (i := 9) rfl, shz_at (i := 10) rfl, shz_at (i := 11) rfl, shz_at (i := 12) rfl, shz_at (i := 13) rfl, shz_at (i := 14) rfl⟩, ⟨shz_at (i := 15) rfl, shz_at (i := 16) rfl, shz_at (i := 17) rfl, shz_at (i := 18) rfl, shz_at (i := 19) rfl, shz_at (i := 20) rfl, shz_at (i := 21) rfl, shz_at (i := 22) rfl, shz_at (i := 23) rfl, shz_at (i := 24) rfl, shz_at (i := 25) rfl⟩, shz_at (i := 26) rfl, ⟨shz_at (i := 27) rfl, shz_at (i := 28) rfl, shz_at (i := 29) rfl, shz_at (i := 30) rfl⟩, ⟨shz_at (i := 31) rfl, shz_at (i := 32) rfl, shz_at (i := 33) rfl, shz_at (i := 34) rfl⟩, shz_at (i := 35) rfl, ⟨shz_at (i := 36) rfl, shz_at (i := 37) rfl, shz_at (i := 38) rfl⟩, ⟨shz_at (i := 39) rfl, shz_at (i := 40) rfl, shz_at (i := 41) rfl⟩, shz_at (i := 42) rfl, ⟨shz_at (i := 43) rfl, shz_at (i := 44) rfl, shz_at (i := 45) rfl, shz_at (i := 46) rfl, shz_at (i := 47) rfl⟩, ⟨shz_at (i := 48) rfl, shz_at (i := 49) rfl, shz_at (i := 50) rfl, shz_at (i := 51) rfl, shz_at (i := 52) rfl⟩⟩
theorem isX11_z {B : Nat} {sh : Nat → Nat} : isX11 (shz s11 B sh) B := ⟨shz_at (i := 0) rfl, ⟨shz_at (i := 1) rfl, shz_at (i := 2) rfl, shz_at (i := 3) rfl, shz_at (i := 4) rfl, ⟨shz_at (i := 5) rfl, shz_at (i := 6) rfl, shz_at (i := 7) rfl, shz_at (i := 8) rfl, shz_at (i := 9) rfl, shz_at (i := 10) rfl, shz_at (i := 11) rfl, shz_at (i := 12) rfl, shz_at (i := 13) rfl, shz_at (i := 14) rfl, shz_at (i := 15) rfl⟩, ⟨shz_at (i := 16) rfl, shz_at (i := 17) rfl, shz_at (i := 18) rfl, shz_at (i := 19) rfl, shz_at (i := 20) rfl, shz_at (i := 21) rfl, shz_at (i := 22) rfl, shz_at (i := 23) rfl, shz_at (i := 24) rfl, shz_at (i := 25) rfl, shz_at (i := 26) rfl⟩, shz_at (i := 27) rfl, ⟨shz_at (i := 28) rfl, shz_at (i := 29) rfl, shz_at (i := 30) rfl, shz_at (i := 31) rfl⟩, ⟨shz_at (i := 32) rfl, shz_at (i := 33) rfl, shz_at (i := 34) rfl, shz_at (i := 35) rfl⟩, shz_at (i := 36) rfl, ⟨shz_at (i := 37) rfl, shz_at (i := 38) rfl, shz_at (i := 39) rfl⟩, ⟨shz_at (i := 40) rfl, shz_at (i := 41) rfl, shz_at (i := 42) rfl⟩, shz_at (i := 43) rfl, ⟨shz_at (i := 44) rfl, shz_at (i := 45) rfl, shz_at (i := 46) rfl, shz_at (i := 47) rfl, shz_at (i := 48) rfl⟩, ⟨shz_at (i := 49) rfl, shz_at (i := 50) rfl, shz_at (i := 51) rfl, shz_at (i := 52) rfl, shz_at (i := 53) rfl⟩⟩, shz_at (i := 54) rfl, ⟨shz_at (i := 55) rfl, ⟨shz_at (i := 56) rfl, shz_at (i := 57) rfl, shz_at (i := 58) rfl, shz_at (i := 59) rfl, shz_at (i := 60) rfl, shz_at (i := 61) rfl, shz_at (i := 62) rfl, shz_at (i := 63) rfl, shz_at (i := 64) rfl, shz_at (i := 65) rfl, shz_at (i := 66) rfl⟩, ⟨shz_at (i := 67) rfl, shz_at (i := 68) rfl, shz_at (i := 69) rfl, shz_at (i := 70) rfl⟩, ⟨shz_at (i := 71) rfl, shz_at (i := 72) rfl, shz_at (i := 73) rfl⟩, ⟨shz_at (i := 74) rfl, shz_at (i := 75) rfl, shz_at (i := 76) rfl, shz_at (i := 77) rfl, shz_at (i := 78) rfl⟩, shz_at (i := 79) rfl, shz_at (i := 80) rfl, (by rw [show B + 55 - 53 = B + 2 by omega]; exact shz_at (i := 2) rfl), by omega⟩, ⟨shz_at (i := 81) rfl, shz_at (i := 82) rfl, shz_at (i := 83) rfl, shz_at (i := 84) rfl⟩, ⟨shz_at (i := 85) rfl, shz_at (i := 86) rfl, shz_at (i := 87) rfl⟩, ⟨shz_at (i := 88) rfl, shz_at (i := 89) rfl, shz_at (i := 90) rfl⟩, ⟨shz_at (i := 91) rfl, shz_at (i := 92) rfl, shz_at (i := 93) rfl, shz_at (i := 94) rfl⟩⟩
