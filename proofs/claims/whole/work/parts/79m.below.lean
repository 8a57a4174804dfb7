/-! the shortest talk: the class's search, at its memory -/
def isRw (μ : zM) (a : Nat) (h : Nat → Nat) : Prop := ∀ k, k < 8 → zm_aI μ 0 a (J k) = some (J (h k))
theorem wF_e {h : Nat → Nat} : ∀ i p, wF h (i + 1) p = wF h i p + h (p + i)
  | 0, p => by show h p + 0 = 0 + h p; omega
  | i + 1, p => by
    show h p + wF h (i + 1) (p + 1) = h p + wF h i (p + 1) + h (p + (i + 1))
    rw [wF_e i (p + 1), show p + 1 + i = p + (i + 1) by omega]; omega
theorem wF_b {h : Nat → Nat} (hh : ∀ k, k < 8 → h k < 100) : ∀ i p, i + p ≤ 8 → wF h i p ≤ 100 * i
  | 0, p, _ => Nat.le_refl _
  | i + 1, p, hp => by
    have h1 := wF_b hh i p (by omega)
    have h2 := hh (p + i) (by omega)
    rw [wF_e]; omega
theorem F_weightFrom {μ : zM} {a : Nat} {h : Nat → Nat} (hr : isRw μ a h) {p : Nat} (hp : p ≤ 8) : fX10_weightFrom μ a (J p) = some (J (wF h (8 - p) p)) := by
  unfold fX10_weightFrom
  have hze := zf2_run (f := fX10_weightFrom_l4 μ a) (r := some (J (wF h (8 - p) p))) (8 - p) (fun i => J (wF h i p)) (fun i => J (p + i)) (by
    intro i hi F
    unfold fX10_weightFrom_l4
    rw [if_neg (show ¬ (8 : Int32) ≤ J (p + i) by rw [show (8 : Int32) = J 8 from rfl, J_le (by omega) (by omega)]; omega), hr (p + i) (by omega), wb1, J_add, wF_e]
    show F _ (J (p + i) + J 1) = _
    rw [J_add]
    rfl) (by
    intro F
    unfold fX10_weightFrom_l4
    rw [if_pos (show (8 : Int32) ≤ J (p + (8 - p)) by rw [show (8 : Int32) = J 8 from rfl, J_le (by omega) (by omega)]; omega)]) (zfu_lt (by omega))
  show zb1 (zf2 (fX10_weightFrom_l4 μ a) zfu (J 0) (J (p + 0))) _ = _
  rw [show wF h 0 p = 0 from rfl] at hze
  rw [hze, wb1]
theorem F_fewestBelow {μ : zM} {a : Nat} {h : Nat → Nat} (hr : isRw μ a h) (hh : ∀ k, k < 8 → h k < 100) : ∀ l n r o, l < n → l ≤ 7 → r ≤ 8 → o ≤ 16 → zf4 (fX10_fewestBelow_k μ) n a (J (8 - r)) (J o) (J l) = some (J (fT h l r o)) := by
  intro l
  induction l with
  | zero =>
    intro n r o hn _ hr8 ho
    cases n with
    | zero => omega
    | succ n =>
      show fX10_fewestBelow_k μ (zf4 (fX10_fewestBelow_k μ) n) a (J (8 - r)) (J o) (J 0) = some (J (if r ≤ o then 0 else 1000000))
      unfold fX10_fewestBelow_k
      rw [show (8 : Int32) - J (8 - r) = J r by rw [show (8 : Int32) = J 8 from rfl, J_sub (by omega), show 8 - (8 - r) = r by omega]]
      by_cases hro : r ≤ o
      · rw [if_neg (show ¬ J o < J r by rw [J_lt (by omega) (by omega)]; omega), if_pos hro]; rfl
      · rw [if_pos (show J o < J r by rw [J_lt (by omega) (by omega)]; omega), if_neg hro, if_neg (show ¬ (0 : Int32) < J 0 by decide)]; rfl
  | succ l ih =>
    intro n r o hn hl hr8 ho
    cases n with
    | zero => omega
    | succ n =>
      show fX10_fewestBelow_k μ (zf4 (fX10_fewestBelow_k μ) n) a (J (8 - r)) (J o) (J (l + 1)) = some (J (if r ≤ o then 0 else mnf (fun e => fT h l (r - e) (2 * (o - e)) + wF h (r - e) (8 - (r - e))) o))
      unfold fX10_fewestBelow_k
      rw [show (8 : Int32) - J (8 - r) = J r by rw [show (8 : Int32) = J 8 from rfl, J_sub (by omega), show 8 - (8 - r) = r by omega]]
      by_cases hro : r ≤ o
      · rw [if_neg (show ¬ J o < J r by rw [J_lt (by omega) (by omega)]; omega), if_pos hro]; rfl
      · rw [if_pos (show J o < J r by rw [J_lt (by omega) (by omega)]; omega), if_neg hro, if_pos (show (0 : Int32) < J (l + 1) by rw [show (0 : Int32) = J 0 from rfl, J_lt (by omega) (by omega)]; omega)]
        obtain ⟨g, hg⟩ : ∃ g : Nat → Nat, g = fun e => fT h l (r - e) (2 * (o - e)) + wF h (r - e) (8 - (r - e)) := ⟨_, rfl⟩
        rw [← hg]
        have hze := zf2_run (f := fX10_fewestBelow_l24 (J o) (zf4 (fX10_fewestBelow_k μ) n) a (J (8 - r)) (J (l + 1)) μ) (r := some (J (mnf g o))) o (fun i => J (mnf g i)) J (by
          intro i hi F
          have b1 := mnf_B (g := g) i
          have b2 := @fT_B h l (r - i) (2 * (o - i))
          have b3 := wF_b hh (r - i) (8 - (r - i)) (by omega)
          have hgi : g i = fT h l (r - i) (2 * (o - i)) + wF h (r - i) (8 - (r - i)) := by rw [hg]
          unfold fX10_fewestBelow_l24
          rw [if_neg (show ¬ J o ≤ J i by rw [J_le (by omega) (by omega)]; omega), J_add, show 8 - r + i = 8 - (r - i) by omega, show (2 : Int32) * (J o - J i) = J (2 * (o - i)) by rw [J_sub (by omega), show (2 : Int32) = J 2 from rfl, J_mul], show (J (l + 1) - 1 : Int32) = J l by rw [show (1 : Int32) = J 1 from rfl, J_sub (by omega), Nat.add_sub_cancel], ih n (r - i) (2 * (o - i)) (by omega) (by omega) (by omega) (by omega), wb1, F_weightFrom hr (by omega), wb1, show 8 - (8 - (r - i)) = r - i by omega, J_add, ← hgi, mnf_s]
          have hmin : (if J (g i) < J (mnf g i) then J (g i) else J (mnf g i) : Int32) = J (min (mnf g i) (g i)) := by
            by_cases hc : g i < mnf g i
            · rw [if_pos (show J (g i) < J (mnf g i) by rw [J_lt (by omega) (by omega)]; exact hc), show min (mnf g i) (g i) = g i by omega]
            · rw [if_neg (show ¬ J (g i) < J (mnf g i) by rw [J_lt (by omega) (by omega)]; exact hc), show min (mnf g i) (g i) = mnf g i by omega]
          rw [hmin]
          show F _ (J i + J 1) = _
          rw [J_add]) (by
          intro F
          unfold fX10_fewestBelow_l24
          rw [if_pos (show J o ≤ J o by rw [J_le (by omega) (by omega)]; omega)]) (zfu_lt (by omega))
        show zb1 (zf2 (fX10_fewestBelow_l24 (J o) (zf4 (fX10_fewestBelow_k μ) n) a (J (8 - r)) (J (l + 1)) μ) zfu (J 1000000) (J 0)) _ = _
        rw [show mnf g 0 = 1000000 from rfl] at hze
        rw [hze, wb1]
