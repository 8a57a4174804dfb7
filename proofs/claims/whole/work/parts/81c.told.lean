/-! what is told, copied: the reference; and both sides -/
theorem R_copyRow {M : zMS} {x0 n z w : Nat} (hA : n * z + n ≤ mln x0) (hB : n * w + n ≤ mln x0) (hd : n * z + n ≤ n * w ∨ n * w + n ≤ n * z) (hm : mln x0 < 100000) : ∃ M', gX12_copyRow M x0 (J n) (J z) (J w) = some M' ∧ M'.1 = M.1 ∧ M'.2.1 = M.2.1 ∧ (∀ j, j ≠ x0 → M'.2.2 j = M.2.2 j) ∧ (∀ k, k < n → M'.2.2 x0 (n * w + k) = M.2.2 x0 (n * z + k)) ∧ ∀ q, (q < n * w ∨ n * w + n ≤ q) → M'.2.2 x0 q = M.2.2 x0 q := by
  obtain ⟨A, hAA⟩ : ∃ A, A = n * z := ⟨_, rfl⟩
  obtain ⟨B, hBB⟩ : ∃ B, B = n * w := ⟨_, rfl⟩
  rw [← hAA] at hA hd ⊢
  rw [← hBB] at hB hd ⊢
  obtain ⟨m5, e1, e2, e3, e4, e5, e6⟩ := zf2_inv (f := gX12_copyRow_l3 (J n) x0 (J z) (J w)) n (fun i x m => x = J i ∧ m.1 = M.1 ∧ m.2.1 = M.2.1 ∧ (∀ j, j ≠ x0 → m.2.2 j = M.2.2 j) ∧ (∀ k, k < i → m.2.2 x0 (B + k) = M.2.2 x0 (A + k)) ∧ ∀ q, (q < B ∨ B + i ≤ q) → m.2.2 x0 q = M.2.2 x0 q) (fun m => m.1 = M.1 ∧ m.2.1 = M.2.1 ∧ (∀ j, j ≠ x0 → m.2.2 j = M.2.2 j) ∧ (∀ k, k < n → m.2.2 x0 (B + k) = M.2.2 x0 (A + k)) ∧ ∀ q, (q < B ∨ B + n ≤ q) → m.2.2 x0 q = M.2.2 x0 q) (by
    rintro i x m hi ⟨rfl, f1, f2, f3, f4, f5⟩ F
    refine ⟨J (i + 1), zsA m x0 (upd (m.2.2 x0) (B + i) (M.2.2 x0 (A + i))), ?_, rfl, f1, f2, fun j hj => by rw [zsA_o hj]; exact f3 j hj, fun k hk => ?_, fun q hq => ?_⟩
    · unfold gX12_copyRow_l3
      rw [if_neg (show ¬ J n ≤ J i by rw [J_le (by omega) (by omega)]; omega), J_mul, J_mul, ← hAA, ← hBB, J_add, J_add, zag_J (by omega) (by omega), wb1, f5 (A + i) (by omega), zas_J (by omega) (by omega), wb1, wb1]
      show F (J i + J 1) _ = _
      rw [J_add]
    · rw [zsA_1]
      by_cases hki : k = i
      · subst hki; rw [upd_1]
      · rw [upd_o (by omega)]; exact f4 k (by omega)
    · rw [zsA_1, upd_o (by omega)]; exact f5 q (by omega)) (by
    rintro x m ⟨rfl, f1, f2, f3, f4, f5⟩ F
    refine ⟨m, ?_, f1, f2, f3, f4, f5⟩
    unfold gX12_copyRow_l3
    rw [if_pos (show J n ≤ J n by rw [J_le (by omega) (by omega)]; omega)]) (zfu_lt (by omega)) (x0 := 0) (x1 := M) ⟨rfl, rfl, rfl, fun _ _ => rfl, fun k hk => by omega, fun _ _ => rfl⟩
  refine ⟨m5, ?_, e2, e3, e4, e5, e6⟩
  unfold gX12_copyRow
  rw [e1, wb1]
/-- a slot of the reference, the same in two states -/
def MC (M : zMS) (z : Nat) (M' : zMS) (w : Nat) : Prop := (∀ k, k < 600 → M'.2.2 1 (600 * w + k) = M.2.2 1 (600 * z + k)) ∧ M'.2.2 2 w = M.2.2 2 z ∧ M'.2.2 3 w = M.2.2 3 z ∧ M'.2.2 4 w = M.2.2 4 z ∧ (∀ k, k < 4 → M'.2.2 5 (4 * w + k) = M.2.2 5 (4 * z + k)) ∧ (∀ k, k < 114 → M'.2.2 6 (114 * w + k) = M.2.2 6 (114 * z + k)) ∧ (∀ k, k < 242 → M'.2.2 7 (242 * w + k) = M.2.2 7 (242 * z + k)) ∧ (∀ k, k < 44 → M'.2.2 8 (44 * w + k) = M.2.2 8 (44 * z + k)) ∧ ∀ k, k < 66 → M'.2.2 9 (66 * w + k) = M.2.2 9 (66 * z + k)
theorem MC_s {M M' : zMS} {z : Nat} (h : Msame M M') : MC M z M' z := ⟨fun k _ => by rw [h 1 (by omega)], by rw [h 2 (by omega)], by rw [h 3 (by omega)], by rw [h 4 (by omega)], fun k _ => by rw [h 5 (by omega)], fun k _ => by rw [h 6 (by omega)], fun k _ => by rw [h 7 (by omega)], fun k _ => by rw [h 8 (by omega)], fun k _ => by rw [h 9 (by omega)]⟩
theorem MC_t {A B C : zMS} {x y z : Nat} (h1 : MC A x B y) (h2 : MC B y C z) : MC A x C z := ⟨fun k hk => (h2.1 k hk).trans (h1.1 k hk), h2.2.1.trans h1.2.1, h2.2.2.1.trans h1.2.2.1, h2.2.2.2.1.trans h1.2.2.2.1, fun k hk => (h2.2.2.2.2.1 k hk).trans (h1.2.2.2.2.1 k hk), fun k hk => (h2.2.2.2.2.2.1 k hk).trans (h1.2.2.2.2.2.1 k hk), fun k hk => (h2.2.2.2.2.2.2.1 k hk).trans (h1.2.2.2.2.2.2.1 k hk), fun k hk => (h2.2.2.2.2.2.2.2.1 k hk).trans (h1.2.2.2.2.2.2.2.1 k hk), fun k hk => (h2.2.2.2.2.2.2.2.2 k hk).trans (h1.2.2.2.2.2.2.2.2 k hk)⟩
theorem R_copyAll {M : zMS} {z w : Nat} (hz : z < 4) (hw : w < 4) (hzw : z ≠ w) (hB : ∀ k, k < 600 → isB (M.2.2 1 (600 * z + k))) : ∃ M', gX12_copyAll M (J z) (J w) = some M' ∧ MC M z M' w ∧ (∀ y, y < 4 → y ≠ w → MC M y M' y) ∧ (∀ j, 10 ≤ j → M'.2.2 j = M.2.2 j) ∧ M'.1 = M.1 ∧ M'.2.1 = M.2.1 := by
  obtain ⟨m0, a1, a2, a3, a4, a5, a6⟩ := zf2_inv (f := gX12_copyAll_l2 (J z) (J w)) 600 (fun i x m => x = J i ∧ m.1 = M.1 ∧ m.2.1 = M.2.1 ∧ (∀ j, j ≠ 1 → m.2.2 j = M.2.2 j) ∧ (∀ k, k < i → m.2.2 1 (600 * w + k) = M.2.2 1 (600 * z + k)) ∧ ∀ q, (q < 600 * w ∨ 600 * w + i ≤ q) → m.2.2 1 q = M.2.2 1 q) (fun m => m.1 = M.1 ∧ m.2.1 = M.2.1 ∧ (∀ j, j ≠ 1 → m.2.2 j = M.2.2 j) ∧ (∀ k, k < 600 → m.2.2 1 (600 * w + k) = M.2.2 1 (600 * z + k)) ∧ ∀ q, (q < 600 * w ∨ 600 * w + 600 ≤ q) → m.2.2 1 q = M.2.2 1 q) (by
    rintro i x m hi ⟨rfl, f1, f2, f3, f4, f5⟩ F
    refine ⟨J (i + 1), zsA m 1 (upd (m.2.2 1) (600 * w + i) (M.2.2 1 (600 * z + i))), ?_, rfl, f1, f2, fun j hj => by rw [zsA_o hj]; exact f3 j hj, fun k hk => ?_, fun q hq => ?_⟩
    · unfold gX12_copyAll_l2
      rw [if_neg (show ¬ (600 : Int32) ≤ J i by rw [show (600 : Int32) = J 600 from rfl, J_le (by omega) (by omega)]; omega), show (600 : Int32) = J 600 from rfl, J_mul, J_mul, J_add, J_add, zag_J (by omega) (by omega), wb1, f5 (600 * z + i) (by omega), isB_nar (hB i hi), zas_J (by omega) (by omega), wb1, wb1]
      show F (J i + J 1) _ = _
      rw [J_add]
    · rw [zsA_1]
      by_cases hki : k = i
      · subst hki; rw [upd_1]
      · rw [upd_o (by omega)]; exact f4 k (by omega)
    · rw [zsA_1, upd_o (by omega)]; exact f5 q (by omega)) (by
    rintro x m ⟨rfl, f1, f2, f3, f4, f5⟩ F
    refine ⟨m, ?_, f1, f2, f3, f4, f5⟩
    unfold gX12_copyAll_l2
    rw [if_pos (show (600 : Int32) ≤ J 600 by decide)]) (zfu_lt (by omega)) (x0 := 0) (x1 := M) ⟨rfl, rfl, rfl, fun _ _ => rfl, fun k hk => by omega, fun _ _ => rfl⟩
  have l2 : mln 2 = 4 := rfl
  have l3 : mln 3 = 4 := rfl
  have l4 : mln 4 = 4 := rfl
  have l5 : mln 5 = 16 := rfl
  have l6 : mln 6 = 456 := rfl
  have l7 : mln 7 = 968 := rfl
  have l8 : mln 8 = 176 := rfl
  have l9 : mln 9 = 264 := rfl
  obtain ⟨m2, b1, b2, b3, b4, b5, b6⟩ := R_copyRow (M := m0) (x0 := 2) (n := 1) (z := z) (w := w) (by omega) (by omega) (by omega) (by omega)
  obtain ⟨m3, c1, c2, c3, c4, c5, c6⟩ := R_copyRow (M := m2) (x0 := 3) (n := 1) (z := z) (w := w) (by omega) (by omega) (by omega) (by omega)
  obtain ⟨m4, d1, d2, d3, d4, d5, d6⟩ := R_copyRow (M := m3) (x0 := 4) (n := 1) (z := z) (w := w) (by omega) (by omega) (by omega) (by omega)
  obtain ⟨m5, e1, e2, e3, e4, e5, e6⟩ := R_copyRow (M := m4) (x0 := 5) (n := 4) (z := z) (w := w) (by omega) (by omega) (by omega) (by omega)
  obtain ⟨m6, f1, f2, f3, f4, f5, f6⟩ := R_copyRow (M := m5) (x0 := 6) (n := 114) (z := z) (w := w) (by omega) (by omega) (by omega) (by omega)
  obtain ⟨m7, g1, g2, g3, g4, g5, g6⟩ := R_copyRow (M := m6) (x0 := 7) (n := 242) (z := z) (w := w) (by omega) (by omega) (by omega) (by omega)
  obtain ⟨m8, h1, h2, h3, h4, h5, h6⟩ := R_copyRow (M := m7) (x0 := 8) (n := 44) (z := z) (w := w) (by omega) (by omega) (by omega) (by omega)
  obtain ⟨m9, i1, i2, i3, i4, i5, i6⟩ := R_copyRow (M := m8) (x0 := 9) (n := 66) (z := z) (w := w) (by omega) (by omega) (by omega) (by omega)
  have n1 : m9.2.2 1 = m0.2.2 1 := by rw [i4 1 (by omega), h4 1 (by omega), g4 1 (by omega), f4 1 (by omega), e4 1 (by omega), d4 1 (by omega), c4 1 (by omega), b4 1 (by omega)]
  have n2 : m9.2.2 2 = m2.2.2 2 := by rw [i4 2 (by omega), h4 2 (by omega), g4 2 (by omega), f4 2 (by omega), e4 2 (by omega), d4 2 (by omega), c4 2 (by omega)]
  have n3 : m9.2.2 3 = m3.2.2 3 := by rw [i4 3 (by omega), h4 3 (by omega), g4 3 (by omega), f4 3 (by omega), e4 3 (by omega), d4 3 (by omega)]
  have n4 : m9.2.2 4 = m4.2.2 4 := by rw [i4 4 (by omega), h4 4 (by omega), g4 4 (by omega), f4 4 (by omega), e4 4 (by omega)]
  have n5 : m9.2.2 5 = m5.2.2 5 := by rw [i4 5 (by omega), h4 5 (by omega), g4 5 (by omega), f4 5 (by omega)]
  have n6 : m9.2.2 6 = m6.2.2 6 := by rw [i4 6 (by omega), h4 6 (by omega), g4 6 (by omega)]
  have n7 : m9.2.2 7 = m7.2.2 7 := by rw [i4 7 (by omega), h4 7 (by omega)]
  have n8 : m9.2.2 8 = m8.2.2 8 := by rw [i4 8 (by omega)]
  have o2 : m0.2.2 2 = M.2.2 2 := a4 2 (by omega)
  have o3 : m2.2.2 3 = M.2.2 3 := by rw [b4 3 (by omega), a4 3 (by omega)]
  have o4 : m3.2.2 4 = M.2.2 4 := by rw [c4 4 (by omega), b4 4 (by omega), a4 4 (by omega)]
  have o5 : m4.2.2 5 = M.2.2 5 := by rw [d4 5 (by omega), c4 5 (by omega), b4 5 (by omega), a4 5 (by omega)]
  have o6 : m5.2.2 6 = M.2.2 6 := by rw [e4 6 (by omega), d4 6 (by omega), c4 6 (by omega), b4 6 (by omega), a4 6 (by omega)]
  have o7 : m6.2.2 7 = M.2.2 7 := by rw [f4 7 (by omega), e4 7 (by omega), d4 7 (by omega), c4 7 (by omega), b4 7 (by omega), a4 7 (by omega)]
  have o8 : m7.2.2 8 = M.2.2 8 := by rw [g4 8 (by omega), f4 8 (by omega), e4 8 (by omega), d4 8 (by omega), c4 8 (by omega), b4 8 (by omega), a4 8 (by omega)]
  have o9 : m8.2.2 9 = M.2.2 9 := by rw [h4 9 (by omega), g4 9 (by omega), f4 9 (by omega), e4 9 (by omega), d4 9 (by omega), c4 9 (by omega), b4 9 (by omega), a4 9 (by omega)]
  rw [o2] at b5 b6
  rw [o3] at c5 c6
  rw [o4] at d5 d6
  rw [o5] at e5 e6
  rw [o6] at f5 f6
  rw [o7] at g5 g6
  rw [o8] at h5 h6
  rw [o9] at i5 i6
  refine ⟨m9, ?_, ⟨fun k hk => by rw [n1]; exact a5 k hk, ?_, ?_, ?_, fun k hk => by rw [n5]; exact e5 k hk, fun k hk => by rw [n6]; exact f5 k hk, fun k hk => by rw [n7]; exact g5 k hk, fun k hk => by rw [n8]; exact h5 k hk, i5⟩, fun y hy hyw => ⟨fun k hk => by rw [n1]; exact a6 _ (by omega), by rw [n2]; exact b6 _ (by omega), by rw [n3]; exact c6 _ (by omega), by rw [n4]; exact d6 _ (by omega), fun k hk => by rw [n5]; exact e6 _ (by omega), fun k hk => by rw [n6]; exact f6 _ (by omega), fun k hk => by rw [n7]; exact g6 _ (by omega), fun k hk => by rw [n8]; exact h6 _ (by omega), fun k hk => i6 _ (by omega)⟩, fun j hj => ?_, ?_, ?_⟩
  · unfold gX12_copyAll
    rw [a1, wb1, show gX12_copyRow m0 2 1 (J z) (J w) = some m2 from b1, wb1, show gX12_copyRow m2 3 1 (J z) (J w) = some m3 from c1, wb1, show gX12_copyRow m3 4 1 (J z) (J w) = some m4 from d1, wb1, show gX12_copyRow m4 5 4 (J z) (J w) = some m5 from e1, wb1, show gX12_copyRow m5 6 114 (J z) (J w) = some m6 from f1, wb1, show gX12_copyRow m6 7 242 (J z) (J w) = some m7 from g1, wb1, show gX12_copyRow m7 8 44 (J z) (J w) = some m8 from h1, wb1, show gX12_copyRow m8 9 66 (J z) (J w) = some m9 from i1, wb1]
  · have := b5 0 (by omega)
    rw [Nat.one_mul, Nat.one_mul, Nat.add_zero, Nat.add_zero] at this
    rw [n2]; exact this
  · have := c5 0 (by omega)
    rw [Nat.one_mul, Nat.one_mul, Nat.add_zero, Nat.add_zero] at this
    rw [n3]; exact this
  · have := d5 0 (by omega)
    rw [Nat.one_mul, Nat.one_mul, Nat.add_zero, Nat.add_zero] at this
    rw [n4]; exact this
  · rw [i4 j (by omega), h4 j (by omega), g4 j (by omega), f4 j (by omega), e4 j (by omega), d4 j (by omega), c4 j (by omega), b4 j (by omega), a4 j (by omega)]
  · rw [i2, h2, g2, f2, e2, d2, c2, b2, a2]
  · rw [i3, h3, g3, f3, e3, d3, c3, b3, a3]
/-- all that is told: the class's at a, the reference's slot z -/
def rDy (g : Nat → Int32) (b : Nat) (d : zV) : Prop := g b = J (d 0) ∧ ∀ k, k < (d 0 : Nat) → g (b + 1 + 3 * k) = J (d (1 + 3 * k)) ∧ g (b + 1 + 3 * k + 1) = J (d (2 + 3 * k)) ∧ g (b + 1 + 3 * k + 2) = sec d k
def TRc (U : zCS) (a : Nat) (M : zMS) (z : Nat) (c : Nat → Nat) (vs ds ls ss : Nat → zV) : Prop := tpR U a M z ∧ (∃ n, n ≤ 600 ∧ U.1 a 1 = J n ∧ M.2.2 2 z = J n) ∧ M.2.2 3 z = U.1 a 2 ∧ M.2.2 4 z = U.1 a 3 ∧ (∀ s, s < 4 → c s ≤ 2 ∧ U.2.1 (a + 2) s = J (c s) ∧ M.2.2 5 (4 * z + s) = J (c s)) ∧ (∀ k, k < c 0 → isVal U (a + 4 + 11 * k) (vs k) ∧ VOK (vs k) ∧ ∀ j, j < 57 → M.2.2 6 (114 * z + (57 * k + j)) = J (vs k j)) ∧ (∀ k, k < c 1 → isDay U (a + 27 + 4 * k) (ds k) ∧ DOK (ds k) ∧ rDy (fun q => M.2.2 7 (242 * z + q)) (121 * k) (ds k)) ∧ (∀ k, k < c 2 → isLe U (a + 36 + 3 * k) (ls k) ∧ LOK (ls k) ∧ ∀ j, j < 22 → M.2.2 8 (44 * z + (22 * k + j)) = J (ls k j)) ∧ ∀ k, k < c 3 → isSi U (a + 43 + 5 * k) (ss k) ∧ SOK (ss k) ∧ ∀ j, j < 33 → M.2.2 9 (66 * z + (33 * k + j)) = J (ss k j)
def TR (U : zCS) (a : Nat) (M : zMS) (z : Nat) : Prop := ∃ c vs ds ls ss, TRc U a M z c vs ds ls ss
theorem TR_tr {U U' : zCS} {a b : Nat} {M M' : zMS} {z w : Nat} (h : TR U a M z) (hc : TC U a U' b) (hm : MC M z M' w) : TR U' b M' w := by
  obtain ⟨c, vs, ds, ls, ss, h1, ⟨n, h2, h3, h4⟩, h5, h6, h7, h8, h9, h10, h11⟩ := h
  obtain ⟨t1, t2, t3, t4⟩ := hc
  obtain ⟨m1, m2, m3, m4, m5, m6, m7, m8, m9⟩ := hm
  have b0 := (h7 0 (by omega)).1
  have b1 := (h7 1 (by omega)).1
  have b2 := (h7 2 (by omega)).1
  have b3 := (h7 3 (by omega)).1
  refine ⟨c, vs, ds, ls, ss, fun k hk => ?_, ⟨n, h2, by rw [t2 1 (by omega) (by omega)]; exact h3, by rw [m2]; exact h4⟩, by rw [m3, t2 2 (by omega) (by omega)]; exact h5, by rw [m4, t2 3 (by omega) (by omega)]; exact h6, fun s hs => ?_, fun k hk => ?_, fun k hk => ?_, fun k hk => ?_, fun k hk => ?_⟩
  · rw [t1 k hk, m1 k hk]; exact h1 k hk
  · rw [t3 s hs, m5 s hs]; exact h7 s hs
  · obtain ⟨q1, q2, q3⟩ := h8 k hk
    exact ⟨isVal_C q2 q1 (t4 k (by omega)).1, q2, fun j hj => by rw [m6 _ (by omega)]; exact q3 j hj⟩
  · obtain ⟨q1, q2, q3⟩ := h9 k hk
    have hd := q2.1
    refine ⟨isDay_C q2 q1 (t4 k (by omega)).2.1, q2, ?_, fun j hj => ?_⟩
    · show M'.2.2 7 (242 * w + 121 * k) = _
      rw [m7 _ (by omega)]; exact q3.1
    · show M'.2.2 7 (242 * w + (121 * k + 1 + 3 * j)) = _ ∧ M'.2.2 7 (242 * w + (121 * k + 1 + 3 * j + 1)) = _ ∧ M'.2.2 7 (242 * w + (121 * k + 1 + 3 * j + 2)) = _
      rw [m7 _ (by omega), m7 _ (by omega), m7 _ (by omega)]; exact q3.2 j hj
  · obtain ⟨q1, q2, q3⟩ := h10 k hk
    exact ⟨isLe_C q2 q1 (t4 k (by omega)).2.2.1, q2, fun j hj => by rw [m8 _ (by omega)]; exact q3 j hj⟩
  · obtain ⟨q1, q2, q3⟩ := h11 k hk
    exact ⟨isSi_C q2 q1 (t4 k (by omega)).2.2.2, q2, fun j hj => by rw [m9 _ (by omega)]; exact q3 j hj⟩
theorem R_store {M : zMS} {x0 n k : Nat} (hn : n ≤ 121) (hB : n * k + n ≤ mln x0) (hm : mln x0 < 100000) (hx : x0 ≠ 19) : ∃ M', gX12_store M x0 (J n) (J k) = some M' ∧ M'.1 = M.1 ∧ M'.2.1 = M.2.1 ∧ (∀ j, j ≠ x0 → M'.2.2 j = M.2.2 j) ∧ (∀ i, i < n → M'.2.2 x0 (n * k + i) = M.2.2 19 i) ∧ ∀ q, (q < n * k ∨ n * k + n ≤ q) → M'.2.2 x0 q = M.2.2 x0 q := by
  obtain ⟨B, hBB⟩ : ∃ B, B = n * k := ⟨_, rfl⟩
  rw [← hBB] at hB ⊢
  obtain ⟨m5, e1, e2, e3, e4, e5, e6⟩ := zf2_inv (f := gX12_store_l3 (J n) x0 (J k)) n (fun i x m => x = J i ∧ m.1 = M.1 ∧ m.2.1 = M.2.1 ∧ (∀ j, j ≠ x0 → m.2.2 j = M.2.2 j) ∧ (∀ j, j < i → m.2.2 x0 (B + j) = M.2.2 19 j) ∧ ∀ q, (q < B ∨ B + i ≤ q) → m.2.2 x0 q = M.2.2 x0 q) (fun m => m.1 = M.1 ∧ m.2.1 = M.2.1 ∧ (∀ j, j ≠ x0 → m.2.2 j = M.2.2 j) ∧ (∀ j, j < n → m.2.2 x0 (B + j) = M.2.2 19 j) ∧ ∀ q, (q < B ∨ B + n ≤ q) → m.2.2 x0 q = M.2.2 x0 q) (by
    rintro i x m hi ⟨rfl, f1, f2, f3, f4, f5⟩ F
    refine ⟨J (i + 1), zsA m x0 (upd (m.2.2 x0) (B + i) (M.2.2 19 i)), ?_, rfl, f1, f2, fun j hj => by rw [zsA_o hj]; exact f3 j hj, fun j hj => ?_, fun q hq => ?_⟩
    · unfold gX12_store_l3
      rw [if_neg (show ¬ J n ≤ J i by rw [J_le (by omega) (by omega)]; omega), zag_J (by omega) (by omega), wb1, f3 19 (fun z => hx z.symm), J_mul, ← hBB, J_add, zas_J (by omega) (by omega), wb1, wb1]
      show F (J i + J 1) _ = _
      rw [J_add]
    · rw [zsA_1]
      by_cases hki : j = i
      · subst hki; rw [upd_1]
      · rw [upd_o (by omega)]; exact f4 j (by omega)
    · rw [zsA_1, upd_o (by omega)]; exact f5 q (by omega)) (by
    rintro x m ⟨rfl, f1, f2, f3, f4, f5⟩ F
    refine ⟨m, ?_, f1, f2, f3, f4, f5⟩
    unfold gX12_store_l3
    rw [if_pos (show J n ≤ J n by rw [J_le (by omega) (by omega)]; omega)]) (zfu_lt (by omega)) (x0 := 0) (x1 := M) ⟨rfl, rfl, rfl, fun _ _ => rfl, fun k hk => by omega, fun _ _ => rfl⟩
  refine ⟨m5, ?_, e2, e3, e4, e5, e6⟩
  unfold gX12_store
  rw [e1, wb1]
