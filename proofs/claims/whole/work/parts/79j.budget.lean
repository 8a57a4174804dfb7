/-! the shortest talk: the reference's table -/
theorem J_shr2 : ∀ x, x < 8 → ∀ d, d < 8 → d ≤ x → ((J (2 ^ x)) >>> (J d &&& J 31)) = J (2 ^ (x - d)) := by decide +kernel
theorem R_lesserW {a b : Nat} (ha : a < 2147483648) (hb : b < 2147483648) : gX12_lesser (J a) (J b) = some (J (min a b)) := by
  unfold gX12_lesser
  simp (disch := omega) only [wb1, wb2, wb3, wb4, wc1, wc2, zb1_ite, zb2_ite, zb3_ite, zb4_ite, zzc1_ite, zzc2_ite, J_lit, J_n1, J_n2, J_add, J_mul, J_lt, J_le, J_eq, J_eN, N_eJ, J_eN2, J_nn, J_lN, N_lJ, J_leN, N_leJ, NN_l0, NN_eN, bJ_0, bJ_1, bJ_ite, zbz_b, zbz_0, zbz_1, zag_J, zas_J, ite_true, ite_false, if_true, if_false, ite_self, reduceIte, not_true_eq_false, not_false_eq_true, J_o, Nat.reduceEqDiff, Nat.reduceAdd, Nat.reduceMul, Nat.reduceSub, Nat.reduceLT, Nat.reduceLeDiff, Nat.one_ne_zero]
  by_cases hc : b ≤ a
  · rw [if_pos hc, show min a b = b by omega]
  · rw [if_neg hc, show min a b = a by omega]
theorem J_dn : ∀ i, i < 8 → (J (7 - i) + (-1) : Int32) = if i + 1 = 8 then NN else J (7 - (i + 1)) := by decide +kernel
theorem p128 : ∀ x, x < 8 → 2 ^ x ≤ 128 := by decide
theorem R_tree59 {m : zMS} {h : Nat → Nat} {x k B : Nat} (hx : x ≤ 7) (hk : k < 8) (hB : B ≤ 2 ^ x) (hh : h k < 100) (ht : ∀ C, C ≤ 2 ^ x → m.2.2 43 (129 * (k + 1) + C) = J (dT h x (7 - k) C)) : zf2 (gX12_treeOf_l59 (J x) (J B) m (J k) (J (h k))) zfu 1000000 1 = some (J (dT h x (8 - k) B)) := by
  have p1 := p128 x (by omega)
  have hsh : ((1 : Int32) <<< (J x &&& 31)) = J (2 ^ x) := J_shl x (by omega)
  obtain ⟨g, hg⟩ : ∃ g : Nat → Nat, g = fun j => if B < 2 ^ (x - (j + 1)) then 1000000 else (j + 1) * h k + dT h x (7 - k) (B - 2 ^ (x - (j + 1))) := ⟨_, rfl⟩
  have hd : dT h x (8 - k) B = mnf g x := by
    rw [show 8 - k = 7 - k + 1 by omega, hg]
    show mnf (fun j => if B < 2 ^ (x - (j + 1)) then 1000000 else (j + 1) * h (7 - (7 - k)) + dT h x (7 - k) (B - 2 ^ (x - (j + 1)))) x = _
    rw [show 7 - (7 - k) = k by omega]
  rw [hd]
  exact zf2_run (f := gX12_treeOf_l59 (J x) (J B) m (J k) (J (h k))) (r := some (J (mnf g x))) x (fun i => J (mnf g i)) (fun i => J (i + 1)) (by
    intro i hi F
    have b1 := mnf_B (g := g) i
    have sr := J_shr2 x (by omega) (i + 1) (by omega) (by omega)
    have hj1 : (J (i + 1) + 1) = J (i + 1 + 1) := J_add (a := i + 1) (b := 1)
    unfold gX12_treeOf_l59
    rw [if_neg (show ¬ J x < J (i + 1) by rw [J_lt (by omega) (by omega)]; omega), hsh, show (J (2 ^ x)) >>> (J (i + 1) &&& 31) = _ from sr, mnf_s, hj1]
    have p2 := p128 (x - (i + 1)) (by omega)
    by_cases hc : B < 2 ^ (x - (i + 1))
    · have g1 : g i = 1000000 := by rw [hg]; exact if_pos hc
      rw [if_pos (show J B < J (2 ^ (x - (i + 1))) by rw [J_lt (by omega) (by omega)]; exact hc), wb1, g1, show min (mnf g i) 1000000 = mnf g i by omega]
    · have g1 : g i = (i + 1) * h k + dT h x (7 - k) (B - 2 ^ (x - (i + 1))) := by rw [hg]; exact if_neg hc
      have p0 : B - 2 ^ (x - (i + 1)) ≤ B := Nat.sub_le _ _
      have dB := @dT_B h x (7 - k) (B - 2 ^ (x - (i + 1)))
      have mB : (i + 1) * h k ≤ 7 * 100 := Nat.mul_le_mul (by omega) (by omega)
      have ix : (129 : Int32) * (J k + 1) + J B - J (2 ^ (x - (i + 1))) = J (129 * (k + 1) + (B - 2 ^ (x - (i + 1)))) := by
        rw [show (129 : Int32) = J 129 from rfl, show (1 : Int32) = J 1 from rfl, J_add, J_mul, J_add, J_sub (by omega)]
        congr 1
        omega
      rw [if_neg (show ¬ J B < J (2 ^ (x - (i + 1))) by rw [J_lt (by omega) (by omega)]; exact hc), ix, zag_J (by omega) (by omega), wb1, ht _ (by omega), J_mul, J_add, R_lesserW (by omega) (by omega), wb1, wb1, g1]) (by
    intro F
    unfold gX12_treeOf_l59
    rw [if_pos (show J x < J (x + 1) by rw [J_lt (by omega) (by omega)]; omega)]) (zfu_lt (by omega))
theorem R_tree {M : zMS} {v : zV} {h : Nat → Nat} (hm : isMV M v) {x : Nat} (hx : x ≤ 7) (hh : ∀ k, k < 8 → h k < 100) (hv : ∀ m : zMS, isMV m v → ∀ k, k < 8 → gX12_heavy m (J k) = some (J (h k))) : ∃ M', gX12_treeOf M (J x) = some (J (dT h x 8 (2 ^ x)), M') ∧ Msame M M' ∧ ∀ j, M'.1 j = M.1 j := by
  have p1 := p128 x (by omega)
  have hsh : ((1 : Int32) <<< (J x &&& 31)) = J (2 ^ x) := J_shl x (by omega)
  obtain ⟨m1, e1, i1, k1, f1, z1⟩ := zf2_inv (f := gX12_treeOf_l6 (J x)) (2 ^ x + 1) (fun i z m => z = J i ∧ isMV m v ∧ Msame M m ∧ (∀ j, m.1 j = M.1 j) ∧ ∀ k, k < i → m.2.2 43 (1032 + k) = J 0) (fun m => isMV m v ∧ Msame M m ∧ (∀ j, m.1 j = M.1 j) ∧ ∀ k, k < 2 ^ x + 1 → m.2.2 43 (1032 + k) = J 0) (by
    intro i z m hi hP F
    obtain ⟨rfl, hm1, hs1, hj1, hz1⟩ := hP
    refine ⟨J (i + 1), zsA m 43 (upd (m.2.2 43) (1032 + i) (J 0)), ?_, rfl, isMV_A (by omega) hm1, Msame_t hs1 (Msame_A (by omega)), hj1, fun k hk => ?_⟩
    · unfold gX12_treeOf_l6
      rw [hsh, if_neg (show ¬ J (2 ^ x) < J i by rw [J_lt (by omega) (by omega)]; omega), show (1032 : Int32) + J i = J (1032 + i) from J_add (a := 1032) (b := i), zas_J (by omega) (by omega), wb1, wb1]
      show F (J i + J 1) _ = _
      rw [J_add]
      rfl
    · rw [zsA_1]
      by_cases hki : k = i
      · subst hki; rw [upd_1]
      · rw [upd_o (by omega)]; exact hz1 k (by omega)) (by
    intro z m hP F
    obtain ⟨rfl, hP⟩ := hP
    refine ⟨m, ?_, hP⟩
    unfold gX12_treeOf_l6
    rw [hsh, if_pos (show J (2 ^ x) < J (2 ^ x + 1) by rw [J_lt (by omega) (by omega)]; omega)]) (zfu_lt (n := 2 ^ x + 1) (by omega)) (x0 := J 0) (x1 := M) ⟨rfl, hm, Msame_r, fun _ => rfl, fun k hk => by omega⟩
  have row : ∀ k m, k < 8 → isMV m v → Msame M m → (∀ j, m.1 j = M.1 j) → (∀ C, C ≤ 2 ^ x → m.2.2 43 (129 * (k + 1) + C) = J (dT h x (7 - k) C)) → ∃ m', zf2 (gX12_treeOf_l45 (J x) (J k) (J (h k))) zfu (J 0) m = some m' ∧ isMV m' v ∧ Msame M m' ∧ (∀ j, m'.1 j = M.1 j) ∧ ∀ C, C < 2 ^ x + 1 → m'.2.2 43 (129 * k + C) = J (dT h x (8 - k) C) := by
    intro k m hk hmv hms hmj ht
    refine zf2_inv (f := gX12_treeOf_l45 (J x) (J k) (J (h k))) (2 ^ x + 1) (fun i z m => z = J i ∧ isMV m v ∧ Msame M m ∧ (∀ j, m.1 j = M.1 j) ∧ (∀ C, C ≤ 2 ^ x → m.2.2 43 (129 * (k + 1) + C) = J (dT h x (7 - k) C)) ∧ ∀ C, C < i → m.2.2 43 (129 * k + C) = J (dT h x (8 - k) C)) (fun m => isMV m v ∧ Msame M m ∧ (∀ j, m.1 j = M.1 j) ∧ ∀ C, C < 2 ^ x + 1 → m.2.2 43 (129 * k + C) = J (dT h x (8 - k) C)) ?_ ?_ (zfu_lt (by omega)) ⟨rfl, hmv, hms, hmj, ht, fun C hC => by omega⟩
    · intro i z m hi hP F
      obtain ⟨rfl, hm1, hs1, hj1, ht1, hz1⟩ := hP
      refine ⟨J (i + 1), zsA m 43 (upd (m.2.2 43) (129 * k + i) (J (dT h x (8 - k) i))), ?_, rfl, isMV_A (by omega) hm1, Msame_t hs1 (Msame_A (by omega)), hj1, fun C hC => ?_, fun C hC => ?_⟩
      · unfold gX12_treeOf_l45
        rw [hsh, if_neg (show ¬ J (2 ^ x) < J i by rw [J_lt (by omega) (by omega)]; omega), R_tree59 hx hk (by omega) (hh k hk) ht1, wb1, show (129 : Int32) * J k + J i = J (129 * k + i) by rw [show (129 : Int32) = J 129 from rfl, J_mul, J_add], zas_J (by omega) (by omega), wb1, wb1]
        show F (J i + J 1) _ = _
        rw [J_add]
      · rw [zsA_1, upd_o (by omega)]; exact ht1 C hC
      · rw [zsA_1]
        by_cases hki : C = i
        · subst hki; rw [upd_1]
        · rw [upd_o (by omega)]; exact hz1 C (by omega)
    · intro z m hP F
      obtain ⟨rfl, hm1, hs1, hj1, ht1, hz1⟩ := hP
      refine ⟨m, ?_, hm1, hs1, hj1, hz1⟩
      unfold gX12_treeOf_l45
      rw [hsh, if_pos (show J (2 ^ x) < J (2 ^ x + 1) by rw [J_lt (by omega) (by omega)]; omega)]
  obtain ⟨m2, e2, i2, k2, f2, z2⟩ := zf2_inv (f := gX12_treeOf_l31 (J x)) 8 (fun i z m => z = (if i = 8 then NN else J (7 - i)) ∧ isMV m v ∧ Msame M m ∧ (∀ j, m.1 j = M.1 j) ∧ ∀ C, C ≤ 2 ^ x → m.2.2 43 (129 * (8 - i) + C) = J (dT h x i C)) (fun m => isMV m v ∧ Msame M m ∧ (∀ j, m.1 j = M.1 j) ∧ ∀ C, C ≤ 2 ^ x → m.2.2 43 (129 * (8 - 8) + C) = J (dT h x 8 C)) (by
    intro i z m hi hP F
    obtain ⟨rfl, hm1, hs1, hj1, hz1⟩ := hP
    obtain ⟨m', er, r1, r2, r3, r4⟩ := row (7 - i) m (by omega) hm1 hs1 hj1 (fun C hC => by rw [show 7 - i + 1 = 8 - i by omega, show 7 - (7 - i) = i by omega]; exact hz1 C hC)
    refine ⟨if i + 1 = 8 then NN else J (7 - (i + 1)), m', ?_, rfl, r1, r2, r3, fun C hC => ?_⟩
    · unfold gX12_treeOf_l31
      rw [if_neg (show ¬ i = 8 by omega), if_neg (show ¬ J (7 - i) < 0 by rw [show (0 : Int32) = J 0 from rfl, J_lt (by omega) (by omega)]; omega), hv m hm1 (7 - i) (by omega), wb1, show zf2 (gX12_treeOf_l45 (J x) (J (7 - i)) (J (h (7 - i)))) zfu 0 m = some m' from er, wb1, J_dn i hi]
    · rw [show 8 - (i + 1) = 7 - i by omega, r4 C (by omega), show 8 - (7 - i) = i + 1 by omega]) (by
    intro z m hP F
    obtain ⟨rfl, hP⟩ := hP
    refine ⟨m, ?_, hP⟩
    unfold gX12_treeOf_l31
    rw [if_pos rfl, if_pos (show NN < 0 by decide)]) (zfu_lt (n := 8) (by omega)) (x0 := J 7) (x1 := m1) ⟨rfl, i1, k1, f1, fun C hC => z1 C (by omega)⟩
  refine ⟨m2, ?_, k2, f2⟩
  unfold gX12_treeOf
  rw [show (0 : Int32) = J 0 from rfl, e1, wb1, show zf2 (gX12_treeOf_l31 (J x)) zfu 7 m1 = some m2 from e2, wb1, hsh, zag_J (by omega) (by omega), wb1]
  have := z2 (2 ^ x) (Nat.le_refl _)
  rw [show 129 * (8 - 8) + 2 ^ x = 2 ^ x by omega] at this
  rw [this]
