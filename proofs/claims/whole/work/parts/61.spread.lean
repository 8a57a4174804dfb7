theorem C_reach_p {U : zCS} {a c : Nat} {v : zV} (h : isVal U a v) (hV : VOK v) (hac : ∀ j, j ≤ 10 → ¬ a + j = c + 1) {l t f k B : Nat} (hl : l < 3) (ht : t < 2) (hf : f < (v 1 : Nat)) {d : Nat → Nat} (hd : rnd v l t f k 0 0 d) (hr : ∀ x, x < 6 → U.2.1 (c + 1) x = if x < (v 1 : Nat) then rJ (d x) else NN) (hB : ∀ x, x < (v 1 : Nat) → d x = FAR ∨ d x ≤ B) (hB2 : B < 50000) : ∃ U', zf2 (gX0_reach_l30 a c (J l) (J t)) zfu (J 0) U = some U' ∧ Uarr U U' (fun q => q = c + 1) ∧ ∃ d', rnd v l t f (k + 1) 0 0 d' ∧ (∀ x, x < 6 → U'.2.1 (c + 1) x = if x < (v 1 : Nat) then rJ (d' x) else NN) ∧ ∀ x, x < (v 1 : Nat) → d' x = FAR ∨ d' x ≤ B + 180 := by
  have h6 := hV.2.2.1
  refine zf2_inv (f := gX0_reach_l30 a c (J l) (J t)) (v 1) (fun i x m => x = J i ∧ Uarr U m (fun q => q = c + 1) ∧ ∃ d', rnd v l t f k i 0 d' ∧ (∀ x, x < 6 → m.2.1 (c + 1) x = if x < (v 1 : Nat) then rJ (d' x) else NN) ∧ ∀ x, x < (v 1 : Nat) → d' x = FAR ∨ d' x ≤ B + 30 * i) (fun m => Uarr U m (fun q => q = c + 1) ∧ ∃ d', rnd v l t f (k + 1) 0 0 d' ∧ (∀ x, x < 6 → m.2.1 (c + 1) x = if x < (v 1 : Nat) then rJ (d' x) else NN) ∧ ∀ x, x < (v 1 : Nat) → d' x = FAR ∨ d' x ≤ B + 180) ?_ ?_ (zfu_lt (n := (v 1 : Nat)) (by omega)) (x0 := J 0) (x1 := U) ⟨rfl, Uarr_r, d, hd, hr, fun x hx => by have := hB x hx; omega⟩
  · intro i x m hi hP F
    obtain ⟨rfl, hm, d', hd', hr', hB'⟩ := hP
    have hv := isVal_U hm hac h
    have ei := hr' i (by omega)
    rw [if_pos hi] at ei
    unfold rJ at ei
    by_cases c4 : d' i = FAR
    · rw [if_pos c4] at ei
      refine ⟨J (i + 1), m, ?_, rfl, hm, d', rnd_np (rnd_skip hi hd' c4), hr', fun x hx => by have := hB' x hx; omega⟩
      simp (disch := omega) only [gX0_reach_l30, wb1, wb2, wb3, wb4, wc1, wc2, zb1_ite, zb2_ite, zb3_ite, zb4_ite, zzc1_ite, zzc2_ite, J_lit, J_n1, J_n2, J_add, J_mul, J_lt, J_le, J_eq, J_eN, N_eJ, J_eN2, J_nn, J_lN, N_lJ, J_leN, N_leJ, NN_l0, NN_eN, bJ_0, bJ_1, bJ_ite, zbz_b, zbz_0, zbz_1, zag_J, zas_J, ite_true, ite_false, if_true, if_false, ite_self, reduceIte, not_true_eq_false, not_false_eq_true, J_o, Nat.reduceEqDiff, Nat.reduceAdd, Nat.reduceMul, Nat.reduceSub, Nat.reduceLT, Nat.reduceLeDiff, Nat.one_ne_zero, V_p hv, ei]
      rw [if_neg (by omega)]
    · rw [if_neg c4] at ei
      have hdi := (hB' i hi).resolve_left c4
      obtain ⟨m2, e2, hm2, d2, hd2, hr2, hB2'⟩ := C_sayOn hv hV hac hl ht hf hi hd' hr' hB' (by omega) c4
      refine ⟨J (i + 1), m2, ?_, rfl, Uarr_t hm hm2, d2, rnd_np hd2, hr2, fun x hx => by have := hB2' x hx; omega⟩
      simp (disch := omega) only [gX0_reach_l30, wb1, wb2, wb3, wb4, wc1, wc2, zb1_ite, zb2_ite, zb3_ite, zb4_ite, zzc1_ite, zzc2_ite, J_lit, J_n1, J_n2, J_add, J_mul, J_lt, J_le, J_eq, J_eN, N_eJ, J_eN2, J_nn, J_lN, N_lJ, J_leN, N_leJ, NN_l0, NN_eN, bJ_0, bJ_1, bJ_ite, zbz_b, zbz_0, zbz_1, zag_J, zas_J, ite_true, ite_false, if_true, if_false, ite_self, reduceIte, not_true_eq_false, not_false_eq_true, J_o, Nat.reduceEqDiff, Nat.reduceAdd, Nat.reduceMul, Nat.reduceSub, Nat.reduceLT, Nat.reduceLeDiff, Nat.one_ne_zero, V_p hv, ei, e2]
      rw [if_neg (by omega)]
  · intro x m hP F
    obtain ⟨rfl, hm, d', hd', hr', hB'⟩ := hP
    have hv := isVal_U hm hac h
    simp (disch := omega) only [gX0_reach_l30, wb1, wb2, wb3, wb4, wc1, wc2, zb1_ite, zb2_ite, zb3_ite, zb4_ite, zzc1_ite, zzc2_ite, J_lit, J_n1, J_n2, J_add, J_mul, J_lt, J_le, J_eq, J_eN, N_eJ, J_eN2, J_nn, J_lN, N_lJ, J_leN, N_leJ, NN_l0, NN_eN, bJ_0, bJ_1, bJ_ite, zbz_b, zbz_0, zbz_1, zag_J, zas_J, ite_true, ite_false, if_true, if_false, ite_self, reduceIte, not_true_eq_false, not_false_eq_true, J_o, Nat.reduceEqDiff, Nat.reduceAdd, Nat.reduceMul, Nat.reduceSub, Nat.reduceLT, Nat.reduceLeDiff, Nat.one_ne_zero, V_p hv]
    rw [if_pos (Nat.le_refl _)]
    exact ⟨m, rfl, hm, d', rnd_nk hd', hr', fun x hx => by have := hB' x hx; omega⟩
theorem C_reach {U : zCS} {a c : Nat} {v : zV} (h : isVal U a v) (hV : VOK v) (hac : ∀ j, j ≤ 10 → ¬ a + j = c + 1) {l t f : Nat} (hl : l < 3) (ht : t < 2) (hf : f < (v 1 : Nat)) : ∃ U', gX0_reach U c a (J f) (J l) (J t) = some U' ∧ Uarr U U' (fun q => q = c + 1) ∧ (∀ x, x < 6 → U'.2.1 (c + 1) x = if x < (v 1 : Nat) then rJ (sn v l t f x) else NN) ∧ ∀ x, x < (v 1 : Nat) → sn v l t f x = FAR ∨ sn v l t f x ≤ 1080 := by
  have h6 := hV.2.2.1
  obtain ⟨U1, e1, hu1, hf1⟩ := C_fill (U := U) (n := 6) (a := c + 1) (x := NN) (by omega)
  have hu2 : Uarr U (csA U1 (c + 1) (upd (U1.2.1 (c + 1)) f (J 0))) (fun q => q = c + 1) := Uarr_t hu1 (Uarr_A rfl)
  have hv2 := isVal_U hu2 hac h
  obtain ⟨U2, e2, hm2, d, hd, hr, hB⟩ := zf2_inv (f := gX0_reach_l18 a c (J l) (J t)) ((v 1 : Nat) - 1) (fun i x m => x = J (i + 1) ∧ Uarr U m (fun q => q = c + 1) ∧ ∃ d', rnd v l t f i 0 0 d' ∧ (∀ x, x < 6 → m.2.1 (c + 1) x = if x < (v 1 : Nat) then rJ (d' x) else NN) ∧ ∀ x, x < (v 1 : Nat) → d' x = FAR ∨ d' x ≤ 180 * i) (fun m => Uarr U m (fun q => q = c + 1) ∧ ∃ d', rnd v l t f ((v 1 : Nat) - 1) 0 0 d' ∧ (∀ x, x < 6 → m.2.1 (c + 1) x = if x < (v 1 : Nat) then rJ (d' x) else NN) ∧ ∀ x, x < (v 1 : Nat) → d' x = FAR ∨ d' x ≤ 180 * ((v 1 : Nat) - 1)) (by
    intro i x m hi hP F
    obtain ⟨rfl, hm, d', hd', hr', hB'⟩ := hP
    have hv := isVal_U hm hac h
    obtain ⟨m2, e3, hm3, d2, hd2, hr2, hB2⟩ := C_reach_p hv hV hac hl ht hf hd' hr' hB' (by omega)
    refine ⟨J (i + 1 + 1), m2, ?_, rfl, Uarr_t hm hm3, d2, hd2, hr2, fun x hx => by have := hB2 x hx; omega⟩
    simp (disch := omega) only [gX0_reach_l18, wb1, wb2, wb3, wb4, wc1, wc2, zb1_ite, zb2_ite, zb3_ite, zb4_ite, zzc1_ite, zzc2_ite, J_lit, J_n1, J_n2, J_add, J_mul, J_lt, J_le, J_eq, J_eN, N_eJ, J_eN2, J_nn, J_lN, N_lJ, J_leN, N_leJ, NN_l0, NN_eN, bJ_0, bJ_1, bJ_ite, zbz_b, zbz_0, zbz_1, zag_J, zas_J, ite_true, ite_false, if_true, if_false, ite_self, reduceIte, not_true_eq_false, not_false_eq_true, J_o, Nat.reduceEqDiff, Nat.reduceAdd, Nat.reduceMul, Nat.reduceSub, Nat.reduceLT, Nat.reduceLeDiff, Nat.one_ne_zero, V_p hv, e3]
    rw [if_neg (by omega)]) (by
    intro x m hP F
    obtain ⟨rfl, hm, hd'⟩ := hP
    have hv := isVal_U hm hac h
    simp (disch := omega) only [gX0_reach_l18, wb1, wb2, wb3, wb4, wc1, wc2, zb1_ite, zb2_ite, zb3_ite, zb4_ite, zzc1_ite, zzc2_ite, J_lit, J_n1, J_n2, J_add, J_mul, J_lt, J_le, J_eq, J_eN, N_eJ, J_eN2, J_nn, J_lN, N_lJ, J_leN, N_leJ, NN_l0, NN_eN, bJ_0, bJ_1, bJ_ite, zbz_b, zbz_0, zbz_1, zag_J, zas_J, ite_true, ite_false, if_true, if_false, ite_self, reduceIte, not_true_eq_false, not_false_eq_true, J_o, Nat.reduceEqDiff, Nat.reduceAdd, Nat.reduceMul, Nat.reduceSub, Nat.reduceLT, Nat.reduceLeDiff, Nat.one_ne_zero, V_p hv]
    rw [if_pos (by omega)]
    exact ⟨m, rfl, hm, hd'⟩) (zfu_lt (n := (v 1 : Nat) - 1) (by omega)) (x0 := J 1) (x1 := csA U1 (c + 1) (upd (U1.2.1 (c + 1)) f (J 0))) ⟨rfl, hu2, _, rnd_00, fun x hx => by
      rw [csA_1]
      by_cases hxf : x = f
      · subst hxf; rw [upd_1, if_pos hf]; simp [rJ, FAR]
      · rw [upd_o hxf, hf1 x hx]; simp [rJ, hxf], fun x hx => by
      by_cases hxf : x = f
      · simp [hxf]
      · simp [hxf]⟩
  have hsn : ∀ x, x < (v 1 : Nat) → d x = sn v l t f x := fun x hx => btw_e hf (Nat.le_refl _) hd.1 hx
  refine ⟨U2, ?_, hm2, fun x hx => ?_, fun x hx => ?_⟩
  · unfold gX0_reach
    simp (disch := omega) only [wb1, wb2, wb3, wb4, wc1, wc2, zb1_ite, zb2_ite, zb3_ite, zb4_ite, zzc1_ite, zzc2_ite, J_lit, J_n1, J_n2, J_add, J_mul, J_lt, J_le, J_eq, J_eN, N_eJ, J_eN2, J_nn, J_lN, N_lJ, J_leN, N_leJ, NN_l0, NN_eN, bJ_0, bJ_1, bJ_ite, zbz_b, zbz_0, zbz_1, zag_J, zas_J, ite_true, ite_false, if_true, if_false, ite_self, reduceIte, not_true_eq_false, not_false_eq_true, J_o, Nat.reduceEqDiff, Nat.reduceAdd, Nat.reduceMul, Nat.reduceSub, Nat.reduceLT, Nat.reduceLeDiff, Nat.one_ne_zero]
    rw [e1]
    simp (disch := omega) only [wb1, wb2, wb3, wb4, wc1, wc2, zb1_ite, zb2_ite, zb3_ite, zb4_ite, zzc1_ite, zzc2_ite, J_lit, J_n1, J_n2, J_add, J_mul, J_lt, J_le, J_eq, J_eN, N_eJ, J_eN2, J_nn, J_lN, N_lJ, J_leN, N_leJ, NN_l0, NN_eN, bJ_0, bJ_1, bJ_ite, zbz_b, zbz_0, zbz_1, zag_J, zas_J, ite_true, ite_false, if_true, if_false, ite_self, reduceIte, not_true_eq_false, not_false_eq_true, J_o, Nat.reduceEqDiff, Nat.reduceAdd, Nat.reduceMul, Nat.reduceSub, Nat.reduceLT, Nat.reduceLeDiff, Nat.one_ne_zero, e2]
  · rw [hr x hx]
    by_cases hxv : x < (v 1 : Nat)
    · rw [if_pos hxv, if_pos hxv, hsn x hxv]
    · rw [if_neg hxv, if_neg hxv]
  · have := hB x hx
    rw [hsn x hx] at this
    omega
/-- how many, and the last -/
def rcd (v : zV) (l f : Nat) : Nat := cnt (fun x => decide (sn v l 0 f x ≠ FAR)) (v 1)
def lsr (v : zV) (l f : Nat) : Nat → Nat := itr (fun x y => if sn v l 0 f x = FAR then y else max y (sn v l 0 f x)) 0
theorem lsr_le {v : zV} {l f : Nat} (h : ∀ x, x < (v 1 : Nat) → sn v l 0 f x = FAR ∨ sn v l 0 f x ≤ 1080) : ∀ n, n ≤ (v 1 : Nat) → lsr v l f n ≤ 1080 :=
  itr_il (P := fun _ y => y ≤ 1080) (by omega) (fun i x hi hx => by
    have := h i hi
    split <;> omega)
theorem C_howMany {U : zCS} {c : Nat} {v : zV} (hV : VOK v) {l f : Nat} (h : ∀ x, x < 6 → U.2.1 (c + 1) x = if x < (v 1 : Nat) then rJ (sn v l 0 f x) else NN) (hb : ∀ x, x < (v 1 : Nat) → sn v l 0 f x = FAR ∨ sn v l 0 f x ≤ 1080) : gX0_howManyReached U c = some (J (rcd v l f)) := by
  have h6 := hV.2.2.1
  unfold gX0_howManyReached
  have hlast : cnt (fun x => decide (x < (v 1 : Nat)) && decide (sn v l 0 f x ≠ FAR)) 6 = rcd v l f := by
    unfold rcd
    have : ∀ n, (v 1 : Nat) ≤ n → cnt (fun x => decide (x < (v 1 : Nat)) && decide (sn v l 0 f x ≠ FAR)) n = cnt (fun x => decide (sn v l 0 f x ≠ FAR)) (v 1) := by
      intro n hn
      induction n with
      | zero => rw [show (v 1 : Nat) = 0 by omega]; rfl
      | succ n ih =>
        by_cases hq : (v 1 : Nat) = n + 1
        · rw [hq]
          exact cnt_c (fun i hi => by simp [hi])
        · rw [cnt_s, ih (by omega)]
          simp [show ¬ n < (v 1 : Nat) by omega]
    exact this 6 h6
  have hze := zf2_run (f := gX0_howManyReached_l4 U c) (r := some (J (rcd v l f))) 6 (fun i => J (cnt (fun x => decide (x < (v 1 : Nat)) && decide (sn v l 0 f x ≠ FAR)) i)) J (by
    intro i hi F
    have ei := h i hi
    rw [cnt_s]
    by_cases hv : i < (v 1 : Nat)
    · rw [if_pos hv] at ei
      unfold rJ at ei
      have hbi := hb i hv
      rw [FAR_e] at hbi
      by_cases hs : sn v l 0 f i = FAR
      · rw [if_pos hs] at ei
        simp (disch := omega) only [gX0_howManyReached_l4, wb1, wb2, wb3, wb4, wc1, wc2, zb1_ite, zb2_ite, zb3_ite, zb4_ite, zzc1_ite, zzc2_ite, J_lit, J_n1, J_n2, J_add, J_mul, J_lt, J_le, J_eq, J_eN, N_eJ, J_eN2, J_nn, J_lN, N_lJ, J_leN, N_leJ, NN_l0, NN_eN, bJ_0, bJ_1, bJ_ite, zbz_b, zbz_0, zbz_1, zag_J, zas_J, ite_true, ite_false, if_true, if_false, ite_self, reduceIte, not_true_eq_false, not_false_eq_true, J_o, Nat.reduceEqDiff, Nat.reduceAdd, Nat.reduceMul, Nat.reduceSub, Nat.reduceLT, Nat.reduceLeDiff, Nat.one_ne_zero, ei]
        rw [if_neg (by omega)]
        simp [hs]
      · rw [if_neg hs] at ei
        simp (disch := omega) only [gX0_howManyReached_l4, wb1, wb2, wb3, wb4, wc1, wc2, zb1_ite, zb2_ite, zb3_ite, zb4_ite, zzc1_ite, zzc2_ite, J_lit, J_n1, J_n2, J_add, J_mul, J_lt, J_le, J_eq, J_eN, N_eJ, J_eN2, J_nn, J_lN, N_lJ, J_leN, N_leJ, NN_l0, NN_eN, bJ_0, bJ_1, bJ_ite, zbz_b, zbz_0, zbz_1, zag_J, zas_J, ite_true, ite_false, if_true, if_false, ite_self, reduceIte, not_true_eq_false, not_false_eq_true, J_o, Nat.reduceEqDiff, Nat.reduceAdd, Nat.reduceMul, Nat.reduceSub, Nat.reduceLT, Nat.reduceLeDiff, Nat.one_ne_zero, ei]
        rw [if_neg (by omega)]
        simp [hs, hv]
    · rw [if_neg hv] at ei
      simp (disch := omega) only [gX0_howManyReached_l4, wb1, wb2, wb3, wb4, wc1, wc2, zb1_ite, zb2_ite, zb3_ite, zb4_ite, zzc1_ite, zzc2_ite, J_lit, J_n1, J_n2, J_add, J_mul, J_lt, J_le, J_eq, J_eN, N_eJ, J_eN2, J_nn, J_lN, N_lJ, J_leN, N_leJ, NN_l0, NN_eN, bJ_0, bJ_1, bJ_ite, zbz_b, zbz_0, zbz_1, zag_J, zas_J, ite_true, ite_false, if_true, if_false, ite_self, reduceIte, not_true_eq_false, not_false_eq_true, J_o, Nat.reduceEqDiff, Nat.reduceAdd, Nat.reduceMul, Nat.reduceSub, Nat.reduceLT, Nat.reduceLeDiff, Nat.one_ne_zero, ei]
      rw [if_neg (by omega)]
      simp [hv]) (by
    intro F
    simp (disch := omega) only [gX0_howManyReached_l4, wb1, wb2, wb3, wb4, wc1, wc2, zb1_ite, zb2_ite, zb3_ite, zb4_ite, zzc1_ite, zzc2_ite, J_lit, J_n1, J_n2, J_add, J_mul, J_lt, J_le, J_eq, J_eN, N_eJ, J_eN2, J_nn, J_lN, N_lJ, J_leN, N_leJ, NN_l0, NN_eN, bJ_0, bJ_1, bJ_ite, zbz_b, zbz_0, zbz_1, zag_J, zas_J, ite_true, ite_false, if_true, if_false, ite_self, reduceIte, not_true_eq_false, not_false_eq_true, J_o, Nat.reduceEqDiff, Nat.reduceAdd, Nat.reduceMul, Nat.reduceSub, Nat.reduceLT, Nat.reduceLeDiff, Nat.one_ne_zero, hlast]) (zfu_lt (by omega))
  exact (congrArg (zb1 · fun x => some x) hze)
theorem C_lastReached {U : zCS} {c : Nat} {v : zV} (hV : VOK v) {l f : Nat} (h : ∀ x, x < 6 → U.2.1 (c + 1) x = if x < (v 1 : Nat) then rJ (sn v l 0 f x) else NN) (hb : ∀ x, x < (v 1 : Nat) → sn v l 0 f x = FAR ∨ sn v l 0 f x ≤ 1080) : gX0_lastReached U c = some (J (lsr v l f (v 1))) := by
  have h6 := hV.2.2.1
  have hle := lsr_le hb
  unfold gX0_lastReached
  have hze := zf2_run (f := gX0_lastReached_l4 U c) (r := some (J (lsr v l f (v 1)))) 6 (fun i => J (lsr v l f (min i (v 1)))) J (by
    intro i hi F
    have ei := h i hi
    by_cases hv : i < (v 1 : Nat)
    · have h1 := hle i (by omega)
      rw [if_pos hv] at ei
      unfold rJ at ei
      have hbi := hb i hv
      rw [show min i (v 1 : Nat) = i by omega, show min (i + 1) (v 1 : Nat) = i + 1 by omega, show lsr v l f (i + 1) = (if sn v l 0 f i = FAR then lsr v l f i else max (lsr v l f i) (sn v l 0 f i)) from rfl]
      by_cases hs : sn v l 0 f i = FAR
      · rw [if_pos hs] at ei
        rw [if_pos hs]
        simp (disch := omega) only [gX0_lastReached_l4, wb1, wb2, wb3, wb4, wc1, wc2, zb1_ite, zb2_ite, zb3_ite, zb4_ite, zzc1_ite, zzc2_ite, J_lit, J_n1, J_n2, J_add, J_mul, J_lt, J_le, J_eq, J_eN, N_eJ, J_eN2, J_nn, J_lN, N_lJ, J_leN, N_leJ, NN_l0, NN_eN, bJ_0, bJ_1, bJ_ite, zbz_b, zbz_0, zbz_1, zag_J, zas_J, ite_true, ite_false, if_true, if_false, ite_self, reduceIte, not_true_eq_false, not_false_eq_true, J_o, Nat.reduceEqDiff, Nat.reduceAdd, Nat.reduceMul, Nat.reduceSub, Nat.reduceLT, Nat.reduceLeDiff, Nat.one_ne_zero, ei]
        rw [if_neg (by omega)]
      · rw [if_neg hs] at ei
        rw [if_neg hs]
        simp (disch := omega) only [gX0_lastReached_l4, wb1, wb2, wb3, wb4, wc1, wc2, zb1_ite, zb2_ite, zb3_ite, zb4_ite, zzc1_ite, zzc2_ite, J_lit, J_n1, J_n2, J_add, J_mul, J_lt, J_le, J_eq, J_eN, N_eJ, J_eN2, J_nn, J_lN, N_lJ, J_leN, N_leJ, NN_l0, NN_eN, bJ_0, bJ_1, bJ_ite, zbz_b, zbz_0, zbz_1, zag_J, zas_J, ite_true, ite_false, if_true, if_false, ite_self, reduceIte, not_true_eq_false, not_false_eq_true, J_o, Nat.reduceEqDiff, Nat.reduceAdd, Nat.reduceMul, Nat.reduceSub, Nat.reduceLT, Nat.reduceLeDiff, Nat.one_ne_zero, ei, max_ite]
        rw [if_neg (by omega)]
    · have h1 := hle (v 1) (Nat.le_refl _)
      rw [if_neg hv] at ei
      rw [show min i (v 1 : Nat) = (v 1 : Nat) by omega, show min (i + 1) (v 1 : Nat) = (v 1 : Nat) by omega]
      simp (disch := omega) only [gX0_lastReached_l4, wb1, wb2, wb3, wb4, wc1, wc2, zb1_ite, zb2_ite, zb3_ite, zb4_ite, zzc1_ite, zzc2_ite, J_lit, J_n1, J_n2, J_add, J_mul, J_lt, J_le, J_eq, J_eN, N_eJ, J_eN2, J_nn, J_lN, N_lJ, J_leN, N_leJ, NN_l0, NN_eN, bJ_0, bJ_1, bJ_ite, zbz_b, zbz_0, zbz_1, zag_J, zas_J, ite_true, ite_false, if_true, if_false, ite_self, reduceIte, not_true_eq_false, not_false_eq_true, J_o, Nat.reduceEqDiff, Nat.reduceAdd, Nat.reduceMul, Nat.reduceSub, Nat.reduceLT, Nat.reduceLeDiff, Nat.one_ne_zero, ei]
      rw [if_neg (by omega)]) (by
    intro F
    rw [show min 6 (v 1 : Nat) = (v 1 : Nat) by omega]
    simp (disch := omega) only [gX0_lastReached_l4, wb1, wb2, wb3, wb4, wc1, wc2, zb1_ite, zb2_ite, zb3_ite, zb4_ite, zzc1_ite, zzc2_ite, J_lit, J_n1, J_n2, J_add, J_mul, J_lt, J_le, J_eq, J_eN, N_eJ, J_eN2, J_nn, J_lN, N_lJ, J_leN, N_leJ, NN_l0, NN_eN, bJ_0, bJ_1, bJ_ite, zbz_b, zbz_0, zbz_1, zag_J, zas_J, ite_true, ite_false, if_true, if_false, ite_self, reduceIte, not_true_eq_false, not_false_eq_true, J_o, Nat.reduceEqDiff, Nat.reduceAdd, Nat.reduceMul, Nat.reduceSub, Nat.reduceLT, Nat.reduceLeDiff, Nat.one_ne_zero]) (zfu_lt (by omega))
  rw [show min 0 (v 1 : Nat) = 0 by omega] at hze
  exact (congrArg (zb1 · fun x => some x) hze)
theorem R_spread_l {M : zMS} {v : zV} (hV : VOK v) (hm : isMV M v) {l f : Nat} (h : ∀ x, x < (v 1 : Nat) → M.2.2 50 x = J (sn v l 0 f x)) (hb : ∀ x, x < (v 1 : Nat) → sn v l 0 f x = FAR ∨ sn v l 0 f x ≤ 1080) : zf3 (gX12_spread_l48 M) zfu (J 0) (J 0) (J 0) = some (J (rcd v l f), J (lsr v l f (v 1))) := by
  have h6 := hV.2.2.1
  have hle := lsr_le hb
  exact zf3_run (f := gX12_spread_l48 M) (v 1) (fun i => J (cnt (fun x => decide (sn v l 0 f x ≠ FAR)) i)) (fun i => J (lsr v l f i)) J (by
    intro i hi F
    have ei := h i hi
    have hbi := hb i hi
    have h1 := hle i (by omega)
    rw [cnt_s, show lsr v l f (i + 1) = (if sn v l 0 f i = FAR then lsr v l f i else max (lsr v l f i) (sn v l 0 f i)) from rfl]
    rw [FAR_e] at hbi
    simp (disch := omega) only [gX12_spread_l48, wb1, wb2, wb3, wb4, wc1, wc2, zb1_ite, zb2_ite, zb3_ite, zb4_ite, zzc1_ite, zzc2_ite, J_lit, J_n1, J_n2, J_add, J_mul, J_lt, J_le, J_eq, J_eN, N_eJ, J_eN2, J_nn, J_lN, N_lJ, J_leN, N_leJ, NN_l0, NN_eN, bJ_0, bJ_1, bJ_ite, zbz_b, zbz_0, zbz_1, zag_J, zas_J, ite_true, ite_false, if_true, if_false, ite_self, reduceIte, not_true_eq_false, not_false_eq_true, J_o, Nat.reduceEqDiff, Nat.reduceAdd, Nat.reduceMul, Nat.reduceSub, Nat.reduceLT, Nat.reduceLeDiff, Nat.one_ne_zero, R_p hm, ei]
    rw [if_neg (by omega)]
    by_cases hs : sn v l 0 f i = FAR
    · rw [if_pos hs, hs]
      simp [FAR]
    · have hs2 := hbi.resolve_left hs
      rw [if_neg hs, if_neg (by omega)]
      simp (disch := omega) only [wb1, wb2, wb3, wb4, wc1, wc2, zb1_ite, zb2_ite, zb3_ite, zb4_ite, zzc1_ite, zzc2_ite, J_lit, J_n1, J_n2, J_add, J_mul, J_lt, J_le, J_eq, J_eN, N_eJ, J_eN2, J_nn, J_lN, N_lJ, J_leN, N_leJ, NN_l0, NN_eN, bJ_0, bJ_1, bJ_ite, zbz_b, zbz_0, zbz_1, zag_J, zas_J, ite_true, ite_false, if_true, if_false, ite_self, reduceIte, not_true_eq_false, not_false_eq_true, J_o, Nat.reduceEqDiff, Nat.reduceAdd, Nat.reduceMul, Nat.reduceSub, Nat.reduceLT, Nat.reduceLeDiff, Nat.one_ne_zero, R_greater]
      rw [if_neg (by omega)]
      simp [hs]) (by
    intro F
    simp (disch := omega) only [gX12_spread_l48, wb1, wb2, wb3, wb4, wc1, wc2, zb1_ite, zb2_ite, zb3_ite, zb4_ite, zzc1_ite, zzc2_ite, J_lit, J_n1, J_n2, J_add, J_mul, J_lt, J_le, J_eq, J_eN, N_eJ, J_eN2, J_nn, J_lN, N_lJ, J_leN, N_leJ, NN_l0, NN_eN, bJ_0, bJ_1, bJ_ite, zbz_b, zbz_0, zbz_1, zag_J, zas_J, ite_true, ite_false, if_true, if_false, ite_self, reduceIte, not_true_eq_false, not_false_eq_true, J_o, Nat.reduceEqDiff, Nat.reduceAdd, Nat.reduceMul, Nat.reduceSub, Nat.reduceLT, Nat.reduceLeDiff, Nat.one_ne_zero, R_p hm]
    simp [rcd]) (zfu_lt (by omega))
/-! auction -/
theorem R_auction_b {M : zMS} {v : zV} (h : isMV M v) (hV : VOK v) : zf2 (gX12_auction_l30 M) zfu NN (J 0) = some (oJ (bl v 1 0 (v 1))) := by
  have h6 := hV.2.2.1
  exact zf2_run (f := gX12_auction_l30 M) (v 1) (fun i => oJ (bl v 1 0 i)) J (by
    intro i hi F
    rw [bl_s]
    have hbo := bl_ok (v := v) (k := 1) (s := 0) i
    have hbit : bit 0 i = false := by unfold bit; simp
    simp (disch := omega) only [gX12_auction_l30, wb1, wb2, wb3, wb4, wc1, wc2, zb1_ite, zb2_ite, zb3_ite, zb4_ite, zzc1_ite, zzc2_ite, J_lit, J_n1, J_n2, J_add, J_mul, J_lt, J_le, J_eq, J_eN, N_eJ, J_eN2, J_nn, J_lN, N_lJ, J_leN, N_leJ, NN_l0, NN_eN, bJ_0, bJ_1, bJ_ite, zbz_b, zbz_0, zbz_1, zag_J, zas_J, ite_true, ite_false, if_true, if_false, ite_self, reduceIte, not_true_eq_false, not_false_eq_true, J_o, Nat.reduceEqDiff, Nat.reduceAdd, Nat.reduceMul, Nat.reduceSub, Nat.reduceLT, Nat.reduceLeDiff, Nat.one_ne_zero, R_p h, R_isKind h hV]
    rw [if_neg (by omega), hbit]
    cases knd v 1 i
    · rfl
    · cases hb : bl v 1 0 i with
      | none => simp (disch := omega) only [wb1, wb2, wb3, wb4, wc1, wc2, zb1_ite, zb2_ite, zb3_ite, zb4_ite, zzc1_ite, zzc2_ite, J_lit, J_n1, J_n2, J_add, J_mul, J_lt, J_le, J_eq, J_eN, N_eJ, J_eN2, J_nn, J_lN, N_lJ, J_leN, N_leJ, NN_l0, NN_eN, bJ_0, bJ_1, bJ_ite, zbz_b, zbz_0, zbz_1, zag_J, zas_J, ite_true, ite_false, if_true, if_false, ite_self, reduceIte, not_true_eq_false, not_false_eq_true, J_o, Nat.reduceEqDiff, Nat.reduceAdd, Nat.reduceMul, Nat.reduceSub, Nat.reduceLT, Nat.reduceLeDiff, Nat.one_ne_zero, oJ_n]; rfl
      | some q =>
        rw [hb] at hbo
        have hq := hbo.1
        simp (disch := omega) only [wb1, wb2, wb3, wb4, wc1, wc2, zb1_ite, zb2_ite, zb3_ite, zb4_ite, zzc1_ite, zzc2_ite, J_lit, J_n1, J_n2, J_add, J_mul, J_lt, J_le, J_eq, J_eN, N_eJ, J_eN2, J_nn, J_lN, N_lJ, J_leN, N_leJ, NN_l0, NN_eN, bJ_0, bJ_1, bJ_ite, zbz_b, zbz_0, zbz_1, zag_J, zas_J, ite_true, ite_false, if_true, if_false, ite_self, reduceIte, not_true_eq_false, not_false_eq_true, J_o, Nat.reduceEqDiff, Nat.reduceAdd, Nat.reduceMul, Nat.reduceSub, Nat.reduceLT, Nat.reduceLeDiff, Nat.one_ne_zero, oJ_s, R_of h]
        unfold kee
        by_cases hw : (v (39 + q) : Nat) < (v (39 + i) : Nat)
        · simp [hw, Nat.not_le.mpr hw, oJ]
        · simp [hw, Nat.not_lt.mp hw, oJ]) (by
    intro F
    simp (disch := omega) only [gX12_auction_l30, wb1, wb2, wb3, wb4, wc1, wc2, zb1_ite, zb2_ite, zb3_ite, zb4_ite, zzc1_ite, zzc2_ite, J_lit, J_n1, J_n2, J_add, J_mul, J_lt, J_le, J_eq, J_eN, N_eJ, J_eN2, J_nn, J_lN, N_lJ, J_leN, N_leJ, NN_l0, NN_eN, bJ_0, bJ_1, bJ_ite, zbz_b, zbz_0, zbz_1, zag_J, zas_J, ite_true, ite_false, if_true, if_false, ite_self, reduceIte, not_true_eq_false, not_false_eq_true, J_o, Nat.reduceEqDiff, Nat.reduceAdd, Nat.reduceMul, Nat.reduceSub, Nat.reduceLT, Nat.reduceLeDiff, Nat.one_ne_zero, R_p h]
    simp) (zfu_lt (by omega))
/-- the next price -/
def nxp (v : zV) (s b : Nat) : Nat → Nat := itr (fun p x => if knd v 1 p && decide (p ≠ b) then max x (v (39 + p)) else x) (v (39 + s))
theorem nxp_lt {v : zV} {s b : Nat} : ∀ n, nxp v s b n < 100 := itr_i (P := fun _ x => x < 100) (by omega) (fun i x hx => by split <;> omega)
theorem R_auction_p {M : zMS} {v : zV} (h : isMV M v) (hV : VOK v) {s b : Nat} (hb : b < (v 1 : Nat)) : zf2 (gX12_auction_l132 M (J b)) zfu (J (v (39 + s))) (J 0) = some (J (nxp v s b (v 1))) := by
  have h6 := hV.2.2.1
  exact zf2_run (f := gX12_auction_l132 M (J b)) (v 1) (fun i => J (nxp v s b i)) J (by
    intro i hi F
    have hx := nxp_lt (v := v) (s := s) (b := b) i
    rw [show nxp v s b (i + 1) = (if knd v 1 i && decide (i ≠ b) then max (nxp v s b i) (v (39 + i)) else nxp v s b i) from rfl]
    simp (disch := omega) only [gX12_auction_l132, wb1, wb2, wb3, wb4, wc1, wc2, zb1_ite, zb2_ite, zb3_ite, zb4_ite, zzc1_ite, zzc2_ite, J_lit, J_n1, J_n2, J_add, J_mul, J_lt, J_le, J_eq, J_eN, N_eJ, J_eN2, J_nn, J_lN, N_lJ, J_leN, N_leJ, NN_l0, NN_eN, bJ_0, bJ_1, bJ_ite, zbz_b, zbz_0, zbz_1, zag_J, zas_J, ite_true, ite_false, if_true, if_false, ite_self, reduceIte, not_true_eq_false, not_false_eq_true, J_o, Nat.reduceEqDiff, Nat.reduceAdd, Nat.reduceMul, Nat.reduceSub, Nat.reduceLT, Nat.reduceLeDiff, Nat.one_ne_zero, R_p h, R_isKind h hV, R_of h, R_greater]
    rw [if_neg (by omega)]
    cases knd v 1 i
    · rfl
    · by_cases hib : i = b
      · simp [hib]
      · simp [hib]) (by
    intro F
    simp (disch := omega) only [gX12_auction_l132, wb1, wb2, wb3, wb4, wc1, wc2, zb1_ite, zb2_ite, zb3_ite, zb4_ite, zzc1_ite, zzc2_ite, J_lit, J_n1, J_n2, J_add, J_mul, J_lt, J_le, J_eq, J_eN, N_eJ, J_eN2, J_nn, J_lN, N_lJ, J_leN, N_leJ, NN_l0, NN_eN, bJ_0, bJ_1, bJ_ite, zbz_b, zbz_0, zbz_1, zag_J, zas_J, ite_true, ite_false, if_true, if_false, ite_self, reduceIte, not_true_eq_false, not_false_eq_true, J_o, Nat.reduceEqDiff, Nat.reduceAdd, Nat.reduceMul, Nat.reduceSub, Nat.reduceLT, Nat.reduceLeDiff, Nat.one_ne_zero, R_p h]
    simp) (zfu_lt (by omega))
theorem nxp_max {v : zV} {s b : Nat} : ∀ n, (v (39 + s) : Nat) ≤ nxp v s b n ∧ (∀ p, p < n → knd v 1 p = true → p ≠ b → (v (39 + p) : Nat) ≤ nxp v s b n) ∧ (nxp v s b n = (v (39 + s) : Nat) ∨ ∃ p, p < n ∧ knd v 1 p = true ∧ p ≠ b ∧ nxp v s b n = (v (39 + p) : Nat))
  | 0 => ⟨Nat.le_refl _, fun p hp => by omega, .inl rfl⟩
  | n + 1 => by
    obtain ⟨h1, h2, h3⟩ := nxp_max (v := v) (s := s) (b := b) n
    have e : nxp v s b (n + 1) = (if knd v 1 n && decide (n ≠ b) then max (nxp v s b n) (v (39 + n)) else nxp v s b n) := rfl
    by_cases hc : (knd v 1 n && decide (n ≠ b)) = true
    · rw [e, if_pos hc]
      rw [Bool.and_eq_true, decide_eq_true_eq] at hc
      refine ⟨by omega, fun p hp hk hpb => ?_, ?_⟩
      · by_cases hpn : p = n
        · subst hpn; omega
        · have := h2 p (by omega) hk hpb; omega
      · by_cases hm : nxp v s b n ≤ (v (39 + n) : Nat)
        · exact .inr ⟨n, by omega, hc.1, hc.2, by omega⟩
        · rcases h3 with h3 | ⟨p, hp, hk, hpb, h3⟩
          · exact .inl (by omega)
          · exact .inr ⟨p, by omega, hk, hpb, by omega⟩
    · rw [e, if_neg hc]
      refine ⟨h1, fun p hp hk hpb => ?_, ?_⟩
      · by_cases hpn : p = n
        · subst hpn; rw [hk] at hc; simp [hpb] at hc
        · exact h2 p (by omega) hk hpb
      · rcases h3 with h3 | ⟨p, hp, hk, hpb, h3⟩
        · exact .inl h3
        · exact .inr ⟨p, by omega, hk, hpb, h3⟩
theorem C_greatestBuyer {U : zCS} {a : Nat} {v : zV} (h : isVal U a v) (hV : VOK v) : gX8_greatestBuyer U a NN = some (oJ (bl v 1 0 (v 1))) := by
  unfold gX8_greatestBuyer
  simp (disch := omega) only [wb1, wb2, wb3, wb4, wc1, wc2, zb1_ite, zb2_ite, zb3_ite, zb4_ite, zzc1_ite, zzc2_ite, J_lit, J_n1, J_n2, J_add, J_mul, J_lt, J_le, J_eq, J_eN, N_eJ, J_eN2, J_nn, J_lN, N_lJ, J_leN, N_leJ, NN_l0, NN_eN, bJ_0, bJ_1, bJ_ite, zbz_b, zbz_0, zbz_1, zag_J, zas_J, ite_true, ite_false, if_true, if_false, ite_self, reduceIte, not_true_eq_false, not_false_eq_true, J_o, Nat.reduceEqDiff, Nat.reduceAdd, Nat.reduceMul, Nat.reduceSub, Nat.reduceLT, Nat.reduceLeDiff, Nat.one_ne_zero, C_bestLeft h hV]
theorem C_priceFor {U : zCS} {a : Nat} {v : zV} (h : isVal U a v) (hV : VOK v) {s b : Nat} (hs : s < (v 1 : Nat)) (hb : b < (v 1 : Nat)) : gX8_priceFor U a (J s) (J b) = some (J (nxp v s b (v 1))) := by
  have h6 := hV.2.2.1
  have h64 : 2 ^ b < 64 := Nat.pow_lt_pow_right (n := 6) (by decide) (by omega)
  have hbit : ∀ p, bit (2 ^ b) p = decide (p = b) := fun p => by
    have := @bit_or 0 b p
    rw [Nat.zero_or] at this
    rw [this]
    unfold bit; simp
  have hbo := bl_ok (v := v) (k := 1) (s := 2 ^ b) (v 1)
  obtain ⟨n1, n2, n3⟩ := nxp_max (v := v) (s := s) (b := b) (v 1)
  unfold gX8_priceFor gX8_greatestBuyer
  simp (disch := omega) only [wb1, wb2, wb3, wb4, wc1, wc2, zb1_ite, zb2_ite, zb3_ite, zb4_ite, zzc1_ite, zzc2_ite, J_lit, J_n1, J_n2, J_add, J_mul, J_lt, J_le, J_eq, J_eN, N_eJ, J_eN2, J_nn, J_lN, N_lJ, J_leN, N_leJ, NN_l0, NN_eN, bJ_0, bJ_1, bJ_ite, zbz_b, zbz_0, zbz_1, zag_J, zas_J, ite_true, ite_false, if_true, if_false, ite_self, reduceIte, not_true_eq_false, not_false_eq_true, J_o, Nat.reduceEqDiff, Nat.reduceAdd, Nat.reduceMul, Nat.reduceSub, Nat.reduceLT, Nat.reduceLeDiff, Nat.one_ne_zero, J_shl, C_bestLeft h hV]
  cases hq : bl v 1 (2 ^ b) (v 1) with
  | none =>
    rw [hq] at hbo
    simp (disch := omega) only [wb1, wb2, wb3, wb4, wc1, wc2, zb1_ite, zb2_ite, zb3_ite, zb4_ite, zzc1_ite, zzc2_ite, J_lit, J_n1, J_n2, J_add, J_mul, J_lt, J_le, J_eq, J_eN, N_eJ, J_eN2, J_nn, J_lN, N_lJ, J_leN, N_leJ, NN_l0, NN_eN, bJ_0, bJ_1, bJ_ite, zbz_b, zbz_0, zbz_1, zag_J, zas_J, ite_true, ite_false, if_true, if_false, ite_self, reduceIte, not_true_eq_false, not_false_eq_true, J_o, Nat.reduceEqDiff, Nat.reduceAdd, Nat.reduceMul, Nat.reduceSub, Nat.reduceLT, Nat.reduceLeDiff, Nat.one_ne_zero, oJ_n, V_wi h]
    rcases n3 with n3 | ⟨p, hp, hk, hpb, -⟩
    · rw [n3]
    · have := hbo p hp hk
      rw [hbit] at this
      exact absurd (of_decide_eq_true this) hpb
  | some q =>
    rw [hq] at hbo
    obtain ⟨q1, q2, q3, q4⟩ := hbo
    simp (disch := omega) only [wb1, wb2, wb3, wb4, wc1, wc2, zb1_ite, zb2_ite, zb3_ite, zb4_ite, zzc1_ite, zzc2_ite, J_lit, J_n1, J_n2, J_add, J_mul, J_lt, J_le, J_eq, J_eN, N_eJ, J_eN2, J_nn, J_lN, N_lJ, J_leN, N_leJ, NN_l0, NN_eN, bJ_0, bJ_1, bJ_ite, zbz_b, zbz_0, zbz_1, zag_J, zas_J, ite_true, ite_false, if_true, if_false, ite_self, reduceIte, not_true_eq_false, not_false_eq_true, J_o, Nat.reduceEqDiff, Nat.reduceAdd, Nat.reduceMul, Nat.reduceSub, Nat.reduceLT, Nat.reduceLeDiff, Nat.one_ne_zero, oJ_s, V_wi h, max_ite]
    rw [hbit] at q3
    have q5 := n2 q q1 q2 (of_decide_eq_false q3)
    congr 2
    rcases n3 with n3 | ⟨p, hp, hk, hpb, n3⟩
    · omega
    · by_cases hpq : p = q
      · subst hpq; omega
      · have := q4 p hp hk (by rw [hbit]; exact decide_eq_false hpb) hpq
        unfold bef kee at this
        simp at this
        omega
