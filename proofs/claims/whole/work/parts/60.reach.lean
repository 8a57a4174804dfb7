theorem soo_le {v : zV} {l t f k o : Nat} : soo v l t f k o ≤ FAR := by
  have h1 := soo_mo2 (v := v) (l := l) (t := t) (f := f) (o := o) (j := 0) k
  rw [Nat.zero_add] at h1
  have h0 : soo v l t f 0 o ≤ FAR := by
    show (if o = f then 0 else FAR) ≤ FAR
    split <;> omega
  exact Nat.le_trans h1 h0
theorem FAR_e : FAR = 1000000 := rfl
theorem wgt_le {v : zV} {t p o : Nat} (hV : VOK v) (hp : p < (v 1 : Nat)) (ho : o < (v 1 : Nat)) : wgt v t p o ≤ 30 := by
  have h1 := dist_le (hV.2.2.2.2.2.2 p hp).2 (hV.2.2.2.2.2.2 o ho).2
  have h2 := hV.2.1
  unfold wgt
  split <;> omega
/-! the reference -/
theorem R_soon_in {M m : zMS} {v : zV} (hV : VOK v) {l t f k p : Nat} (hl : l < 3) (ht : t < 2) (hf : f < (v 1 : Nat)) (hp : p < (v 1 : Nat)) (hm : isMV m v) (hs : Msame M m) {d : Nat → Nat} (hd : rnd v l t f k p 0 d) (hr : ∀ x, x < (v 1 : Nat) → m.2.2 50 x = J (d x)) : ∃ m', zf2 (gX12_findSoon_l63 (J p) (J l) (J t)) zfu (J 0) m = some m' ∧ isMV m' v ∧ Msame M m' ∧ ∃ d', rnd v l t f k p (v 1) d' ∧ ∀ x, x < (v 1 : Nat) → m'.2.2 50 x = J (d' x) := by
  have h6 := hV.2.2.1
  refine zf2_inv (f := gX12_findSoon_l63 (J p) (J l) (J t)) (v 1) (fun i x m => x = J i ∧ isMV m v ∧ Msame M m ∧ ∃ d', rnd v l t f k p i d' ∧ ∀ x, x < (v 1 : Nat) → m.2.2 50 x = J (d' x)) (fun m => isMV m v ∧ Msame M m ∧ ∃ d', rnd v l t f k p (v 1) d' ∧ ∀ x, x < (v 1 : Nat) → m.2.2 50 x = J (d' x)) ?_ ?_ (zfu_lt (n := (v 1 : Nat)) (by omega)) (x0 := J 0) (x1 := m) ⟨rfl, hm, hs, d, hd, hr⟩
  · intro i x n hi hP F
    obtain ⟨rfl, hn, hsn, d', hd', hr'⟩ := hP
    have b1 : d' i ≤ FAR := Nat.le_trans (hd'.1 i hi).2 soo_le
    have b2 : d' p ≤ FAR := Nat.le_trans (hd'.1 p hp).2 soo_le
    have b3 := wgt_le (t := t) hV hp hi
    rw [FAR_e] at b1 b2
    have b4 : via v l t d' p i < 2000000 := by
      unfold via
      split
      · omega
      · rw [FAR_e]; omega
    have hrl := @rng_le l
    have hdl := dist_le (hV.2.2.2.2.2.2 p hp).2 (hV.2.2.2.2.2.2 i hi).2
    have hw := hV.2.1
    refine ⟨J (i + 1), zsA n 50 (upd (n.2.2 50) i (J (min (d' i) (via v l t d' p i)))), ?_, rfl, isMV_A (by omega) hn, Msame_t hsn (Msame_A (by omega)), _, rnd_st hf hp hi hd' rfl, fun x hx => ?_⟩
    · simp (disch := omega) only [gX12_findSoon_l63, gX12_findSoon_b132, wb1, wb2, wb3, wb4, wc1, wc2, zb1_ite, zb2_ite, zb3_ite, zb4_ite, zzc1_ite, zzc2_ite, J_lit, J_n1, J_n2, J_add, J_mul, J_lt, J_le, J_eq, J_eN, N_eJ, J_eN2, J_nn, J_lN, N_lJ, J_leN, N_leJ, NN_l0, NN_eN, bJ_0, bJ_1, bJ_ite, zbz_b, zbz_0, zbz_1, zag_J, zas_J, ite_true, ite_false, if_true, if_false, ite_self, reduceIte, not_true_eq_false, not_false_eq_true, J_o, Nat.reduceEqDiff, Nat.reduceAdd, Nat.reduceMul, Nat.reduceSub, Nat.reduceLT, Nat.reduceLeDiff, Nat.one_ne_zero, R_p hn, R_of hn, R_apart, R_range, hr' p hp, hr' i hi, R_lesser]
      rw [if_neg (by omega)]
      by_cases c1 : rng l < dist (v (33 + p)) (v (33 + i))
      · have hvi : via v l t d' p i = FAR := by unfold via; rw [if_neg (by simp [edg]; omega)]
        rw [if_pos c1, hvi]
        rfl
      · rw [if_neg c1]
        by_cases c2 : p = i
        · have hvi : via v l t d' p i = FAR := by unfold via; rw [if_neg (by simp [edg, c2])]
          rw [if_pos c2, hvi]
          rfl
        · have hed : edg v l p i = true := by unfold edg; simp [c2]; omega
          have hvi : via v l t d' p i = d' p + wgt v t p i := by unfold via; rw [if_pos hed]
          rw [if_neg c2, hvi]
          unfold wgt
          by_cases c3 : t = 0
          · rw [if_pos c3, if_pos c3]
          · rw [if_neg c3, if_neg c3]
    · rw [zsA_1]
      by_cases hxi : x = i
      · subst hxi; rw [upd_1, if_pos rfl]
      · rw [upd_o hxi, if_neg hxi]; exact hr' x hx
  · intro x n hP F
    obtain ⟨rfl, hn, hsn, hd'⟩ := hP
    simp (disch := omega) only [gX12_findSoon_l63, wb1, wb2, wb3, wb4, wc1, wc2, zb1_ite, zb2_ite, zb3_ite, zb4_ite, zzc1_ite, zzc2_ite, J_lit, J_n1, J_n2, J_add, J_mul, J_lt, J_le, J_eq, J_eN, N_eJ, J_eN2, J_nn, J_lN, N_lJ, J_leN, N_leJ, NN_l0, NN_eN, bJ_0, bJ_1, bJ_ite, zbz_b, zbz_0, zbz_1, zag_J, zas_J, ite_true, ite_false, if_true, if_false, ite_self, reduceIte, not_true_eq_false, not_false_eq_true, J_o, Nat.reduceEqDiff, Nat.reduceAdd, Nat.reduceMul, Nat.reduceSub, Nat.reduceLT, Nat.reduceLeDiff, Nat.one_ne_zero, R_p hn]
    rw [if_pos (Nat.le_refl _)]
    exact ⟨n, rfl, hn, hsn, hd'⟩
theorem R_soon_p {M m : zMS} {v : zV} (hV : VOK v) {l t f k : Nat} (hl : l < 3) (ht : t < 2) (hf : f < (v 1 : Nat)) (hm : isMV m v) (hs : Msame M m) {d : Nat → Nat} (hd : rnd v l t f k 0 0 d) (hr : ∀ x, x < (v 1 : Nat) → m.2.2 50 x = J (d x)) : ∃ m', zf2 (gX12_findSoon_l51 (J l) (J t)) zfu (J 0) m = some m' ∧ isMV m' v ∧ Msame M m' ∧ ∃ d', rnd v l t f (k + 1) 0 0 d' ∧ ∀ x, x < (v 1 : Nat) → m'.2.2 50 x = J (d' x) := by
  have h6 := hV.2.2.1
  refine zf2_inv (f := gX12_findSoon_l51 (J l) (J t)) (v 1) (fun i x m => x = J i ∧ isMV m v ∧ Msame M m ∧ ∃ d', rnd v l t f k i 0 d' ∧ ∀ x, x < (v 1 : Nat) → m.2.2 50 x = J (d' x)) (fun m => isMV m v ∧ Msame M m ∧ ∃ d', rnd v l t f (k + 1) 0 0 d' ∧ ∀ x, x < (v 1 : Nat) → m.2.2 50 x = J (d' x)) ?_ ?_ (zfu_lt (n := (v 1 : Nat)) (by omega)) (x0 := J 0) (x1 := m) ⟨rfl, hm, hs, d, hd, hr⟩
  · intro i x n hi hP F
    obtain ⟨rfl, hn, hsn, d', hd', hr'⟩ := hP
    obtain ⟨n2, e1, hn2, hs2, d2, hd2, hr2⟩ := R_soon_in hV hl ht hf hi hn hsn hd' hr'
    refine ⟨J (i + 1), n2, ?_, rfl, hn2, hs2, d2, rnd_np hd2, hr2⟩
    simp (disch := omega) only [gX12_findSoon_l51, wb1, wb2, wb3, wb4, wc1, wc2, zb1_ite, zb2_ite, zb3_ite, zb4_ite, zzc1_ite, zzc2_ite, J_lit, J_n1, J_n2, J_add, J_mul, J_lt, J_le, J_eq, J_eN, N_eJ, J_eN2, J_nn, J_lN, N_lJ, J_leN, N_leJ, NN_l0, NN_eN, bJ_0, bJ_1, bJ_ite, zbz_b, zbz_0, zbz_1, zag_J, zas_J, ite_true, ite_false, if_true, if_false, ite_self, reduceIte, not_true_eq_false, not_false_eq_true, J_o, Nat.reduceEqDiff, Nat.reduceAdd, Nat.reduceMul, Nat.reduceSub, Nat.reduceLT, Nat.reduceLeDiff, Nat.one_ne_zero, R_p hn, e1]
    rw [if_neg (by omega)]
  · intro x n hP F
    obtain ⟨rfl, hn, hsn, d', hd', hr'⟩ := hP
    simp (disch := omega) only [gX12_findSoon_l51, wb1, wb2, wb3, wb4, wc1, wc2, zb1_ite, zb2_ite, zb3_ite, zb4_ite, zzc1_ite, zzc2_ite, J_lit, J_n1, J_n2, J_add, J_mul, J_lt, J_le, J_eq, J_eN, N_eJ, J_eN2, J_nn, J_lN, N_lJ, J_leN, N_leJ, NN_l0, NN_eN, bJ_0, bJ_1, bJ_ite, zbz_b, zbz_0, zbz_1, zag_J, zas_J, ite_true, ite_false, if_true, if_false, ite_self, reduceIte, not_true_eq_false, not_false_eq_true, J_o, Nat.reduceEqDiff, Nat.reduceAdd, Nat.reduceMul, Nat.reduceSub, Nat.reduceLT, Nat.reduceLeDiff, Nat.one_ne_zero, R_p hn]
    rw [if_pos (Nat.le_refl _)]
    exact ⟨n, rfl, hn, hsn, d', rnd_nk hd', hr'⟩
theorem R_findSoon {M : zMS} {v : zV} (hV : VOK v) (h : isMV M v) {l t f : Nat} (hl : l < 3) (ht : t < 2) (hf : f < (v 1 : Nat)) : ∃ M', gX12_findSoon M (J f) (J l) (J t) = some M' ∧ isMV M' v ∧ Msame M M' ∧ ∀ x, x < (v 1 : Nat) → M'.2.2 50 x = J (sn v l t f x) := by
  have h6 := hV.2.2.1
  unfold gX12_findSoon
  obtain ⟨m1, e1, hm1, hs1, hr1⟩ := zf2_inv (f := gX12_findSoon_l3 (J f)) (v 1) (fun i x m => x = J i ∧ isMV m v ∧ Msame M m ∧ ∀ x, x < i → m.2.2 50 x = J (if x = f then 0 else FAR)) (fun m => isMV m v ∧ Msame M m ∧ ∀ x, x < (v 1 : Nat) → m.2.2 50 x = J (if x = f then 0 else FAR)) (by
    intro i x n hi hP F
    obtain ⟨rfl, hn, hsn, hr⟩ := hP
    refine ⟨J (i + 1), zsA n 50 (upd (n.2.2 50) i (J (if i = f then 0 else FAR))), ?_, rfl, isMV_A (by omega) hn, Msame_t hsn (Msame_A (by omega)), fun x hx => ?_⟩
    · simp (disch := omega) only [gX12_findSoon_l3, wb1, wb2, wb3, wb4, wc1, wc2, zb1_ite, zb2_ite, zb3_ite, zb4_ite, zzc1_ite, zzc2_ite, J_lit, J_n1, J_n2, J_add, J_mul, J_lt, J_le, J_eq, J_eN, N_eJ, J_eN2, J_nn, J_lN, N_lJ, J_leN, N_leJ, NN_l0, NN_eN, bJ_0, bJ_1, bJ_ite, zbz_b, zbz_0, zbz_1, zag_J, zas_J, ite_true, ite_false, if_true, if_false, ite_self, reduceIte, not_true_eq_false, not_false_eq_true, J_o, Nat.reduceEqDiff, Nat.reduceAdd, Nat.reduceMul, Nat.reduceSub, Nat.reduceLT, Nat.reduceLeDiff, Nat.one_ne_zero, R_p hn]
      rw [if_neg (by omega)]
      by_cases c : i = f
      · rw [if_pos c, if_pos c]
      · rw [if_neg c, if_neg c]; rfl
    · rw [zsA_1]
      by_cases hxi : x = i
      · subst hxi; rw [upd_1]
      · rw [upd_o hxi]; exact hr x (by omega)) (by
    intro x n hP F
    obtain ⟨rfl, hn, hsn, hr⟩ := hP
    simp (disch := omega) only [gX12_findSoon_l3, wb1, wb2, wb3, wb4, wc1, wc2, zb1_ite, zb2_ite, zb3_ite, zb4_ite, zzc1_ite, zzc2_ite, J_lit, J_n1, J_n2, J_add, J_mul, J_lt, J_le, J_eq, J_eN, N_eJ, J_eN2, J_nn, J_lN, N_lJ, J_leN, N_leJ, NN_l0, NN_eN, bJ_0, bJ_1, bJ_ite, zbz_b, zbz_0, zbz_1, zag_J, zas_J, ite_true, ite_false, if_true, if_false, ite_self, reduceIte, not_true_eq_false, not_false_eq_true, J_o, Nat.reduceEqDiff, Nat.reduceAdd, Nat.reduceMul, Nat.reduceSub, Nat.reduceLT, Nat.reduceLeDiff, Nat.one_ne_zero, R_p hn]
    rw [if_pos (Nat.le_refl _)]
    exact ⟨n, rfl, hn, hsn, hr⟩) (zfu_lt (n := (v 1 : Nat)) (by omega)) (x0 := J 0) (x1 := M) ⟨rfl, h, Msame_r, fun x hx => by omega⟩
  obtain ⟨m2, e2, hm2, hs2, d, hd, hr2⟩ := zf2_inv (f := gX12_findSoon_l41 (J l) (J t)) 6 (fun i x m => x = J i ∧ isMV m v ∧ Msame M m ∧ ∃ d, rnd v l t f i 0 0 d ∧ ∀ x, x < (v 1 : Nat) → m.2.2 50 x = J (d x)) (fun m => isMV m v ∧ Msame M m ∧ ∃ d, rnd v l t f 6 0 0 d ∧ ∀ x, x < (v 1 : Nat) → m.2.2 50 x = J (d x)) (by
    intro i x n hi hP F
    obtain ⟨rfl, hn, hsn, d', hd', hr'⟩ := hP
    obtain ⟨n2, e3, hn2, hs2, hd2⟩ := R_soon_p hV hl ht hf hn hsn hd' hr'
    refine ⟨J (i + 1), n2, ?_, rfl, hn2, hs2, hd2⟩
    simp (disch := omega) only [gX12_findSoon_l41, wb1, wb2, wb3, wb4, wc1, wc2, zb1_ite, zb2_ite, zb3_ite, zb4_ite, zzc1_ite, zzc2_ite, J_lit, J_n1, J_n2, J_add, J_mul, J_lt, J_le, J_eq, J_eN, N_eJ, J_eN2, J_nn, J_lN, N_lJ, J_leN, N_leJ, NN_l0, NN_eN, bJ_0, bJ_1, bJ_ite, zbz_b, zbz_0, zbz_1, zag_J, zas_J, ite_true, ite_false, if_true, if_false, ite_self, reduceIte, not_true_eq_false, not_false_eq_true, J_o, Nat.reduceEqDiff, Nat.reduceAdd, Nat.reduceMul, Nat.reduceSub, Nat.reduceLT, Nat.reduceLeDiff, Nat.one_ne_zero, e3]
    rw [if_neg (by omega)]) (by
    intro x n hP F
    obtain ⟨rfl, hn, hsn, hd'⟩ := hP
    simp (disch := omega) only [gX12_findSoon_l41, wb1, wb2, wb3, wb4, wc1, wc2, zb1_ite, zb2_ite, zb3_ite, zb4_ite, zzc1_ite, zzc2_ite, J_lit, J_n1, J_n2, J_add, J_mul, J_lt, J_le, J_eq, J_eN, N_eJ, J_eN2, J_nn, J_lN, N_lJ, J_leN, N_leJ, NN_l0, NN_eN, bJ_0, bJ_1, bJ_ite, zbz_b, zbz_0, zbz_1, zag_J, zas_J, ite_true, ite_false, if_true, if_false, ite_self, reduceIte, not_true_eq_false, not_false_eq_true, J_o, Nat.reduceEqDiff, Nat.reduceAdd, Nat.reduceMul, Nat.reduceSub, Nat.reduceLT, Nat.reduceLeDiff, Nat.one_ne_zero]
    exact ⟨n, rfl, hn, hsn, hd'⟩) (zfu_lt (n := 6) (by omega)) (x0 := J 0) (x1 := m1) ⟨rfl, hm1, hs1, _, rnd_00, hr1⟩
  refine ⟨m2, ?_, hm2, hs2, fun x hx => ?_⟩
  · refine (congrArg (zb1 · _) e1).trans ?_
    exact congrArg (zb1 · fun x => some x) e2
  · rw [hr2 x hx, btw_e hf (by omega) hd.1 hx]
/-! the class -/
theorem isVal_U {U U' : zCS} {a : Nat} {v : zV} {A : Nat → Prop} (hu : Uarr U U' A) (hA : ∀ j, j ≤ 10 → ¬ A (a + j)) (h : isVal U a v) : isVal U' a v := by
  obtain ⟨h1, h2, h3⟩ := hu
  unfold isVal at *
  rw [h1, h3 (a + 1) (hA 1 (by omega)), h3 (a + 2) (hA 2 (by omega)), h3 (a + 3) (hA 3 (by omega)), h3 (a + 4) (hA 4 (by omega)), h3 (a + 5) (hA 5 (by omega)), h3 (a + 6) (hA 6 (by omega)), h3 (a + 7) (hA 7 (by omega)), h3 (a + 8) (hA 8 (by omega)), h3 (a + 9) (hA 9 (by omega)), h3 (a + 10) (hA 10 (by omega))]
  exact h
theorem Uarr_r {U : zCS} {A : Nat → Prop} : Uarr U U A := ⟨rfl, rfl, fun _ _ => rfl⟩
theorem Uarr_t {a b c : zCS} {A : Nat → Prop} (h1 : Uarr a b A) (h2 : Uarr b c A) : Uarr a c A := ⟨h2.1.trans h1.1, h2.2.1.trans h1.2.1, fun q hq => (h2.2.2 q hq).trans (h1.2.2 q hq)⟩
theorem Uarr_A {U : zCS} {A : Nat → Prop} {a : Nat} {g : Nat → Int32} (h : A a) : Uarr U (csA U a g) A := ⟨rfl, rfl, fun q hq => csA_o2 (fun z => hq (z ▸ h))⟩
theorem Uarr_m {U U' : zCS} {A B : Nat → Prop} (h : Uarr U U' A) (hAB : ∀ q, A q → B q) : Uarr U U' B := ⟨h.1, h.2.1, fun q hq => h.2.2 q (fun z => hq (hAB q z))⟩
theorem C_fill {U : zCS} {n a : Nat} {x : Int32} (hn : n < 100000) : ∃ U', gfill n U a x = some U' ∧ Uarr U U' (fun q => q = a) ∧ ∀ j, j < n → U'.2.1 a j = x := by
  unfold gfill
  refine zf2_inv (f := gfill_l n a x) n (fun i y m => y = J i ∧ Uarr U m (fun q => q = a) ∧ ∀ j, j < i → m.2.1 a j = x) (fun m => Uarr U m (fun q => q = a) ∧ ∀ j, j < n → m.2.1 a j = x) ?_ ?_ (zfu_lt (n := n) (by omega)) (x0 := J 0) (x1 := U) ⟨rfl, Uarr_r, fun j hj => by omega⟩
  · intro i y m hi hP F
    obtain ⟨rfl, hm, hj⟩ := hP
    refine ⟨J (i + 1), csA m a (upd (m.2.1 a) i x), ?_, rfl, Uarr_t hm (Uarr_A rfl), fun j hji => ?_⟩
    · simp (disch := omega) only [gfill_l, wb1, wb2, wb3, wb4, wc1, wc2, zb1_ite, zb2_ite, zb3_ite, zb4_ite, zzc1_ite, zzc2_ite, J_lit, J_n1, J_n2, J_add, J_mul, J_lt, J_le, J_eq, J_eN, N_eJ, J_eN2, J_nn, J_lN, N_lJ, J_leN, N_leJ, NN_l0, NN_eN, bJ_0, bJ_1, bJ_ite, zbz_b, zbz_0, zbz_1, zag_J, zas_J, ite_true, ite_false, if_true, if_false, ite_self, reduceIte, not_true_eq_false, not_false_eq_true, J_o, Nat.reduceEqDiff, Nat.reduceAdd, Nat.reduceMul, Nat.reduceSub, Nat.reduceLT, Nat.reduceLeDiff, Nat.one_ne_zero]
      rw [if_neg (by omega)]
    · rw [csA_1]
      by_cases hc : j = i
      · subst hc; exact upd_1
      · rw [upd_o hc]; exact hj j (by omega)
  · intro y m hP F
    obtain ⟨rfl, hm, hj⟩ := hP
    simp (disch := omega) only [gfill_l, wb1, wb2, wb3, wb4, wc1, wc2, zb1_ite, zb2_ite, zb3_ite, zb4_ite, zzc1_ite, zzc2_ite, J_lit, J_n1, J_n2, J_add, J_mul, J_lt, J_le, J_eq, J_eN, N_eJ, J_eN2, J_nn, J_lN, N_lJ, J_leN, N_leJ, NN_l0, NN_eN, bJ_0, bJ_1, bJ_ite, zbz_b, zbz_0, zbz_1, zag_J, zas_J, ite_true, ite_false, if_true, if_false, ite_self, reduceIte, not_true_eq_false, not_false_eq_true, J_o, Nat.reduceEqDiff, Nat.reduceAdd, Nat.reduceMul, Nat.reduceSub, Nat.reduceLT, Nat.reduceLeDiff, Nat.one_ne_zero]
    rw [if_pos (Nat.le_refl _)]
    exact ⟨m, rfl, hm, hj⟩
theorem abs_J {a b : Nat} (ha : a < 1000) (hb : b < 1000) : (if J 0 ≤ J a - J b then J a - J b else J 0 - (J a - J b) : Int32) = J (dist a b) := by
  by_cases h1 : b ≤ a
  · have h2 : J 0 ≤ J a - J b := by rw [J_sub h1, J_le (by omega) (by omega)]; omega
    rw [if_pos h2, J_sub h1, dist_c, if_pos h1]
  · have h2 : ¬ J 0 ≤ J a - J b := by rw [Int32.le_iff_toInt_le, J_subI (by omega) (by omega), J_toInt (by omega)]; omega
    rw [if_neg h2, dist_c, if_neg h1, ← J_sub (by omega), show (J 0 : Int32) = 0 from rfl, Int32.zero_sub, Int32.neg_sub]
theorem C_apart {U : zCS} {a : Nat} {v : zV} (h : isVal U a v) (hV : VOK v) {p o : Nat} (hp : p < (v 1 : Nat)) (ho : o < (v 1 : Nat)) : gX0_apart U a (J p) (J o) = some (J (dist (v (33 + p)) (v (33 + o)))) := by
  have h6 := hV.2.2.1
  unfold gX0_apart
  simp (disch := omega) only [wb1, wb2, wb3, wb4, wc1, wc2, zb1_ite, zb2_ite, zb3_ite, zb4_ite, zzc1_ite, zzc2_ite, J_lit, J_n1, J_n2, J_add, J_mul, J_lt, J_le, J_eq, J_eN, N_eJ, J_eN2, J_nn, J_lN, N_lJ, J_leN, N_leJ, NN_l0, NN_eN, bJ_0, bJ_1, bJ_ite, zbz_b, zbz_0, zbz_1, zag_J, zas_J, ite_true, ite_false, if_true, if_false, ite_self, reduceIte, not_true_eq_false, not_false_eq_true, J_o, Nat.reduceEqDiff, Nat.reduceAdd, Nat.reduceMul, Nat.reduceSub, Nat.reduceLT, Nat.reduceLeDiff, Nat.one_ne_zero, V_pl h, abs_J]
def rJ (d : Nat) : Int32 := if d = FAR then NN else J d
theorem rnd_skip {v : zV} {l t f k p : Nat} {d : Nat → Nat} (hp : p < (v 1 : Nat)) (h : rnd v l t f k p 0 d) (hd : d p = FAR) : rnd v l t f k p (v 1) d := by
  refine ⟨h.1, h.2.1, fun x hx => ?_⟩
  have h1 := (h.1 p hp).2
  have h2 := Nat.le_trans (h.1 x hx).2 soo_le
  unfold via
  split <;> omega
theorem C_sayOn {U : zCS} {a c : Nat} {v : zV} (h : isVal U a v) (hV : VOK v) (hac : ∀ j, j ≤ 10 → ¬ a + j = c + 1) {l t f k p B : Nat} (hl : l < 3) (ht : t < 2) (hf : f < (v 1 : Nat)) (hp : p < (v 1 : Nat)) {d : Nat → Nat} (hd : rnd v l t f k p 0 d) (hr : ∀ x, x < 6 → U.2.1 (c + 1) x = if x < (v 1 : Nat) then rJ (d x) else NN) (hB : ∀ x, x < (v 1 : Nat) → d x = FAR ∨ d x ≤ B) (hB2 : B < 100000) (hdp : d p ≠ FAR) : ∃ U', gX0_sayOn U c a (J p) (J l) (J t) = some U' ∧ Uarr U U' (fun q => q = c + 1) ∧ ∃ d', rnd v l t f k p (v 1) d' ∧ (∀ x, x < 6 → U'.2.1 (c + 1) x = if x < (v 1 : Nat) then rJ (d' x) else NN) ∧ ∀ x, x < (v 1 : Nat) → d' x = FAR ∨ d' x ≤ B + 30 := by
  have h6 := hV.2.2.1
  have hdB := (hB p hp).resolve_left hdp
  unfold gX0_sayOn
  obtain ⟨U', e1, hQ⟩ := zf2_inv (f := gX0_sayOn_l3 a (J p) (J l) c (J t)) (v 1) (fun i x m => x = J i ∧ Uarr U m (fun q => q = c + 1) ∧ ∃ d', rnd v l t f k p i d' ∧ (∀ x, x < 6 → m.2.1 (c + 1) x = if x < (v 1 : Nat) then rJ (d' x) else NN) ∧ (∀ x, x < (v 1 : Nat) → d' x = FAR ∨ d' x ≤ B + 30) ∧ d' p = d p) (fun m => Uarr U m (fun q => q = c + 1) ∧ ∃ d', rnd v l t f k p (v 1) d' ∧ (∀ x, x < 6 → m.2.1 (c + 1) x = if x < (v 1 : Nat) then rJ (d' x) else NN) ∧ ∀ x, x < (v 1 : Nat) → d' x = FAR ∨ d' x ≤ B + 30) (by
    intro i x m hi hP F
    obtain ⟨rfl, hm, d', hd', hr', hB', hdp'⟩ := hP
    have hv := isVal_U hm hac h
    have hdl := dist_le (hV.2.2.2.2.2.2 p hp).2 (hV.2.2.2.2.2.2 i hi).2
    have hw := hV.2.1
    have hrl := @rng_le l
    have hwl := wgt_le (t := t) hV hp hi
    have ep : m.2.1 (c + 1) p = J (d' p) := by
      rw [hr' p (by omega), if_pos hp]; unfold rJ; rw [if_neg (by rw [hdp']; exact hdp)]
    have hvia : ∀ y, y = min (d' i) (via v l t d' p i) → (y = FAR ∨ y ≤ B + 30) ∧ (i = p → y = d' p) := fun y hy => by
      have := hB' i hi
      unfold via at hy
      by_cases he : edg v l p i = true
      · rw [if_pos he, hdp'] at hy
        refine ⟨by rw [FAR_e] at *; omega, fun z => ?_⟩
        subst z
        simp [edg] at he
      · rw [if_neg he] at hy
        have h2 := Nat.le_trans (hd'.1 i hi).2 soo_le
        refine ⟨by omega, fun z => ?_⟩
        subst z; omega
    have key : ∀ m2, Uarr m m2 (fun q => q = c + 1) → (∀ x, x < 6 → m2.2.1 (c + 1) x = if x = i then rJ (min (d' i) (via v l t d' p i)) else m.2.1 (c + 1) x) → (J (i + 1) = J (i + 1) ∧ Uarr U m2 (fun q => q = c + 1) ∧ ∃ d', rnd v l t f k p (i + 1) d' ∧ (∀ x, x < 6 → m2.2.1 (c + 1) x = if x < (v 1 : Nat) then rJ (d' x) else NN) ∧ (∀ x, x < (v 1 : Nat) → d' x = FAR ∨ d' x ≤ B + 30) ∧ d' p = d p) := fun m2 hm2 hx2 => by
      obtain ⟨q1, q2⟩ := hvia _ rfl
      refine ⟨rfl, Uarr_t hm hm2, _, rnd_st hf hp hi hd' rfl, fun x hx => ?_, fun x hx => ?_, ?_⟩
      · rw [hx2 x hx]
        by_cases hxi : x = i
        · subst hxi; rw [if_pos rfl, if_pos rfl, if_pos hi]
        · rw [if_neg hxi, if_neg hxi]; exact hr' x hx
      · by_cases hxi : x = i
        · subst hxi; simp only [if_true]; exact q1
        · simp only [hxi, if_false]; exact hB' x hx
      · by_cases hpi : p = i
        · subst hpi
          simp only [if_true]
          rw [q2 rfl, hdp']
        · simp only [hpi, if_false]; exact hdp'
    have same : min (d' i) (via v l t d' p i) = d' i → ∀ x, x < 6 → m.2.1 (c + 1) x = if x = i then rJ (min (d' i) (via v l t d' p i)) else m.2.1 (c + 1) x := fun z x hx => by
      by_cases hxi : x = i
      · subst hxi; rw [if_pos rfl, z, hr' x hx, if_pos hi]
      · rw [if_neg hxi]
    have chg : min (d' i) (via v l t d' p i) = d' p + wgt v t p i → d' p + wgt v t p i ≠ FAR → ∀ x, x < 6 → (csA m (c + 1) (upd (m.2.1 (c + 1)) i (J (d' p + wgt v t p i)))).2.1 (c + 1) x = if x = i then rJ (min (d' i) (via v l t d' p i)) else m.2.1 (c + 1) x := fun z z2 x hx => by
      rw [csA_1]
      by_cases hxi : x = i
      · subst hxi; rw [upd_1, if_pos rfl, z]; unfold rJ; rw [if_neg z2]
      · rw [upd_o hxi, if_neg hxi]
    have hfar : d' p + wgt v t p i ≠ FAR := by rw [hdp', FAR_e]; omega
    unfold gX0_sayOn_l3
    simp only [C_rng hl]
    simp (disch := omega) only [wb1, wb2, wb3, wb4, wc1, wc2, zb1_ite, zb2_ite, zb3_ite, zb4_ite, zzc1_ite, zzc2_ite, J_lit, J_n1, J_n2, J_add, J_mul, J_lt, J_le, J_eq, J_eN, N_eJ, J_eN2, J_nn, J_lN, N_lJ, J_leN, N_leJ, NN_l0, NN_eN, bJ_0, bJ_1, bJ_ite, zbz_b, zbz_0, zbz_1, zag_J, zas_J, ite_true, ite_false, if_true, if_false, ite_self, reduceIte, not_true_eq_false, not_false_eq_true, J_o, Nat.reduceEqDiff, Nat.reduceAdd, Nat.reduceMul, Nat.reduceSub, Nat.reduceLT, Nat.reduceLeDiff, Nat.one_ne_zero, V_p hv, C_apart hv hV, ep]
    rw [if_neg (by omega)]
    have hto : (if t = 0 then J (dist (v (33 + p)) (v (33 + i))) else J 1 : Int32) = J (wgt v t p i) := by unfold wgt; split <;> rfl
    by_cases c1 : dist (v (33 + p)) (v (33 + i)) ≤ rng l
    · rw [if_pos c1]
      by_cases c2 : p = i
      · -- to oneself
        subst c2
        have z : min (d' p) (via v l t d' p p) = d' p := by
          have h2 := Nat.le_trans (hd'.1 p hp).2 soo_le
          unfold via; rw [if_neg (by simp [edg])]; omega
        have ed : dist (v (33 + p)) (v (33 + p)) = 0 := by unfold dist; omega
        refine ⟨J (p + 1), m, ?_, key m Uarr_r (same z)⟩
        have hlt : d' p < 1000000 := by rw [hdp']; omega
        by_cases c3 : t = 0
        · simp (disch := omega) only [wb1, wb2, wb3, wb4, wc1, wc2, zb1_ite, zb2_ite, zb3_ite, zb4_ite, zzc1_ite, zzc2_ite, J_lit, J_n1, J_n2, J_add, J_mul, J_lt, J_le, J_eq, J_eN, N_eJ, J_eN2, J_nn, J_lN, N_lJ, J_leN, N_leJ, NN_l0, NN_eN, bJ_0, bJ_1, bJ_ite, zbz_b, zbz_0, zbz_1, zag_J, zas_J, ite_true, ite_false, if_true, if_false, ite_self, reduceIte, not_true_eq_false, not_false_eq_true, J_o, Nat.reduceEqDiff, Nat.reduceAdd, Nat.reduceMul, Nat.reduceSub, Nat.reduceLT, Nat.reduceLeDiff, Nat.one_ne_zero, c3, ep, ed]
          simp
        · simp (disch := omega) only [wb1, wb2, wb3, wb4, wc1, wc2, zb1_ite, zb2_ite, zb3_ite, zb4_ite, zzc1_ite, zzc2_ite, J_lit, J_n1, J_n2, J_add, J_mul, J_lt, J_le, J_eq, J_eN, N_eJ, J_eN2, J_nn, J_lN, N_lJ, J_leN, N_leJ, NN_l0, NN_eN, bJ_0, bJ_1, bJ_ite, zbz_b, zbz_0, zbz_1, zag_J, zas_J, ite_true, ite_false, if_true, if_false, ite_self, reduceIte, not_true_eq_false, not_false_eq_true, J_o, Nat.reduceEqDiff, Nat.reduceAdd, Nat.reduceMul, Nat.reduceSub, Nat.reduceLT, Nat.reduceLeDiff, Nat.one_ne_zero, c3, ep, ed]
          simp
      · have hed : edg v l p i = true := by unfold edg; simp [c1, c2]
        have hvi : via v l t d' p i = d' p + wgt v t p i := by unfold via; rw [if_pos hed]
        have hlt : d' p + wgt v t p i < 1000000 := by rw [hdp']; omega
        have ei := hr' i (by omega)
        rw [if_pos hi] at ei
        by_cases c4 : d' i = FAR
        · have z : min (d' i) (via v l t d' p i) = d' p + wgt v t p i := by rw [hvi, c4, FAR_e]; omega
          refine ⟨J (i + 1), _, ?_, key _ (Uarr_A rfl) (chg z hfar)⟩
          unfold rJ at ei
          rw [if_pos c4] at ei
          by_cases c3 : t = 0
          · have hw2 : wgt v t p i = dist (v (33 + p)) (v (33 + i)) := by unfold wgt; rw [if_pos c3]
            simp (disch := omega) only [wb1, wb2, wb3, wb4, wc1, wc2, zb1_ite, zb2_ite, zb3_ite, zb4_ite, zzc1_ite, zzc2_ite, J_lit, J_n1, J_n2, J_add, J_mul, J_lt, J_le, J_eq, J_eN, N_eJ, J_eN2, J_nn, J_lN, N_lJ, J_leN, N_leJ, NN_l0, NN_eN, bJ_0, bJ_1, bJ_ite, zbz_b, zbz_0, zbz_1, zag_J, zas_J, ite_true, ite_false, if_true, if_false, ite_self, reduceIte, not_true_eq_false, not_false_eq_true, J_o, Nat.reduceEqDiff, Nat.reduceAdd, Nat.reduceMul, Nat.reduceSub, Nat.reduceLT, Nat.reduceLeDiff, Nat.one_ne_zero, eq_true c3, ei, hw2]
          · have hw2 : wgt v t p i = 1 := by unfold wgt; rw [if_neg c3]
            simp (disch := omega) only [wb1, wb2, wb3, wb4, wc1, wc2, zb1_ite, zb2_ite, zb3_ite, zb4_ite, zzc1_ite, zzc2_ite, J_lit, J_n1, J_n2, J_add, J_mul, J_lt, J_le, J_eq, J_eN, N_eJ, J_eN2, J_nn, J_lN, N_lJ, J_leN, N_leJ, NN_l0, NN_eN, bJ_0, bJ_1, bJ_ite, zbz_b, zbz_0, zbz_1, zag_J, zas_J, ite_true, ite_false, if_true, if_false, ite_self, reduceIte, not_true_eq_false, not_false_eq_true, J_o, Nat.reduceEqDiff, Nat.reduceAdd, Nat.reduceMul, Nat.reduceSub, Nat.reduceLT, Nat.reduceLeDiff, Nat.one_ne_zero, eq_false c3, ei, hw2]
        · unfold rJ at ei
          rw [if_neg c4] at ei
          have hdi := (hB' i hi).resolve_left c4
          by_cases c5 : d' i ≤ d' p + wgt v t p i
          · refine ⟨J (i + 1), m, ?_, key m Uarr_r (same (by rw [hvi]; omega))⟩
            by_cases c3 : t = 0
            · have hw2 : wgt v t p i = dist (v (33 + p)) (v (33 + i)) := by unfold wgt; rw [if_pos c3]
              rw [hw2] at c5 hlt
              simp (disch := omega) only [wb1, wb2, wb3, wb4, wc1, wc2, zb1_ite, zb2_ite, zb3_ite, zb4_ite, zzc1_ite, zzc2_ite, J_lit, J_n1, J_n2, J_add, J_mul, J_lt, J_le, J_eq, J_eN, N_eJ, J_eN2, J_nn, J_lN, N_lJ, J_leN, N_leJ, NN_l0, NN_eN, bJ_0, bJ_1, bJ_ite, zbz_b, zbz_0, zbz_1, zag_J, zas_J, ite_true, ite_false, if_true, if_false, ite_self, reduceIte, not_true_eq_false, not_false_eq_true, J_o, Nat.reduceEqDiff, Nat.reduceAdd, Nat.reduceMul, Nat.reduceSub, Nat.reduceLT, Nat.reduceLeDiff, Nat.one_ne_zero, eq_true c3, ei, eq_true c5]
            · have hw2 : wgt v t p i = 1 := by unfold wgt; rw [if_neg c3]
              rw [hw2] at c5 hlt
              simp (disch := omega) only [wb1, wb2, wb3, wb4, wc1, wc2, zb1_ite, zb2_ite, zb3_ite, zb4_ite, zzc1_ite, zzc2_ite, J_lit, J_n1, J_n2, J_add, J_mul, J_lt, J_le, J_eq, J_eN, N_eJ, J_eN2, J_nn, J_lN, N_lJ, J_leN, N_leJ, NN_l0, NN_eN, bJ_0, bJ_1, bJ_ite, zbz_b, zbz_0, zbz_1, zag_J, zas_J, ite_true, ite_false, if_true, if_false, ite_self, reduceIte, not_true_eq_false, not_false_eq_true, J_o, Nat.reduceEqDiff, Nat.reduceAdd, Nat.reduceMul, Nat.reduceSub, Nat.reduceLT, Nat.reduceLeDiff, Nat.one_ne_zero, eq_false c3, ei, eq_true c5]
          · refine ⟨J (i + 1), _, ?_, key _ (Uarr_A rfl) (chg (by rw [hvi]; omega) hfar)⟩
            by_cases c3 : t = 0
            · have hw2 : wgt v t p i = dist (v (33 + p)) (v (33 + i)) := by unfold wgt; rw [if_pos c3]
              rw [hw2] at c5 hlt ⊢
              simp (disch := omega) only [wb1, wb2, wb3, wb4, wc1, wc2, zb1_ite, zb2_ite, zb3_ite, zb4_ite, zzc1_ite, zzc2_ite, J_lit, J_n1, J_n2, J_add, J_mul, J_lt, J_le, J_eq, J_eN, N_eJ, J_eN2, J_nn, J_lN, N_lJ, J_leN, N_leJ, NN_l0, NN_eN, bJ_0, bJ_1, bJ_ite, zbz_b, zbz_0, zbz_1, zag_J, zas_J, ite_true, ite_false, if_true, if_false, ite_self, reduceIte, not_true_eq_false, not_false_eq_true, J_o, Nat.reduceEqDiff, Nat.reduceAdd, Nat.reduceMul, Nat.reduceSub, Nat.reduceLT, Nat.reduceLeDiff, Nat.one_ne_zero, eq_true c3, ei, eq_false c5]
            · have hw2 : wgt v t p i = 1 := by unfold wgt; rw [if_neg c3]
              rw [hw2] at c5 hlt ⊢
              simp (disch := omega) only [wb1, wb2, wb3, wb4, wc1, wc2, zb1_ite, zb2_ite, zb3_ite, zb4_ite, zzc1_ite, zzc2_ite, J_lit, J_n1, J_n2, J_add, J_mul, J_lt, J_le, J_eq, J_eN, N_eJ, J_eN2, J_nn, J_lN, N_lJ, J_leN, N_leJ, NN_l0, NN_eN, bJ_0, bJ_1, bJ_ite, zbz_b, zbz_0, zbz_1, zag_J, zas_J, ite_true, ite_false, if_true, if_false, ite_self, reduceIte, not_true_eq_false, not_false_eq_true, J_o, Nat.reduceEqDiff, Nat.reduceAdd, Nat.reduceMul, Nat.reduceSub, Nat.reduceLT, Nat.reduceLeDiff, Nat.one_ne_zero, eq_false c3, ei, eq_false c5]
    · rw [if_neg c1]
      have z : min (d' i) (via v l t d' p i) = d' i := by
        have h2 := Nat.le_trans (hd'.1 i hi).2 soo_le
        unfold via; rw [if_neg (by simp [edg, c1])]; omega
      exact ⟨J (i + 1), m, rfl, key m Uarr_r (same z)⟩) (by
    intro x m hP F
    obtain ⟨rfl, hm, d', hd', hr', hB', -⟩ := hP
    have hv := isVal_U hm hac h
    simp (disch := omega) only [gX0_sayOn_l3, wb1, wb2, wb3, wb4, wc1, wc2, zb1_ite, zb2_ite, zb3_ite, zb4_ite, zzc1_ite, zzc2_ite, J_lit, J_n1, J_n2, J_add, J_mul, J_lt, J_le, J_eq, J_eN, N_eJ, J_eN2, J_nn, J_lN, N_lJ, J_leN, N_leJ, NN_l0, NN_eN, bJ_0, bJ_1, bJ_ite, zbz_b, zbz_0, zbz_1, zag_J, zas_J, ite_true, ite_false, if_true, if_false, ite_self, reduceIte, not_true_eq_false, not_false_eq_true, J_o, Nat.reduceEqDiff, Nat.reduceAdd, Nat.reduceMul, Nat.reduceSub, Nat.reduceLT, Nat.reduceLeDiff, Nat.one_ne_zero, V_p hv]
    rw [if_pos (Nat.le_refl _)]
    exact ⟨m, rfl, hm, d', hd', hr', hB'⟩) (zfu_lt (n := (v 1 : Nat)) (by omega)) (x0 := J 0) (x1 := U) ⟨rfl, Uarr_r, d, hd, hr, fun x hx => by have := hB x hx; omega, rfl⟩
  exact ⟨U', congrArg (zb1 · fun x => some x) e1, hQ⟩
