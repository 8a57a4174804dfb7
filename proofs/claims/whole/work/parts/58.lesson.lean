/-! lessons -/
def LOK (l : zV) : Prop := (l 0 : Nat) ≤ 9 ∧ (l 1 : Nat) ≤ 10 ∧ ∀ k, k < (l 1 : Nat) → (l (2 + 2 * k) : Nat) < 8 ∧ (l (3 + 2 * k) : Nat) < 8
def isLe (U : zCS) (a : Nat) (l : zV) : Prop := U.1 a 0 = J (l 0) ∧ U.1 a 1 = J (l 1) ∧ ∀ k, k < (l 1 : Nat) → U.2.1 (a + 1) k = J (l (2 + 2 * k)) ∧ U.2.1 (a + 2) k = J (l (3 + 2 * k))
def isML (M : zMS) (l : zV) : Prop := ∃ s, s < 2 ∧ M.1 44 = J s ∧ ∀ k, k < 22 → M.2.2 8 (22 * s + k) = J (l k)
def cme (r w : Nat) : Nat := (r / 8 * w + r) % 8
theorem cme_lt {r w : Nat} : cme r w < 8 := Nat.mod_lt _ (by omega)
theorem C_cme : ∀ r, r < 64 → ∀ w, w < 8 → gX3_comes (J r) (J w) = some (J (cme r w)) := by decide +kernel
theorem R_cme : ∀ r, r < 64 → ∀ w, w < 8 → gX12_ruled (J r) (J w) = some (J (cme r w)) := by decide +kernel
theorem C_cme' {r w : Nat} (hr : r < 64) (hw : w < 8) : gX3_comes (J r) (J w) = some (J (cme r w)) := C_cme r hr w hw
theorem R_cme' {r w : Nat} (hr : r < 64) (hw : w < 8) : gX12_ruled (J r) (J w) = some (J (cme r w)) := R_cme r hr w hw
theorem R_le {M : zMS} {l : zV} (h : isML M l) {k : Nat} (hk : k < 22) : gX12_lessonOf M (J k) = some (J (l k)) := by
  obtain ⟨s, hs, h1, h2⟩ := h
  unfold gX12_lessonOf
  rw [h1]
  simp (disch := omega) only [wb1, wb2, wb3, wb4, wc1, wc2, zb1_ite, zb2_ite, zb3_ite, zb4_ite, zzc1_ite, zzc2_ite, J_lit, J_n1, J_n2, J_add, J_mul, J_lt, J_le, J_eq, J_eN, N_eJ, J_eN2, J_nn, J_lN, N_lJ, J_leN, N_leJ, NN_l0, NN_eN, bJ_0, bJ_1, bJ_ite, zbz_b, zbz_0, zbz_1, zag_J, zas_J, ite_true, ite_false, if_true, if_false, ite_self, reduceIte, not_true_eq_false, not_false_eq_true, J_o, Nat.reduceEqDiff, Nat.reduceAdd, Nat.reduceMul, Nat.reduceSub, Nat.reduceLT, Nat.reduceLeDiff, Nat.one_ne_zero]
  rw [h2 k hk]
theorem isML_A {M : zMS} {l : zV} {k : Nat} {g : Nat → Int32} (hk : k ≠ 8) (h : isML M l) : isML (zsA M k g) l := by
  obtain ⟨s, h1, h2, h3⟩ := h
  exact ⟨s, h1, h2, by simpa [zsA, hk.symm] using h3⟩
theorem L_0 {U : zCS} {a : Nat} {l : zV} (h : isLe U a l) : U.1 a 0 = J (l 0) := h.1
theorem L_1 {U : zCS} {a : Nat} {l : zV} (h : isLe U a l) : U.1 a 1 = J (l 1) := h.2.1
theorem L_s {U : zCS} {a : Nat} {l : zV} (h : isLe U a l) {k : Nat} (hk : k < (l 1 : Nat)) : U.2.1 (a + 1) k = J (l (2 + 2 * k)) := (h.2.2 k hk).1
theorem L_c {U : zCS} {a : Nat} {l : zV} (h : isLe U a l) {k : Nat} (hk : k < (l 1 : Nat)) : U.2.1 (a + 2) k = J (l (3 + 2 * k)) := (h.2.2 k hk).2
def mis (l : zV) (r : Nat) : Nat := cnt (fun k => decide (cme r (l (2 + 2 * k)) ≠ (l (3 + 2 * k) : Nat))) (l 1)
def fit (l : zV) (r : Nat) : Bool := decide (mis l r ≤ (l 0 : Nat))
theorem mis_le {l : zV} (hL : LOK l) {r : Nat} : mis l r ≤ 10 := Nat.le_trans (cnt_le _) hL.2.1
theorem C_misses {U : zCS} {a : Nat} {l : zV} (h : isLe U a l) (hL : LOK l) {r : Nat} (hr : r < 64) : gX3_misses U a (J r) = some (J (mis l r)) := by
  have hp := hL.2.1
  unfold gX3_misses
  have hze := zf2_run (f := gX3_misses_l4 U a (J r)) (r := some (J (mis l r))) (l 1) (fun i => J (cnt (fun k => decide (cme r (l (2 + 2 * k)) ≠ (l (3 + 2 * k) : Nat))) i)) J (by
    intro i hi F
    have h1 := hL.2.2 i hi
    have h2 := @cme_lt r (l (2 + 2 * i))
    rw [cnt_s]
    simp (disch := omega) only [gX3_misses_l4, wb1, wb2, wb3, wb4, wc1, wc2, zb1_ite, zb2_ite, zb3_ite, zb4_ite, zzc1_ite, zzc2_ite, J_lit, J_n1, J_n2, J_add, J_mul, J_lt, J_le, J_eq, J_eN, N_eJ, J_eN2, J_nn, J_lN, N_lJ, J_leN, N_leJ, NN_l0, NN_eN, bJ_0, bJ_1, bJ_ite, zbz_b, zbz_0, zbz_1, zag_J, zas_J, ite_true, ite_false, if_true, if_false, ite_self, reduceIte, not_true_eq_false, not_false_eq_true, J_o, Nat.reduceEqDiff, Nat.reduceAdd, Nat.reduceMul, Nat.reduceSub, Nat.reduceLT, Nat.reduceLeDiff, Nat.one_ne_zero, L_1 h, L_s h, L_c h, C_cme']
    rw [if_neg (by omega)]
    by_cases hq : cme r (l (2 + 2 * i)) = (l (3 + 2 * i) : Nat)
    · simp [hq]
    · simp [hq]) (by
    intro F
    simp (disch := omega) only [gX3_misses_l4, wb1, wb2, wb3, wb4, wc1, wc2, zb1_ite, zb2_ite, zb3_ite, zb4_ite, zzc1_ite, zzc2_ite, J_lit, J_n1, J_n2, J_add, J_mul, J_lt, J_le, J_eq, J_eN, N_eJ, J_eN2, J_nn, J_lN, N_lJ, J_leN, N_leJ, NN_l0, NN_eN, bJ_0, bJ_1, bJ_ite, zbz_b, zbz_0, zbz_1, zag_J, zas_J, ite_true, ite_false, if_true, if_false, ite_self, reduceIte, not_true_eq_false, not_false_eq_true, J_o, Nat.reduceEqDiff, Nat.reduceAdd, Nat.reduceMul, Nat.reduceSub, Nat.reduceLT, Nat.reduceLeDiff, Nat.one_ne_zero, L_1 h]
    simp [mis]) (zfu_lt (by omega))
  exact (congrArg (zb1 · fun x => some x) hze)
theorem R_wrongs {M : zMS} {l : zV} (h : isML M l) (hL : LOK l) {r : Nat} (hr : r < 64) : gX12_wrongs M (J r) = some (J (mis l r)) := by
  have hp := hL.2.1
  unfold gX12_wrongs
  have hze := zf2_run (f := gX12_wrongs_l4 M (J r)) (r := some (J (mis l r))) (l 1) (fun i => J (cnt (fun k => decide (cme r (l (2 + 2 * k)) ≠ (l (3 + 2 * k) : Nat))) i)) J (by
    intro i hi F
    have h1 := hL.2.2 i hi
    have h2 := @cme_lt r (l (2 + 2 * i))
    rw [cnt_s]
    simp (disch := omega) only [gX12_wrongs_l4, wb1, wb2, wb3, wb4, wc1, wc2, zb1_ite, zb2_ite, zb3_ite, zb4_ite, zzc1_ite, zzc2_ite, J_lit, J_n1, J_n2, J_add, J_mul, J_lt, J_le, J_eq, J_eN, N_eJ, J_eN2, J_nn, J_lN, N_lJ, J_leN, N_leJ, NN_l0, NN_eN, bJ_0, bJ_1, bJ_ite, zbz_b, zbz_0, zbz_1, zag_J, zas_J, ite_true, ite_false, if_true, if_false, ite_self, reduceIte, not_true_eq_false, not_false_eq_true, J_o, Nat.reduceEqDiff, Nat.reduceAdd, Nat.reduceMul, Nat.reduceSub, Nat.reduceLT, Nat.reduceLeDiff, Nat.one_ne_zero, R_le h, R_cme']
    rw [if_neg (by omega)]
    by_cases hq : cme r (l (2 + 2 * i)) = (l (3 + 2 * i) : Nat)
    · simp [hq]
    · simp [hq]) (by
    intro F
    simp (disch := omega) only [gX12_wrongs_l4, wb1, wb2, wb3, wb4, wc1, wc2, zb1_ite, zb2_ite, zb3_ite, zb4_ite, zzc1_ite, zzc2_ite, J_lit, J_n1, J_n2, J_add, J_mul, J_lt, J_le, J_eq, J_eN, N_eJ, J_eN2, J_nn, J_lN, N_lJ, J_leN, N_leJ, NN_l0, NN_eN, bJ_0, bJ_1, bJ_ite, zbz_b, zbz_0, zbz_1, zag_J, zas_J, ite_true, ite_false, if_true, if_false, ite_self, reduceIte, not_true_eq_false, not_false_eq_true, J_o, Nat.reduceEqDiff, Nat.reduceAdd, Nat.reduceMul, Nat.reduceSub, Nat.reduceLT, Nat.reduceLeDiff, Nat.one_ne_zero, R_le h]
    simp [mis]) (zfu_lt (by omega))
  exact (congrArg (zb1 · fun x => some x) hze)
theorem R_fits {M : zMS} {l : zV} (h : isML M l) (hL : LOK l) {r : Nat} (hr : r < 64) : gX12_fits M (J r) = some (bJ (fit l r)) := by
  have hm := mis_le hL (r := r)
  unfold gX12_fits fit
  simp (disch := omega) only [wb1, wb2, wb3, wb4, wc1, wc2, zb1_ite, zb2_ite, zb3_ite, zb4_ite, zzc1_ite, zzc2_ite, J_lit, J_n1, J_n2, J_add, J_mul, J_lt, J_le, J_eq, J_eN, N_eJ, J_eN2, J_nn, J_lN, N_lJ, J_leN, N_leJ, NN_l0, NN_eN, bJ_0, bJ_1, bJ_ite, zbz_b, zbz_0, zbz_1, zag_J, zas_J, ite_true, ite_false, if_true, if_false, ite_self, reduceIte, not_true_eq_false, not_false_eq_true, J_o, Nat.reduceEqDiff, Nat.reduceAdd, Nat.reduceMul, Nat.reduceSub, Nat.reduceLT, Nat.reduceLeDiff, Nat.one_ne_zero, R_wrongs h hL, R_le h]
  by_cases hq : mis l r ≤ (l 0 : Nat)
  · simp [hq, Nat.not_lt.mpr hq, bJ]
  · simp [hq, Nat.not_le.mp hq, bJ]
theorem C_fits {U : zCS} {a : Nat} {l : zV} (h : isLe U a l) (hL : LOK l) : gX3_fits U a = some (J (cnt (fit l) 64)) := by
  unfold gX3_fits
  have hze := zf2_run (f := gX3_fits_l4 U a) (r := some (J (cnt (fit l) 64))) 64 (fun i => J (cnt (fit l) i)) J (by
    intro i hi F
    have hm := mis_le hL (r := i)
    rw [cnt_s]
    simp (disch := omega) only [gX3_fits_l4, wb1, wb2, wb3, wb4, wc1, wc2, zb1_ite, zb2_ite, zb3_ite, zb4_ite, zzc1_ite, zzc2_ite, J_lit, J_n1, J_n2, J_add, J_mul, J_lt, J_le, J_eq, J_eN, N_eJ, J_eN2, J_nn, J_lN, N_lJ, J_leN, N_leJ, NN_l0, NN_eN, bJ_0, bJ_1, bJ_ite, zbz_b, zbz_0, zbz_1, zag_J, zas_J, ite_true, ite_false, if_true, if_false, ite_self, reduceIte, not_true_eq_false, not_false_eq_true, J_o, Nat.reduceEqDiff, Nat.reduceAdd, Nat.reduceMul, Nat.reduceSub, Nat.reduceLT, Nat.reduceLeDiff, Nat.one_ne_zero, C_misses h hL, L_0 h]
    rw [if_neg (by omega)]
    unfold fit
    by_cases hq : mis l i ≤ (l 0 : Nat)
    · simp [hq, Nat.not_lt.mpr hq]
    · simp [hq, Nat.not_le.mp hq]) (by
    intro F
    simp (disch := omega) only [gX3_fits_l4, wb1, wb2, wb3, wb4, wc1, wc2, zb1_ite, zb2_ite, zb3_ite, zb4_ite, zzc1_ite, zzc2_ite, J_lit, J_n1, J_n2, J_add, J_mul, J_lt, J_le, J_eq, J_eN, N_eJ, J_eN2, J_nn, J_lN, N_lJ, J_leN, N_leJ, NN_l0, NN_eN, bJ_0, bJ_1, bJ_ite, zbz_b, zbz_0, zbz_1, zag_J, zas_J, ite_true, ite_false, if_true, if_false, ite_self, reduceIte, not_true_eq_false, not_false_eq_true, J_o, Nat.reduceEqDiff, Nat.reduceAdd, Nat.reduceMul, Nat.reduceSub, Nat.reduceLT, Nat.reduceLeDiff, Nat.one_ne_zero]) (zfu_lt (by omega))
  exact (congrArg (zb1 · fun x => some x) hze)
theorem C_bestRule {U : zCS} {a : Nat} {l : zV} (h : isLe U a l) (hL : LOK l) : gX3_bestRule U a = some (J (amin (mis l) 63)) := by
  unfold gX3_bestRule
  have hze := zf2_run (f := gX3_bestRule_l4 U a) (r := some (J (amin (mis l) 63))) 63 (fun i => J (amin (mis l) i)) (fun i => J (i + 1)) (by
    intro i hi F
    have h1 := amin_le (f := mis l) i
    have h2 := mis_le hL (r := i + 1)
    have h3 := mis_le hL (r := amin (mis l) i)
    simp (disch := omega) only [gX3_bestRule_l4, wb1, wb2, wb3, wb4, wc1, wc2, zb1_ite, zb2_ite, zb3_ite, zb4_ite, zzc1_ite, zzc2_ite, J_lit, J_n1, J_n2, J_add, J_mul, J_lt, J_le, J_eq, J_eN, N_eJ, J_eN2, J_nn, J_lN, N_lJ, J_leN, N_leJ, NN_l0, NN_eN, bJ_0, bJ_1, bJ_ite, zbz_b, zbz_0, zbz_1, zag_J, zas_J, ite_true, ite_false, if_true, if_false, ite_self, reduceIte, not_true_eq_false, not_false_eq_true, J_o, Nat.reduceEqDiff, Nat.reduceAdd, Nat.reduceMul, Nat.reduceSub, Nat.reduceLT, Nat.reduceLeDiff, Nat.one_ne_zero, C_misses h hL, amin]
    rw [if_neg (by omega)]
    by_cases hq : mis l (i + 1) < mis l (amin (mis l) i)
    · simp [hq, Nat.not_le.mpr hq]
    · simp [hq, Nat.not_lt.mp hq]) (by
    intro F
    simp (disch := omega) only [gX3_bestRule_l4, wb1, wb2, wb3, wb4, wc1, wc2, zb1_ite, zb2_ite, zb3_ite, zb4_ite, zzc1_ite, zzc2_ite, J_lit, J_n1, J_n2, J_add, J_mul, J_lt, J_le, J_eq, J_eN, N_eJ, J_eN2, J_nn, J_lN, N_lJ, J_leN, N_leJ, NN_l0, NN_eN, bJ_0, bJ_1, bJ_ite, zbz_b, zbz_0, zbz_1, zag_J, zas_J, ite_true, ite_false, if_true, if_false, ite_self, reduceIte, not_true_eq_false, not_false_eq_true, J_o, Nat.reduceEqDiff, Nat.reduceAdd, Nat.reduceMul, Nat.reduceSub, Nat.reduceLT, Nat.reduceLeDiff, Nat.one_ne_zero]) (zfu_lt (by omega))
  exact (congrArg (zb1 · fun x => some x) hze)
theorem R_rules_l {M : zMS} {l : zV} (h : isML M l) (hL : LOK l) : zf3 (gX12_rules_l44 M) zfu (J 0) (J 0) (J 0) = some (J (cnt (fit l) 64), J (amin (mis l) 63)) := by
  exact zf3_run (f := gX12_rules_l44 M) 64 (fun i => J (cnt (fit l) i)) (fun i => J (amin (mis l) (i - 1))) J (by
    intro i hi F
    have h1 := amin_le (f := mis l) (i - 1)
    have h2 := mis_le hL (r := i)
    have h3 := mis_le hL (r := amin (mis l) (i - 1))
    rw [cnt_s, Nat.add_sub_cancel]
    simp (disch := omega) only [gX12_rules_l44, wb1, wb2, wb3, wb4, wc1, wc2, zb1_ite, zb2_ite, zb3_ite, zb4_ite, zzc1_ite, zzc2_ite, J_lit, J_n1, J_n2, J_add, J_mul, J_lt, J_le, J_eq, J_eN, N_eJ, J_eN2, J_nn, J_lN, N_lJ, J_leN, N_leJ, NN_l0, NN_eN, bJ_0, bJ_1, bJ_ite, zbz_b, zbz_0, zbz_1, zag_J, zas_J, ite_true, ite_false, if_true, if_false, ite_self, reduceIte, not_true_eq_false, not_false_eq_true, J_o, Nat.reduceEqDiff, Nat.reduceAdd, Nat.reduceMul, Nat.reduceSub, Nat.reduceLT, Nat.reduceLeDiff, Nat.one_ne_zero, R_fits h hL, R_wrongs h hL]
    rw [if_neg (by omega)]
    have hb : amin (mis l) i = if mis l (amin (mis l) (i - 1)) ≤ mis l i then amin (mis l) (i - 1) else i := by
      cases i with
      | zero => simp [amin]
      | succ k =>
        rw [Nat.add_sub_cancel]
        show (if mis l (k + 1) < mis l (amin (mis l) k) then k + 1 else amin (mis l) k) = _
        by_cases hq : mis l (k + 1) < mis l (amin (mis l) k)
        · rw [if_pos hq, if_neg (by omega)]
        · rw [if_neg hq, if_pos (by omega)]
    rw [hb]
    cases fit l i <;> by_cases hq : mis l (amin (mis l) (i - 1)) ≤ mis l i <;> simp [hq]) (by
    intro F
    simp (disch := omega) only [gX12_rules_l44, wb1, wb2, wb3, wb4, wc1, wc2, zb1_ite, zb2_ite, zb3_ite, zb4_ite, zzc1_ite, zzc2_ite, J_lit, J_n1, J_n2, J_add, J_mul, J_lt, J_le, J_eq, J_eN, N_eJ, J_eN2, J_nn, J_lN, N_lJ, J_leN, N_leJ, NN_l0, NN_eN, bJ_0, bJ_1, bJ_ite, zbz_b, zbz_0, zbz_1, zag_J, zas_J, ite_true, ite_false, if_true, if_false, ite_self, reduceIte, not_true_eq_false, not_false_eq_true, J_o, Nat.reduceEqDiff, Nat.reduceAdd, Nat.reduceMul, Nat.reduceSub, Nat.reduceLT, Nat.reduceLeDiff, Nat.one_ne_zero]) (zfu_lt (by omega))
/-! what is left of the rules -/
def grp (l : zV) (w a : Nat) : Nat := cnt (fun r => decide (cme r w = a) && fit l r) 64
def mxg (l : zV) (w : Nat) : Nat → Nat := itr (fun a x => max x (grp l w a)) 0
theorem grp_le {l : zV} {w a : Nat} : grp l w a ≤ 64 := cnt_le _
theorem mxg_le {l : zV} {w : Nat} (n : Nat) : mxg l w n ≤ 64 := itr_i (P := fun _ x => x ≤ 64) (by omega) (fun i x hx => by have := @grp_le l w i; omega) n
theorem C_left {U : zCS} {a : Nat} {l : zV} (h : isLe U a l) (hL : LOK l) {w x : Nat} (hw : w < 8) (hx : x < 8) : gX3_left U a (J w) (J x) = some (J (grp l w x)) := by
  unfold gX3_left
  have hze := zf2_run (f := gX3_left_l5 (J w) (J x) U a) (r := some (J (grp l w x))) 64 (fun i => J (cnt (fun r => decide (cme r w = x) && fit l r) i)) J (by
    intro i hi F
    have hm := mis_le hL (r := i)
    have hc := @cme_lt i w
    rw [cnt_s]
    simp (disch := omega) only [gX3_left_l5, wb1, wb2, wb3, wb4, wc1, wc2, zb1_ite, zb2_ite, zb3_ite, zb4_ite, zzc1_ite, zzc2_ite, J_lit, J_n1, J_n2, J_add, J_mul, J_lt, J_le, J_eq, J_eN, N_eJ, J_eN2, J_nn, J_lN, N_lJ, J_leN, N_leJ, NN_l0, NN_eN, bJ_0, bJ_1, bJ_ite, zbz_b, zbz_0, zbz_1, zag_J, zas_J, ite_true, ite_false, if_true, if_false, ite_self, reduceIte, not_true_eq_false, not_false_eq_true, J_o, Nat.reduceEqDiff, Nat.reduceAdd, Nat.reduceMul, Nat.reduceSub, Nat.reduceLT, Nat.reduceLeDiff, Nat.one_ne_zero, C_cme', C_misses h hL, L_0 h]
    rw [if_neg (by omega)]
    unfold fit
    by_cases hq : mis l i ≤ (l 0 : Nat)
    · by_cases hr : cme i w = x
      · simp [hq, hr, Nat.not_lt.mpr hq]
      · simp [hr]
    · by_cases hr : cme i w = x
      · simp [hq, hr, Nat.not_le.mp hq]
      · simp [hr]) (by
    intro F
    simp (disch := omega) only [gX3_left_l5, wb1, wb2, wb3, wb4, wc1, wc2, zb1_ite, zb2_ite, zb3_ite, zb4_ite, zzc1_ite, zzc2_ite, J_lit, J_n1, J_n2, J_add, J_mul, J_lt, J_le, J_eq, J_eN, N_eJ, J_eN2, J_nn, J_lN, N_lJ, J_leN, N_leJ, NN_l0, NN_eN, bJ_0, bJ_1, bJ_ite, zbz_b, zbz_0, zbz_1, zag_J, zas_J, ite_true, ite_false, if_true, if_false, ite_self, reduceIte, not_true_eq_false, not_false_eq_true, J_o, Nat.reduceEqDiff, Nat.reduceAdd, Nat.reduceMul, Nat.reduceSub, Nat.reduceLT, Nat.reduceLeDiff, Nat.one_ne_zero]
    rfl) (zfu_lt (by omega))
  exact (congrArg (zb1 · fun x => some x) hze)
theorem C_mostLeft {U : zCS} {a : Nat} {l : zV} (h : isLe U a l) (hL : LOK l) {w : Nat} (hw : w < 8) : gX3_mostLeft U a (J w) = some (J (mxg l w 8)) := by
  unfold gX3_mostLeft
  have hze := zf2_run (f := gX3_mostLeft_l4 U a (J w)) (r := some (J (mxg l w 8))) 8 (fun i => J (mxg l w i)) J (by
    intro i hi F
    have h1 := mxg_le (l := l) (w := w) i
    have h2 := @grp_le l w i
    simp (disch := omega) only [gX3_mostLeft_l4, wb1, wb2, wb3, wb4, wc1, wc2, zb1_ite, zb2_ite, zb3_ite, zb4_ite, zzc1_ite, zzc2_ite, J_lit, J_n1, J_n2, J_add, J_mul, J_lt, J_le, J_eq, J_eN, N_eJ, J_eN2, J_nn, J_lN, N_lJ, J_leN, N_leJ, NN_l0, NN_eN, bJ_0, bJ_1, bJ_ite, zbz_b, zbz_0, zbz_1, zag_J, zas_J, ite_true, ite_false, if_true, if_false, ite_self, reduceIte, not_true_eq_false, not_false_eq_true, J_o, Nat.reduceEqDiff, Nat.reduceAdd, Nat.reduceMul, Nat.reduceSub, Nat.reduceLT, Nat.reduceLeDiff, Nat.one_ne_zero, C_left h hL, max_ite]
    rw [if_neg (by omega)]
    rfl) (by
    intro F
    simp (disch := omega) only [gX3_mostLeft_l4, wb1, wb2, wb3, wb4, wc1, wc2, zb1_ite, zb2_ite, zb3_ite, zb4_ite, zzc1_ite, zzc2_ite, J_lit, J_n1, J_n2, J_add, J_mul, J_lt, J_le, J_eq, J_eN, N_eJ, J_eN2, J_nn, J_lN, N_lJ, J_leN, N_leJ, NN_l0, NN_eN, bJ_0, bJ_1, bJ_ite, zbz_b, zbz_0, zbz_1, zag_J, zas_J, ite_true, ite_false, if_true, if_false, ite_self, reduceIte, not_true_eq_false, not_false_eq_true, J_o, Nat.reduceEqDiff, Nat.reduceAdd, Nat.reduceMul, Nat.reduceSub, Nat.reduceLT, Nat.reduceLeDiff, Nat.one_ne_zero]) (zfu_lt (by omega))
  exact (congrArg (zb1 · fun x => some x) hze)
theorem C_wordToCall {U : zCS} {a : Nat} {l : zV} (h : isLe U a l) (hL : LOK l) : gX3_wordToCall U a = some (oJ (if cnt (fit l) 64 = 0 then none else some (amin (fun w => mxg l w 8) 7))) := by
  have hc := cnt_le (p := fit l) 64
  unfold gX3_wordToCall
  by_cases h0 : cnt (fit l) 64 = 0
  · rw [if_pos h0]
    have hze := zf3_run (f := gX3_wordToCall_l7 U a) (r := some NN) 0 (fun _ => NN) (fun _ => J 65) J (by intro i hi; omega) (by
      intro F
      simp (disch := omega) only [gX3_wordToCall_l7, wb1, wb2, wb3, wb4, wc1, wc2, zb1_ite, zb2_ite, zb3_ite, zb4_ite, zzc1_ite, zzc2_ite, J_lit, J_n1, J_n2, J_add, J_mul, J_lt, J_le, J_eq, J_eN, N_eJ, J_eN2, J_nn, J_lN, N_lJ, J_leN, N_leJ, NN_l0, NN_eN, bJ_0, bJ_1, bJ_ite, zbz_b, zbz_0, zbz_1, zag_J, zas_J, ite_true, ite_false, if_true, if_false, ite_self, reduceIte, not_true_eq_false, not_false_eq_true, J_o, Nat.reduceEqDiff, Nat.reduceAdd, Nat.reduceMul, Nat.reduceSub, Nat.reduceLT, Nat.reduceLeDiff, Nat.one_ne_zero, C_fits h hL]
      simp [h0]) (zfu_lt (by omega))
    exact (congrArg (zb1 · fun x => some x) hze)
  · rw [if_neg h0]
    have hze := zf3_run (f := gX3_wordToCall_l7 U a) (r := some (J (amin (fun w => mxg l w 8) 7))) 8 (fun i => if i = 0 then NN else J (amin (fun w => mxg l w 8) (i - 1))) (fun i => if i = 0 then J 65 else J (mxg l (amin (fun w => mxg l w 8) (i - 1)) 8)) J (by
      intro i hi F
      have h1 := mxg_le (l := l) (w := i) 8
      have h2 := mxg_le (l := l) (w := amin (fun w => mxg l w 8) (i - 1)) 8
      rw [if_neg (Nat.succ_ne_zero i), if_neg (Nat.succ_ne_zero i), Nat.add_sub_cancel]
      cases i with
      | zero =>
        rw [if_pos rfl, if_pos rfl]
        simp (disch := omega) only [gX3_wordToCall_l7, wb1, wb2, wb3, wb4, wc1, wc2, zb1_ite, zb2_ite, zb3_ite, zb4_ite, zzc1_ite, zzc2_ite, J_lit, J_n1, J_n2, J_add, J_mul, J_lt, J_le, J_eq, J_eN, N_eJ, J_eN2, J_nn, J_lN, N_lJ, J_leN, N_leJ, NN_l0, NN_eN, bJ_0, bJ_1, bJ_ite, zbz_b, zbz_0, zbz_1, zag_J, zas_J, ite_true, ite_false, if_true, if_false, ite_self, reduceIte, not_true_eq_false, not_false_eq_true, J_o, Nat.reduceEqDiff, Nat.reduceAdd, Nat.reduceMul, Nat.reduceSub, Nat.reduceLT, Nat.reduceLeDiff, Nat.one_ne_zero, C_fits h hL, C_mostLeft h hL]
        rw [if_neg (by omega), if_neg (by omega)]
        simp [amin]
      | succ k =>
        rw [if_neg (Nat.succ_ne_zero k), if_neg (Nat.succ_ne_zero k)]
        simp only [Nat.add_sub_cancel] at h2 ⊢
        simp (disch := omega) only [gX3_wordToCall_l7, wb1, wb2, wb3, wb4, wc1, wc2, zb1_ite, zb2_ite, zb3_ite, zb4_ite, zzc1_ite, zzc2_ite, J_lit, J_n1, J_n2, J_add, J_mul, J_lt, J_le, J_eq, J_eN, N_eJ, J_eN2, J_nn, J_lN, N_lJ, J_leN, N_leJ, NN_l0, NN_eN, bJ_0, bJ_1, bJ_ite, zbz_b, zbz_0, zbz_1, zag_J, zas_J, ite_true, ite_false, if_true, if_false, ite_self, reduceIte, not_true_eq_false, not_false_eq_true, J_o, Nat.reduceEqDiff, Nat.reduceAdd, Nat.reduceMul, Nat.reduceSub, Nat.reduceLT, Nat.reduceLeDiff, Nat.one_ne_zero, C_fits h hL, C_mostLeft h hL, amin]
        rw [if_neg (by omega), if_neg (by omega)]
        by_cases hq : mxg l (k + 1) 8 < mxg l (amin (fun w => mxg l w 8) k) 8
        · simp [hq, Nat.not_le.mpr hq]
        · simp [hq, Nat.not_lt.mp hq]) (by
      intro F
      simp (disch := omega) only [gX3_wordToCall_l7, wb1, wb2, wb3, wb4, wc1, wc2, zb1_ite, zb2_ite, zb3_ite, zb4_ite, zzc1_ite, zzc2_ite, J_lit, J_n1, J_n2, J_add, J_mul, J_lt, J_le, J_eq, J_eN, N_eJ, J_eN2, J_nn, J_lN, N_lJ, J_leN, N_leJ, NN_l0, NN_eN, bJ_0, bJ_1, bJ_ite, zbz_b, zbz_0, zbz_1, zag_J, zas_J, ite_true, ite_false, if_true, if_false, ite_self, reduceIte, not_true_eq_false, not_false_eq_true, J_o, Nat.reduceEqDiff, Nat.reduceAdd, Nat.reduceMul, Nat.reduceSub, Nat.reduceLT, Nat.reduceLeDiff, Nat.one_ne_zero]) (zfu_lt (by omega))
    exact (congrArg (zb1 · fun x => some x) hze)
theorem R_findGroups {M : zMS} {l : zV} (h : isML M l) (hL : LOK l) {w : Nat} (hw : w < 8) : ∃ M', gX12_findGroups M (J w) = some M' ∧ isML M' l ∧ Msame M M' ∧ ∀ a, a < 8 → M'.2.2 45 a = J (grp l w a) := by
  unfold gX12_findGroups
  obtain ⟨m1, hr1, hm1, hs1, hz1⟩ := zf2_inv (f := gX12_findGroups_l2) 8 (fun i x m => x = J i ∧ isML m l ∧ Msame M m ∧ ∀ a, a < i → m.2.2 45 a = J 0) (fun m => isML m l ∧ Msame M m ∧ ∀ a, a < 8 → m.2.2 45 a = J 0) (by
    intro i x m hi hP F
    obtain ⟨rfl, hm, hs, hz⟩ := hP
    simp (disch := omega) only [gX12_findGroups_l2, wb1, wb2, wb3, wb4, wc1, wc2, zb1_ite, zb2_ite, zb3_ite, zb4_ite, zzc1_ite, zzc2_ite, J_lit, J_n1, J_n2, J_add, J_mul, J_lt, J_le, J_eq, J_eN, N_eJ, J_eN2, J_nn, J_lN, N_lJ, J_leN, N_leJ, NN_l0, NN_eN, bJ_0, bJ_1, bJ_ite, zbz_b, zbz_0, zbz_1, zag_J, zas_J, ite_true, ite_false, if_true, if_false, ite_self, reduceIte, not_true_eq_false, not_false_eq_true, J_o, Nat.reduceEqDiff, Nat.reduceAdd, Nat.reduceMul, Nat.reduceSub, Nat.reduceLT, Nat.reduceLeDiff, Nat.one_ne_zero]
    rw [if_neg (by omega)]
    refine ⟨_, _, rfl, rfl, isML_A (by omega) hm, Msame_t hs (Msame_A (by omega)), fun a ha => ?_⟩
    rw [zsA_1]
    by_cases hai : a = i
    · subst hai; exact upd_1
    · rw [upd_o hai]; exact hz a (by omega)) (by
    intro x m hP F
    obtain ⟨rfl, hm, hs, hz⟩ := hP
    simp (disch := omega) only [gX12_findGroups_l2, wb1, wb2, wb3, wb4, wc1, wc2, zb1_ite, zb2_ite, zb3_ite, zb4_ite, zzc1_ite, zzc2_ite, J_lit, J_n1, J_n2, J_add, J_mul, J_lt, J_le, J_eq, J_eN, N_eJ, J_eN2, J_nn, J_lN, N_lJ, J_leN, N_leJ, NN_l0, NN_eN, bJ_0, bJ_1, bJ_ite, zbz_b, zbz_0, zbz_1, zag_J, zas_J, ite_true, ite_false, if_true, if_false, ite_self, reduceIte, not_true_eq_false, not_false_eq_true, J_o, Nat.reduceEqDiff, Nat.reduceAdd, Nat.reduceMul, Nat.reduceSub, Nat.reduceLT, Nat.reduceLeDiff, Nat.one_ne_zero]
    exact ⟨m, rfl, hm, hs, hz⟩) (zfu_lt (n := 8) (by omega)) (x0 := J 0) (x1 := M) ⟨rfl, h, Msame_r, fun a ha => by omega⟩
  obtain ⟨m2, hr2, hm2, hs2, hz2⟩ := zf2_inv (f := gX12_findGroups_l23 (J w)) 64 (fun i x m => x = J i ∧ isML m l ∧ Msame M m ∧ ∀ a, a < 8 → m.2.2 45 a = J (cnt (fun r => decide (cme r w = a) && fit l r) i)) (fun m => isML m l ∧ Msame M m ∧ ∀ a, a < 8 → m.2.2 45 a = J (grp l w a)) (by
    intro i x m hi hP F
    obtain ⟨rfl, hm, hs, hz⟩ := hP
    have hc := @cme_lt i w
    simp (disch := omega) only [gX12_findGroups_l23, wb1, wb2, wb3, wb4, wc1, wc2, zb1_ite, zb2_ite, zb3_ite, zb4_ite, zzc1_ite, zzc2_ite, J_lit, J_n1, J_n2, J_add, J_mul, J_lt, J_le, J_eq, J_eN, N_eJ, J_eN2, J_nn, J_lN, N_lJ, J_leN, N_leJ, NN_l0, NN_eN, bJ_0, bJ_1, bJ_ite, zbz_b, zbz_0, zbz_1, zag_J, zas_J, ite_true, ite_false, if_true, if_false, ite_self, reduceIte, not_true_eq_false, not_false_eq_true, J_o, Nat.reduceEqDiff, Nat.reduceAdd, Nat.reduceMul, Nat.reduceSub, Nat.reduceLT, Nat.reduceLeDiff, Nat.one_ne_zero, R_cme', R_fits hm hL, hz (cme i w) hc]
    rw [if_neg (by omega)]
    cases hf : fit l i
    · refine ⟨_, _, by rw [if_pos rfl], rfl, isML_A (by omega) hm, Msame_t hs (Msame_A (by omega)), fun a ha => ?_⟩
      rw [zsA_1, cnt_s]
      by_cases hai : a = cme i w
      · subst hai; rw [upd_1, hf]; simp
      · rw [upd_o hai, hz a ha, hf]; simp
    · refine ⟨_, _, by rw [if_neg (by decide)], rfl, isML_A (by omega) hm, Msame_t hs (Msame_A (by omega)), fun a ha => ?_⟩
      rw [zsA_1, cnt_s]
      by_cases hai : a = cme i w
      · subst hai; rw [upd_1, hf]; simp
      · rw [upd_o hai, hz a ha, hf]; simp [show ¬ cme i w = a from fun z => hai z.symm]) (by
    intro x m hP F
    obtain ⟨rfl, hm, hs, hz⟩ := hP
    simp (disch := omega) only [gX12_findGroups_l23, wb1, wb2, wb3, wb4, wc1, wc2, zb1_ite, zb2_ite, zb3_ite, zb4_ite, zzc1_ite, zzc2_ite, J_lit, J_n1, J_n2, J_add, J_mul, J_lt, J_le, J_eq, J_eN, N_eJ, J_eN2, J_nn, J_lN, N_lJ, J_leN, N_leJ, NN_l0, NN_eN, bJ_0, bJ_1, bJ_ite, zbz_b, zbz_0, zbz_1, zag_J, zas_J, ite_true, ite_false, if_true, if_false, ite_self, reduceIte, not_true_eq_false, not_false_eq_true, J_o, Nat.reduceEqDiff, Nat.reduceAdd, Nat.reduceMul, Nat.reduceSub, Nat.reduceLT, Nat.reduceLeDiff, Nat.one_ne_zero]
    exact ⟨m, rfl, hm, hs, hz⟩) (zfu_lt (n := 64) (by omega)) (x0 := J 0) (x1 := m1) ⟨rfl, hm1, hs1, hz1⟩
  refine ⟨m2, ?_, hm2, hs2, hz2⟩
  refine (congrArg (zb1 · _) hr1).trans ?_
  exact congrArg (zb1 · fun x => some x) hr2
theorem R_largest {M : zMS} {l : zV} (h : isML M l) (hL : LOK l) {w : Nat} (hw : w < 8) : ∃ M', gX12_largest M (J w) = some (J (mxg l w 8), M') ∧ isML M' l ∧ Msame M M' := by
  obtain ⟨M', h1, h2, h3, h4⟩ := R_findGroups h hL hw
  refine ⟨M', ?_, h2, h3⟩
  unfold gX12_largest
  rw [h1]
  have hze := zf2_run (f := gX12_largest_l9 M') (r := some (J (mxg l w 8))) 8 (fun i => J (mxg l w i)) J (by
    intro i hi F
    have h5 := mxg_le (l := l) (w := w) i
    have h6 := @grp_le l w i
    simp (disch := omega) only [gX12_largest_l9, wb1, wb2, wb3, wb4, wc1, wc2, zb1_ite, zb2_ite, zb3_ite, zb4_ite, zzc1_ite, zzc2_ite, J_lit, J_n1, J_n2, J_add, J_mul, J_lt, J_le, J_eq, J_eN, N_eJ, J_eN2, J_nn, J_lN, N_lJ, J_leN, N_leJ, NN_l0, NN_eN, bJ_0, bJ_1, bJ_ite, zbz_b, zbz_0, zbz_1, zag_J, zas_J, ite_true, ite_false, if_true, if_false, ite_self, reduceIte, not_true_eq_false, not_false_eq_true, J_o, Nat.reduceEqDiff, Nat.reduceAdd, Nat.reduceMul, Nat.reduceSub, Nat.reduceLT, Nat.reduceLeDiff, Nat.one_ne_zero, h4 i hi, R_greater]
    rw [if_neg (by omega)]
    rfl) (by
    intro F
    simp (disch := omega) only [gX12_largest_l9, wb1, wb2, wb3, wb4, wc1, wc2, zb1_ite, zb2_ite, zb3_ite, zb4_ite, zzc1_ite, zzc2_ite, J_lit, J_n1, J_n2, J_add, J_mul, J_lt, J_le, J_eq, J_eN, N_eJ, J_eN2, J_nn, J_lN, N_lJ, J_leN, N_leJ, NN_l0, NN_eN, bJ_0, bJ_1, bJ_ite, zbz_b, zbz_0, zbz_1, zag_J, zas_J, ite_true, ite_false, if_true, if_false, ite_self, reduceIte, not_true_eq_false, not_false_eq_true, J_o, Nat.reduceEqDiff, Nat.reduceAdd, Nat.reduceMul, Nat.reduceSub, Nat.reduceLT, Nat.reduceLeDiff, Nat.one_ne_zero]) (zfu_lt (by omega))
  exact congrArg (zb1 · fun x => some (x, M')) hze
theorem R_call {M : zMS} {l : zV} (h : isML M l) (hL : LOK l) : ∃ M', zf3 gX12_rules_l155 zfu (J 0) (J 1) M = some (J (amin (fun w => mxg l w 8) 7), M') ∧ isML M' l ∧ Msame M M' := by
  obtain ⟨r, hr, hQ⟩ := zf3_inv (f := gX12_rules_l155) 7 (fun i x y m => x = J (amin (fun w => mxg l w 8) i) ∧ y = J (i + 1) ∧ isML m l ∧ Msame M m) (fun r => r.1 = J (amin (fun w => mxg l w 8) 7) ∧ isML r.2 l ∧ Msame M r.2) (by
    intro i x y m hi hP F
    obtain ⟨rfl, rfl, hm, hs⟩ := hP
    have h1 := amin_le (f := fun w => mxg l w 8) i
    have h2 := mxg_le (l := l) (w := i + 1) 8
    have h3 := mxg_le (l := l) (w := amin (fun w => mxg l w 8) i) 8
    obtain ⟨m1, e1, hm1, hs1⟩ := R_largest hm hL (w := i + 1) (by omega)
    obtain ⟨m2, e2, hm2, hs2⟩ := R_largest hm1 hL (w := amin (fun w => mxg l w 8) i) (by omega)
    refine ⟨J (amin (fun w => mxg l w 8) (i + 1)), J (i + 1 + 1), m2, ?_, rfl, rfl, hm2, Msame_t hs (Msame_t hs1 hs2)⟩
    simp (disch := omega) only [gX12_rules_l155, wb1, wb2, wb3, wb4, wc1, wc2, zb1_ite, zb2_ite, zb3_ite, zb4_ite, zzc1_ite, zzc2_ite, J_lit, J_n1, J_n2, J_add, J_mul, J_lt, J_le, J_eq, J_eN, N_eJ, J_eN2, J_nn, J_lN, N_lJ, J_leN, N_leJ, NN_l0, NN_eN, bJ_0, bJ_1, bJ_ite, zbz_b, zbz_0, zbz_1, zag_J, zas_J, ite_true, ite_false, if_true, if_false, ite_self, reduceIte, not_true_eq_false, not_false_eq_true, J_o, Nat.reduceEqDiff, Nat.reduceAdd, Nat.reduceMul, Nat.reduceSub, Nat.reduceLT, Nat.reduceLeDiff, Nat.one_ne_zero, e1, e2, amin]
    rw [if_neg (by omega)]
    by_cases hq : mxg l (i + 1) 8 < mxg l (amin (fun w => mxg l w 8) i) 8
    · simp [hq, Nat.not_le.mpr hq]
    · simp [hq, Nat.not_lt.mp hq]) (by
    intro x y m hP F
    obtain ⟨rfl, rfl, hm, hs⟩ := hP
    simp (disch := omega) only [gX12_rules_l155, wb1, wb2, wb3, wb4, wc1, wc2, zb1_ite, zb2_ite, zb3_ite, zb4_ite, zzc1_ite, zzc2_ite, J_lit, J_n1, J_n2, J_add, J_mul, J_lt, J_le, J_eq, J_eN, N_eJ, J_eN2, J_nn, J_lN, N_lJ, J_leN, N_leJ, NN_l0, NN_eN, bJ_0, bJ_1, bJ_ite, zbz_b, zbz_0, zbz_1, zag_J, zas_J, ite_true, ite_false, if_true, if_false, ite_self, reduceIte, not_true_eq_false, not_false_eq_true, J_o, Nat.reduceEqDiff, Nat.reduceAdd, Nat.reduceMul, Nat.reduceSub, Nat.reduceLT, Nat.reduceLeDiff, Nat.one_ne_zero]
    exact ⟨(J (amin (fun w => mxg l w 8) 7), m), rfl, rfl, hm, hs⟩) (zfu_lt (n := 7) (by omega)) (x0 := J 0) (x1 := J 1) (x2 := M) ⟨rfl, rfl, h, Msame_r⟩
  obtain ⟨r1, r2⟩ := r
  obtain ⟨q1, q2, q3⟩ := hQ
  simp only at q1 q2 q3
  exact ⟨r2, by rw [hr, q1], q2, q3⟩
/-! what surely comes -/
def sur (l : zV) (w : Nat) : Option Nat := match fstI (fit l) 64 with
  | none => none
  | some r0 => match fstI (fun r => fit l r && decide (cme r w ≠ cme r0 w)) 64 with
    | none => some (cme r0 w)
    | some _ => none
theorem C_surelyComes {U : zCS} {a : Nat} {l : zV} (h : isLe U a l) (hL : LOK l) {w : Nat} (hw : w < 8) : gX3_surelyComes U a (J w) = some (oJ (sur l w)) := by
  have stN : ∀ i, i < 64 → fit l i = false → ∀ x F, gX3_surelyComes_l4 U a (J w) F x (J i) = F x (J (i + 1)) := by
    intro i hi hf x F
    have hm := mis_le hL (r := i)
    have hq := of_decide_eq_false hf
    simp (disch := omega) only [gX3_surelyComes_l4, wb1, wb2, wb3, wb4, wc1, wc2, zb1_ite, zb2_ite, zb3_ite, zb4_ite, zzc1_ite, zzc2_ite, J_lit, J_n1, J_n2, J_add, J_mul, J_lt, J_le, J_eq, J_eN, N_eJ, J_eN2, J_nn, J_lN, N_lJ, J_leN, N_leJ, NN_l0, NN_eN, bJ_0, bJ_1, bJ_ite, zbz_b, zbz_0, zbz_1, zag_J, zas_J, ite_true, ite_false, if_true, if_false, ite_self, reduceIte, not_true_eq_false, not_false_eq_true, J_o, Nat.reduceEqDiff, Nat.reduceAdd, Nat.reduceMul, Nat.reduceSub, Nat.reduceLT, Nat.reduceLeDiff, Nat.one_ne_zero, C_misses h hL, L_0 h]
    rw [if_neg (by omega), if_neg hq]
  have st0 : ∀ i, i < 64 → fit l i = true → ∀ F, gX3_surelyComes_l4 U a (J w) F NN (J i) = F (J (cme i w)) (J (i + 1)) := by
    intro i hi hf F
    have hm := mis_le hL (r := i)
    have hq := of_decide_eq_true hf
    simp (disch := omega) only [gX3_surelyComes_l4, wb1, wb2, wb3, wb4, wc1, wc2, zb1_ite, zb2_ite, zb3_ite, zb4_ite, zzc1_ite, zzc2_ite, J_lit, J_n1, J_n2, J_add, J_mul, J_lt, J_le, J_eq, J_eN, N_eJ, J_eN2, J_nn, J_lN, N_lJ, J_leN, N_leJ, NN_l0, NN_eN, bJ_0, bJ_1, bJ_ite, zbz_b, zbz_0, zbz_1, zag_J, zas_J, ite_true, ite_false, if_true, if_false, ite_self, reduceIte, not_true_eq_false, not_false_eq_true, J_o, Nat.reduceEqDiff, Nat.reduceAdd, Nat.reduceMul, Nat.reduceSub, Nat.reduceLT, Nat.reduceLeDiff, Nat.one_ne_zero, C_misses h hL, L_0 h, C_cme']
    rw [if_neg (by omega), if_pos hq]
  have st1 : ∀ i x, i < 64 → x < 8 → fit l i = true → ∀ F, gX3_surelyComes_l4 U a (J w) F (J x) (J i) = if x = cme i w then F (J (cme i w)) (J (i + 1)) else some NN := by
    intro i x hi hx hf F
    have hm := mis_le hL (r := i)
    have hc := @cme_lt i w
    have hq := of_decide_eq_true hf
    simp (disch := omega) only [gX3_surelyComes_l4, wb1, wb2, wb3, wb4, wc1, wc2, zb1_ite, zb2_ite, zb3_ite, zb4_ite, zzc1_ite, zzc2_ite, J_lit, J_n1, J_n2, J_add, J_mul, J_lt, J_le, J_eq, J_eN, N_eJ, J_eN2, J_nn, J_lN, N_lJ, J_leN, N_leJ, NN_l0, NN_eN, bJ_0, bJ_1, bJ_ite, zbz_b, zbz_0, zbz_1, zag_J, zas_J, ite_true, ite_false, if_true, if_false, ite_self, reduceIte, not_true_eq_false, not_false_eq_true, J_o, Nat.reduceEqDiff, Nat.reduceAdd, Nat.reduceMul, Nat.reduceSub, Nat.reduceLT, Nat.reduceLeDiff, Nat.one_ne_zero, C_misses h hL, L_0 h, C_cme']
    rw [if_neg (by omega), if_pos hq]
  have stE : ∀ x F, gX3_surelyComes_l4 U a (J w) F x (J 64) = some x := by
    intro x F
    simp (disch := omega) only [gX3_surelyComes_l4, wb1, wb2, wb3, wb4, wc1, wc2, zb1_ite, zb2_ite, zb3_ite, zb4_ite, zzc1_ite, zzc2_ite, J_lit, J_n1, J_n2, J_add, J_mul, J_lt, J_le, J_eq, J_eN, N_eJ, J_eN2, J_nn, J_lN, N_lJ, J_leN, N_leJ, NN_l0, NN_eN, bJ_0, bJ_1, bJ_ite, zbz_b, zbz_0, zbz_1, zag_J, zas_J, ite_true, ite_false, if_true, if_false, ite_self, reduceIte, not_true_eq_false, not_false_eq_true, J_o, Nat.reduceEqDiff, Nat.reduceAdd, Nat.reduceMul, Nat.reduceSub, Nat.reduceLT, Nat.reduceLeDiff, Nat.one_ne_zero]
  unfold gX3_surelyComes sur
  cases hf : fstI (fit l) 64 with
  | none =>
    have h1 := fstI_n hf
    exact zf2_run (f := gX3_surelyComes_l4 U a (J w)) 64 (fun _ => NN) J (fun i hi F => stN i hi (h1 i hi) NN F) (fun F => stE NN F) (zfu_lt (by omega))
  | some r0 =>
    obtain ⟨h1, h2, h3⟩ := fstI_s hf
    have hc0 := @cme_lt r0 w
    have stp : ∀ i, i < 64 → (fit l i && decide (cme i w ≠ cme r0 w)) = false → ∀ F, gX3_surelyComes_l4 U a (J w) F (if i ≤ r0 then NN else J (cme r0 w)) (J i) = F (if i + 1 ≤ r0 then NN else J (cme r0 w)) (J (i + 1)) := by
      intro i hi hq F
      by_cases hir : i < r0
      · rw [if_pos (by omega), if_pos (by omega)]
        exact stN i hi (h3 i hir) NN F
      · by_cases hie : i = r0
        · subst hie
          rw [if_pos (Nat.le_refl _), if_neg (by omega)]
          exact st0 i hi h2 F
        · rw [if_neg (by omega), if_neg (by omega)]
          cases hfi : fit l i
          · exact stN i hi hfi _ F
          · rw [hfi, Bool.true_and, decide_eq_false_iff_not] at hq
            have hq2 : cme i w = cme r0 w := Decidable.of_not_not hq
            rw [st1 i _ hi hc0 hfi F, if_pos hq2.symm, hq2]
    simp only
    cases hg : fstI (fun r => fit l r && decide (cme r w ≠ cme r0 w)) 64 with
    | none =>
      have h4 := fstI_n hg
      exact zf2_run (f := gX3_surelyComes_l4 U a (J w)) 64 (fun i => if i ≤ r0 then NN else J (cme r0 w)) J (fun i hi F => stp i hi (h4 i hi) F) (fun F => by rw [if_neg (by omega)]; exact stE _ F) (zfu_lt (by omega))
    | some r1 =>
      obtain ⟨h4, h5, h6⟩ := fstI_s hg
      rw [Bool.and_eq_true, decide_eq_true_eq] at h5
      have hlt : r0 < r1 := by
        rcases Nat.lt_trichotomy r0 r1 with z | z | z
        · exact z
        · subst z; exact absurd rfl h5.2
        · have := h3 r1 z; rw [h5.1] at this; cases this
      exact zf2_run (f := gX3_surelyComes_l4 U a (J w)) r1 (fun i => if i ≤ r0 then NN else J (cme r0 w)) J (fun i hi F => stp i (by omega) (h6 i hi) F) (fun F => by
        rw [if_neg (by omega), st1 r1 _ h4 hc0 h5.1 F, if_neg (fun z => h5.2 z.symm)]
        rfl) (zfu_lt (by omega))
theorem R_comesOf {M : zMS} {l : zV} (h : isML M l) (hL : LOK l) {w : Nat} (hw : w < 8) (hpos : cnt (fit l) 64 ≠ 0) : ∃ M', gX12_comesOf M (J w) (J (cnt (fit l) 64)) = some (oJ (sur l w), M') ∧ Msame M M' := by
  obtain ⟨M', e1, h2, h3, h4⟩ := R_findGroups h hL hw
  refine ⟨M', ?_, h3⟩
  have hcl := cnt_le (p := fit l) 64
  unfold gX12_comesOf
  rw [e1]
  have hfind := zf1_find (f := gX12_comesOf_l7 M' (J (cnt (fit l) 64))) 8 (fun a => decide (grp l w a = cnt (fit l) 64)) (fun i => some (J i, M')) (some (NN, M')) (by omega) (by
    intro i hi hp F
    have hg := @grp_le l w i
    simp (disch := omega) only [gX12_comesOf_l7, wb1, wb2, wb3, wb4, wc1, wc2, zb1_ite, zb2_ite, zb3_ite, zb4_ite, zzc1_ite, zzc2_ite, J_lit, J_n1, J_n2, J_add, J_mul, J_lt, J_le, J_eq, J_eN, N_eJ, J_eN2, J_nn, J_lN, N_lJ, J_leN, N_leJ, NN_l0, NN_eN, bJ_0, bJ_1, bJ_ite, zbz_b, zbz_0, zbz_1, zag_J, zas_J, ite_true, ite_false, if_true, if_false, ite_self, reduceIte, not_true_eq_false, not_false_eq_true, J_o, Nat.reduceEqDiff, Nat.reduceAdd, Nat.reduceMul, Nat.reduceSub, Nat.reduceLT, Nat.reduceLeDiff, Nat.one_ne_zero, h4 i hi]
    rw [if_neg (by omega), if_neg (of_decide_eq_false hp)]) (by
    intro i hi hp F
    have hg := @grp_le l w i
    simp (disch := omega) only [gX12_comesOf_l7, wb1, wb2, wb3, wb4, wc1, wc2, zb1_ite, zb2_ite, zb3_ite, zb4_ite, zzc1_ite, zzc2_ite, J_lit, J_n1, J_n2, J_add, J_mul, J_lt, J_le, J_eq, J_eN, N_eJ, J_eN2, J_nn, J_lN, N_lJ, J_leN, N_leJ, NN_l0, NN_eN, bJ_0, bJ_1, bJ_ite, zbz_b, zbz_0, zbz_1, zag_J, zas_J, ite_true, ite_false, if_true, if_false, ite_self, reduceIte, not_true_eq_false, not_false_eq_true, J_o, Nat.reduceEqDiff, Nat.reduceAdd, Nat.reduceMul, Nat.reduceSub, Nat.reduceLT, Nat.reduceLeDiff, Nat.one_ne_zero, h4 i hi]
    rw [if_neg (by omega), if_pos (of_decide_eq_true hp)]) (by
    intro F
    simp (disch := omega) only [gX12_comesOf_l7, wb1, wb2, wb3, wb4, wc1, wc2, zb1_ite, zb2_ite, zb3_ite, zb4_ite, zzc1_ite, zzc2_ite, J_lit, J_n1, J_n2, J_add, J_mul, J_lt, J_le, J_eq, J_eN, N_eJ, J_eN2, J_nn, J_lN, N_lJ, J_leN, N_leJ, NN_l0, NN_eN, bJ_0, bJ_1, bJ_ite, zbz_b, zbz_0, zbz_1, zag_J, zas_J, ite_true, ite_false, if_true, if_false, ite_self, reduceIte, not_true_eq_false, not_false_eq_true, J_o, Nat.reduceEqDiff, Nat.reduceAdd, Nat.reduceMul, Nat.reduceSub, Nat.reduceLT, Nat.reduceLeDiff, Nat.one_ne_zero])
  show zf1 (gX12_comesOf_l7 M' (J (cnt (fit l) 64))) zfu (J 0) = _
  rw [hfind]
  unfold sur
  cases hf : fstI (fit l) 64 with
  | none => exact absurd (cnt_z (fstI_n hf)) hpos
  | some r0 =>
    obtain ⟨k1, k2, k3⟩ := fstI_s hf
    have hc0 := @cme_lt r0 w
    simp only
    cases hg : fstI (fun r => fit l r && decide (cme r w ≠ cme r0 w)) 64 with
    | none =>
      have k4 := fstI_n hg
      have same : ∀ r, r < 64 → fit l r = true → cme r w = cme r0 w := fun r hr hfr => by
        have := k4 r hr
        rw [hfr, Bool.true_and, decide_eq_false_iff_not] at this
        exact Decidable.of_not_not this
      have ga : grp l w (cme r0 w) = cnt (fit l) 64 := cnt_c (fun r hr => by
        cases hfr : fit l r
        · simp
        · simp [same r hr hfr])
      have gb : ∀ a, a ≠ cme r0 w → grp l w a = 0 := fun a ha => cnt_z (fun r hr => by
        cases hfr : fit l r
        · simp
        · simp [same r hr hfr, show ¬ cme r0 w = a from fun z => ha z.symm])
      cases hh : fstI (fun a => decide (grp l w a = cnt (fit l) 64)) 8 with
      | none =>
        have := of_decide_eq_false (fstI_n hh (cme r0 w) hc0)
        exact absurd ga this
      | some a =>
        obtain ⟨-, q2, -⟩ := fstI_s hh
        have q2 := of_decide_eq_true q2
        have : a = cme r0 w := Decidable.by_contra fun z => by rw [gb a z] at q2; exact hpos q2.symm
        rw [this]; rfl
    | some r1 =>
      obtain ⟨k4, k5, -⟩ := fstI_s hg
      rw [Bool.and_eq_true, decide_eq_true_eq] at k5
      cases hh : fstI (fun a => decide (grp l w a = cnt (fit l) 64)) 8 with
      | none => rfl
      | some a =>
        obtain ⟨-, q2, -⟩ := fstI_s hh
        have q2 := of_decide_eq_true q2
        exfalso
        by_cases ha : cme r0 w = a
        · have : grp l w a < cnt (fit l) 64 := cnt_slt (x := r1) (fun r _ hr => by rw [Bool.and_eq_true] at hr; exact hr.2) k4 (by simp [show ¬ cme r1 w = a from fun z => k5.2 (z.trans ha.symm)]) k5.1
          omega
        · have : grp l w a < cnt (fit l) 64 := cnt_slt (x := r0) (fun r _ hr => by rw [Bool.and_eq_true] at hr; exact hr.2) k1 (by simp [ha]) k2
          omega
