/-! weather -/
def clr (v : zV) (m : Nat) : Bool := !skyB v 0 m && !skyB v 1 m
def crn (v : zV) : Nat → Nat
  | 0 => 0
  | i + 1 => if clr v i then crn v i + 1 else 0
def cmx (v : zV) : Nat → Nat
  | 0 => 0
  | i + 1 => max (cmx v i) (crn v (i + 1))
theorem crn_s {v : zV} {i : Nat} : crn v (i + 1) = if clr v i then crn v i + 1 else 0 := rfl
theorem cmx_s {v : zV} {i : Nat} : cmx v (i + 1) = max (cmx v i) (crn v (i + 1)) := rfl
theorem crn_le {v : zV} : ∀ i, crn v i ≤ i
  | 0 => Nat.le_refl _
  | i + 1 => by have := crn_le (v := v) i; unfold crn; split <;> omega
theorem cmx_le {v : zV} : ∀ i, cmx v i ≤ i
  | 0 => Nat.le_refl _
  | i + 1 => by have := cmx_le (v := v) i; have := crn_le (v := v) (i + 1); unfold cmx; omega
theorem max_ite {a b : Nat} : (if a < b then J b else J a : Int32) = J (max a b) := by
  by_cases h : a < b
  · rw [if_pos h, Nat.max_eq_right (Nat.le_of_lt h)]
  · rw [if_neg h, Nat.max_eq_left (Nat.not_lt.mp h)]
theorem C_longestClear {U : zCS} {a : Nat} {v : zV} (h : isVal U a v) : gX9_longestClear U a = some (J (cmx v 100)) := by
  unfold gX9_longestClear
  have hze := zf3_run (f := gX9_longestClear_l6 U a) (r := some (J (cmx v 100))) 100 (fun i => J (cmx v i)) (fun i => J (crn v i)) J (by
    intro i hi F
    have h1 := cmx_le (v := v) i
    have h2 := crn_le (v := v) i
    rw [cmx_s, crn_s, clr]
    simp (disch := omega) only [gX9_longestClear_l6, wb1, wb2, wb3, wb4, wc1, wc2, zb1_ite, zb2_ite, zb3_ite, zb4_ite, zzc1_ite, zzc2_ite, J_lit, J_n1, J_n2, J_add, J_mul, J_lt, J_le, J_eq, J_eN, N_eJ, J_eN2, J_nn, J_lN, N_lJ, J_leN, N_leJ, NN_l0, NN_eN, bJ_0, bJ_1, bJ_ite, zbz_b, zbz_0, zbz_1, zag_J, zas_J, ite_true, ite_false, if_true, if_false, ite_self, reduceIte, not_true_eq_false, not_false_eq_true, J_o, Nat.reduceEqDiff, Nat.reduceAdd, Nat.reduceMul, Nat.reduceSub, Nat.reduceLT, Nat.reduceLeDiff, Nat.one_ne_zero, V_sy h hi]
    rw [if_neg (by omega)]
    cases skyB v 0 i <;> cases skyB v 1 i
    · simp (disch := omega) only [wb1, wb2, wb3, wb4, wc1, wc2, zb1_ite, zb2_ite, zb3_ite, zb4_ite, zzc1_ite, zzc2_ite, J_lit, J_n1, J_n2, J_add, J_mul, J_lt, J_le, J_eq, J_eN, N_eJ, J_eN2, J_nn, J_lN, N_lJ, J_leN, N_leJ, NN_l0, NN_eN, bJ_0, bJ_1, bJ_ite, zbz_b, zbz_0, zbz_1, zag_J, zas_J, ite_true, ite_false, if_true, if_false, ite_self, reduceIte, not_true_eq_false, not_false_eq_true, J_o, Nat.reduceEqDiff, Nat.reduceAdd, Nat.reduceMul, Nat.reduceSub, Nat.reduceLT, Nat.reduceLeDiff, Nat.one_ne_zero, max_ite, Bool.false_eq_true]; simp
    · simp (disch := omega) only [wb1, wb2, wb3, wb4, wc1, wc2, zb1_ite, zb2_ite, zb3_ite, zb4_ite, zzc1_ite, zzc2_ite, J_lit, J_n1, J_n2, J_add, J_mul, J_lt, J_le, J_eq, J_eN, N_eJ, J_eN2, J_nn, J_lN, N_lJ, J_leN, N_leJ, NN_l0, NN_eN, bJ_0, bJ_1, bJ_ite, zbz_b, zbz_0, zbz_1, zag_J, zas_J, ite_true, ite_false, if_true, if_false, ite_self, reduceIte, not_true_eq_false, not_false_eq_true, J_o, Nat.reduceEqDiff, Nat.reduceAdd, Nat.reduceMul, Nat.reduceSub, Nat.reduceLT, Nat.reduceLeDiff, Nat.one_ne_zero, max_ite, Bool.false_eq_true]; simp
    · simp (disch := omega) only [wb1, wb2, wb3, wb4, wc1, wc2, zb1_ite, zb2_ite, zb3_ite, zb4_ite, zzc1_ite, zzc2_ite, J_lit, J_n1, J_n2, J_add, J_mul, J_lt, J_le, J_eq, J_eN, N_eJ, J_eN2, J_nn, J_lN, N_lJ, J_leN, N_leJ, NN_l0, NN_eN, bJ_0, bJ_1, bJ_ite, zbz_b, zbz_0, zbz_1, zag_J, zas_J, ite_true, ite_false, if_true, if_false, ite_self, reduceIte, not_true_eq_false, not_false_eq_true, J_o, Nat.reduceEqDiff, Nat.reduceAdd, Nat.reduceMul, Nat.reduceSub, Nat.reduceLT, Nat.reduceLeDiff, Nat.one_ne_zero, max_ite, Bool.false_eq_true]; simp
    · simp (disch := omega) only [wb1, wb2, wb3, wb4, wc1, wc2, zb1_ite, zb2_ite, zb3_ite, zb4_ite, zzc1_ite, zzc2_ite, J_lit, J_n1, J_n2, J_add, J_mul, J_lt, J_le, J_eq, J_eN, N_eJ, J_eN2, J_nn, J_lN, N_lJ, J_leN, N_leJ, NN_l0, NN_eN, bJ_0, bJ_1, bJ_ite, zbz_b, zbz_0, zbz_1, zag_J, zas_J, ite_true, ite_false, if_true, if_false, ite_self, reduceIte, not_true_eq_false, not_false_eq_true, J_o, Nat.reduceEqDiff, Nat.reduceAdd, Nat.reduceMul, Nat.reduceSub, Nat.reduceLT, Nat.reduceLeDiff, Nat.one_ne_zero, max_ite, Bool.false_eq_true]; simp) (by
    intro F
    simp (disch := omega) only [gX9_longestClear_l6, wb1, wb2, wb3, wb4, wc1, wc2, zb1_ite, zb2_ite, zb3_ite, zb4_ite, zzc1_ite, zzc2_ite, J_lit, J_n1, J_n2, J_add, J_mul, J_lt, J_le, J_eq, J_eN, N_eJ, J_eN2, J_nn, J_lN, N_lJ, J_leN, N_leJ, NN_l0, NN_eN, bJ_0, bJ_1, bJ_ite, zbz_b, zbz_0, zbz_1, zag_J, zas_J, ite_true, ite_false, if_true, if_false, ite_self, reduceIte, not_true_eq_false, not_false_eq_true, J_o, Nat.reduceEqDiff, Nat.reduceAdd, Nat.reduceMul, Nat.reduceSub, Nat.reduceLT, Nat.reduceLeDiff, Nat.one_ne_zero]) (zfu_lt (by omega))
  exact (congrArg (zb1 · fun x => some x) hze)
theorem R_weather_l {M : zMS} {v : zV} (h : isMV M v) (hV : VOK v) : zf3 (gX12_weather_l68 M) zfu (J 0) (J 0) (J 0) = some (J (cmx v 100)) := by
  exact zf3_run (f := gX12_weather_l68 M) 100 (fun i => J (cmx v i)) (fun i => J (crn v i)) J (by
    intro i hi F
    have h1 := cmx_le (v := v) i
    have h2 := crn_le (v := v) i
    rw [cmx_s, crn_s, clr]
    simp (disch := omega) only [gX12_weather_l68, gX12_weather_b95, wb1, wb2, wb3, wb4, wc1, wc2, zb1_ite, zb2_ite, zb3_ite, zb4_ite, zzc1_ite, zzc2_ite, J_lit, J_n1, J_n2, J_add, J_mul, J_lt, J_le, J_eq, J_eN, N_eJ, J_eN2, J_nn, J_lN, N_lJ, J_leN, N_leJ, NN_l0, NN_eN, bJ_0, bJ_1, bJ_ite, zbz_b, zbz_0, zbz_1, zag_J, zas_J, ite_true, ite_false, if_true, if_false, ite_self, reduceIte, not_true_eq_false, not_false_eq_true, J_o, Nat.reduceEqDiff, Nat.reduceAdd, Nat.reduceMul, Nat.reduceSub, Nat.reduceLT, Nat.reduceLeDiff, Nat.one_ne_zero, R_isSky h hV, R_greater]
    rw [if_neg (by omega)]
    cases skyB v 0 i <;> cases skyB v 1 i <;> simp) (by
    intro F
    simp (disch := omega) only [gX12_weather_l68, wb1, wb2, wb3, wb4, wc1, wc2, zb1_ite, zb2_ite, zb3_ite, zb4_ite, zzc1_ite, zzc2_ite, J_lit, J_n1, J_n2, J_add, J_mul, J_lt, J_le, J_eq, J_eN, N_eJ, J_eN2, J_nn, J_lN, N_lJ, J_leN, N_leJ, NN_l0, NN_eN, bJ_0, bJ_1, bJ_ite, zbz_b, zbz_0, zbz_1, zag_J, zas_J, ite_true, ite_false, if_true, if_false, ite_self, reduceIte, not_true_eq_false, not_false_eq_true, J_o, Nat.reduceEqDiff, Nat.reduceAdd, Nat.reduceMul, Nat.reduceSub, Nat.reduceLT, Nat.reduceLeDiff, Nat.one_ne_zero]) (zfu_lt (by omega))
/-! the middle -/
def tog (v : zV) (c : Nat) : Nat → Nat := itr (fun p s => s + dist c (v (33 + p))) 0
def fur (v : zV) (c : Nat) : Nat → Nat := itr (fun p s => max s (dist c (v (33 + p)))) 0
theorem dist_le {a b : Nat} {n : Nat} (ha : a ≤ n) (hb : b ≤ n) : dist a b ≤ n := by unfold dist; omega
theorem tog_le {v : zV} (hV : VOK v) {c : Nat} (hc : c ≤ (v 0 : Nat)) : ∀ i, i ≤ (v 1 : Nat) → tog v c i ≤ 30 * i :=
  itr_il (P := fun i s => s ≤ 30 * i) (by omega) (fun i x hi hx => by have h1 := dist_le hc (hV.2.2.2.2.2.2 i hi).2; have := hV.2.1; omega)
theorem fur_le {v : zV} (hV : VOK v) {c : Nat} (hc : c ≤ (v 0 : Nat)) : ∀ i, i ≤ (v 1 : Nat) → fur v c i ≤ 30 :=
  itr_il (P := fun _ s => s ≤ 30) (by omega) (fun i x hi hx => by have h1 := dist_le hc (hV.2.2.2.2.2.2 i hi).2; have := hV.2.1; omega)
theorem way_0 {v : zV} {f t : Nat} : way v f t 0 = dist f t := rfl
def far (v : zV) (t c : Nat) : Nat := if t = 0 then tog v c (v 1) else fur v c (v 1)
theorem C_farness {U : zCS} {a : Nat} {v : zV} (h : isVal U a v) (hV : VOK v) {c t : Nat} (hc : c ≤ (v 0 : Nat)) (ht : t < 2) : gX0_farness U a (J c) (J t) = some (J (far v t c)) := by
  have hp := hV.2.2.1
  unfold gX0_farness
  have hze := zf3_run (f := gX0_farness_l8 U a (J c)) (r := some (J (tog v c (v 1)), J (fur v c (v 1)))) (v 1) (fun i => J (tog v c i)) (fun i => J (fur v c i)) J (by
    intro i hi F
    have h3 := (hV.2.2.2.2.2.2 i hi).2
    have h1 := tog_le hV hc i (by omega)
    have h2 := fur_le hV hc i (by omega)
    have h4 := dist_le hc h3
    have h5 := hV.2.1
    simp (disch := omega) only [gX0_farness_l8, wb1, wb2, wb3, wb4, wc1, wc2, zb1_ite, zb2_ite, zb3_ite, zb4_ite, zzc1_ite, zzc2_ite, J_lit, J_n1, J_n2, J_add, J_mul, J_lt, J_le, J_eq, J_eN, N_eJ, J_eN2, J_nn, J_lN, N_lJ, J_leN, N_leJ, NN_l0, NN_eN, bJ_0, bJ_1, bJ_ite, zbz_b, zbz_0, zbz_1, zag_J, zas_J, ite_true, ite_false, if_true, if_false, ite_self, reduceIte, not_true_eq_false, not_false_eq_true, J_o, Nat.reduceEqDiff, Nat.reduceAdd, Nat.reduceMul, Nat.reduceSub, Nat.reduceLT, Nat.reduceLeDiff, Nat.one_ne_zero, V_p h, V_pl h, C_way h hV, way_0, max_ite]
    rw [if_neg (by omega)]
    rfl) (by
    intro F
    simp (disch := omega) only [gX0_farness_l8, wb1, wb2, wb3, wb4, wc1, wc2, zb1_ite, zb2_ite, zb3_ite, zb4_ite, zzc1_ite, zzc2_ite, J_lit, J_n1, J_n2, J_add, J_mul, J_lt, J_le, J_eq, J_eN, N_eJ, J_eN2, J_nn, J_lN, N_lJ, J_leN, N_leJ, NN_l0, NN_eN, bJ_0, bJ_1, bJ_ite, zbz_b, zbz_0, zbz_1, zag_J, zas_J, ite_true, ite_false, if_true, if_false, ite_self, reduceIte, not_true_eq_false, not_false_eq_true, J_o, Nat.reduceEqDiff, Nat.reduceAdd, Nat.reduceMul, Nat.reduceSub, Nat.reduceLT, Nat.reduceLeDiff, Nat.one_ne_zero, V_p h]
    simp) (zfu_lt (by omega))
  rw [show (0 : Int32) = J 0 from rfl]
  refine (congrArg (zb2 · _) hze).trans ?_
  simp (disch := omega) only [wb1, wb2, wb3, wb4, wc1, wc2, zb1_ite, zb2_ite, zb3_ite, zb4_ite, zzc1_ite, zzc2_ite, J_lit, J_n1, J_n2, J_add, J_mul, J_lt, J_le, J_eq, J_eN, N_eJ, J_eN2, J_nn, J_lN, N_lJ, J_leN, N_leJ, NN_l0, NN_eN, bJ_0, bJ_1, bJ_ite, zbz_b, zbz_0, zbz_1, zag_J, zas_J, ite_true, ite_false, if_true, if_false, ite_self, reduceIte, not_true_eq_false, not_false_eq_true, J_o, Nat.reduceEqDiff, Nat.reduceAdd, Nat.reduceMul, Nat.reduceSub, Nat.reduceLT, Nat.reduceLeDiff, Nat.one_ne_zero]
  unfold far
  split <;> rfl
theorem C_nearestPlace {U : zCS} {a : Nat} {v : zV} (h : isVal U a v) (hV : VOK v) {t : Nat} (ht : t < 2) : gX0_nearestPlace U a (J t) = some (J (amin (far v t) (v 0))) := by
  have hw := hV.2.1
  have hp := hV.2.2.1
  have hb : ∀ c, c ≤ (v 0 : Nat) → (far v t c) < 1000 := by
    intro c hc
    have h1 := tog_le hV hc (v 1) (Nat.le_refl _)
    have h2 := fur_le hV hc (v 1) (Nat.le_refl _)
    unfold far
    split <;> omega
  unfold gX0_nearestPlace
  have hze := zf2_run (f := gX0_nearestPlace_l4 U a (J t)) (r := some (J (amin (far v t) (v 0)))) (v 0) (fun i => J (amin (far v t) i)) (fun i => J (i + 1)) (by
    intro i hi F
    have h1 := amin_le (f := far v t) i
    have h2 := hb (i + 1) (by omega)
    have h3 := hb _ (Nat.le_trans h1 (Nat.le_of_lt hi))
    simp (disch := omega) only [gX0_nearestPlace_l4, wb1, wb2, wb3, wb4, wc1, wc2, zb1_ite, zb2_ite, zb3_ite, zb4_ite, zzc1_ite, zzc2_ite, J_lit, J_n1, J_n2, J_add, J_mul, J_lt, J_le, J_eq, J_eN, N_eJ, J_eN2, J_nn, J_lN, N_lJ, J_leN, N_leJ, NN_l0, NN_eN, bJ_0, bJ_1, bJ_ite, zbz_b, zbz_0, zbz_1, zag_J, zas_J, ite_true, ite_false, if_true, if_false, ite_self, reduceIte, not_true_eq_false, not_false_eq_true, J_o, Nat.reduceEqDiff, Nat.reduceAdd, Nat.reduceMul, Nat.reduceSub, Nat.reduceLT, Nat.reduceLeDiff, Nat.one_ne_zero, V_w h, C_farness h hV, amin]
    rw [if_neg (by omega)]
    split
    · rw [if_neg (by omega)]
    · rw [if_pos (by omega)]) (by
    intro F
    simp (disch := omega) only [gX0_nearestPlace_l4, wb1, wb2, wb3, wb4, wc1, wc2, zb1_ite, zb2_ite, zb3_ite, zb4_ite, zzc1_ite, zzc2_ite, J_lit, J_n1, J_n2, J_add, J_mul, J_lt, J_le, J_eq, J_eN, N_eJ, J_eN2, J_nn, J_lN, N_lJ, J_leN, N_leJ, NN_l0, NN_eN, bJ_0, bJ_1, bJ_ite, zbz_b, zbz_0, zbz_1, zag_J, zas_J, ite_true, ite_false, if_true, if_false, ite_self, reduceIte, not_true_eq_false, not_false_eq_true, J_o, Nat.reduceEqDiff, Nat.reduceAdd, Nat.reduceMul, Nat.reduceSub, Nat.reduceLT, Nat.reduceLeDiff, Nat.one_ne_zero, V_w h]
    simp) (zfu_lt (by omega))
  exact (congrArg (zb1 · fun x => some x) hze)
theorem R_together {M : zMS} {v : zV} (h : isMV M v) (hV : VOK v) {c : Nat} (hc : c ≤ (v 0 : Nat)) : gX12_together M (J c) = some (J (tog v c (v 1))) := by
  have hp := hV.2.2.1
  unfold gX12_together
  have hze := zf2_run (f := gX12_together_l4 M (J c)) (r := some (J (tog v c (v 1)))) (v 1) (fun i => J (tog v c i)) J (by
    intro i hi F
    have h5 := hV.2.1
    simp (disch := omega) only [gX12_together_l4, wb1, wb2, wb3, wb4, wc1, wc2, zb1_ite, zb2_ite, zb3_ite, zb4_ite, zzc1_ite, zzc2_ite, J_lit, J_n1, J_n2, J_add, J_mul, J_lt, J_le, J_eq, J_eN, N_eJ, J_eN2, J_nn, J_lN, N_lJ, J_leN, N_leJ, NN_l0, NN_eN, bJ_0, bJ_1, bJ_ite, zbz_b, zbz_0, zbz_1, zag_J, zas_J, ite_true, ite_false, if_true, if_false, ite_self, reduceIte, not_true_eq_false, not_false_eq_true, J_o, Nat.reduceEqDiff, Nat.reduceAdd, Nat.reduceMul, Nat.reduceSub, Nat.reduceLT, Nat.reduceLeDiff, Nat.one_ne_zero, R_p h, R_of h, R_apart]
    rw [if_neg (by omega)]
    rfl) (by
    intro F
    simp (disch := omega) only [gX12_together_l4, wb1, wb2, wb3, wb4, wc1, wc2, zb1_ite, zb2_ite, zb3_ite, zb4_ite, zzc1_ite, zzc2_ite, J_lit, J_n1, J_n2, J_add, J_mul, J_lt, J_le, J_eq, J_eN, N_eJ, J_eN2, J_nn, J_lN, N_lJ, J_leN, N_leJ, NN_l0, NN_eN, bJ_0, bJ_1, bJ_ite, zbz_b, zbz_0, zbz_1, zag_J, zas_J, ite_true, ite_false, if_true, if_false, ite_self, reduceIte, not_true_eq_false, not_false_eq_true, J_o, Nat.reduceEqDiff, Nat.reduceAdd, Nat.reduceMul, Nat.reduceSub, Nat.reduceLT, Nat.reduceLeDiff, Nat.one_ne_zero, R_p h]
    simp) (zfu_lt (by omega))
  exact (congrArg (zb1 · fun x => some x) hze)
theorem R_furthest {M : zMS} {v : zV} (h : isMV M v) (hV : VOK v) {c : Nat} (hc : c ≤ (v 0 : Nat)) : gX12_furthest M (J c) = some (J (fur v c (v 1))) := by
  have hp := hV.2.2.1
  unfold gX12_furthest
  have hze := zf2_run (f := gX12_furthest_l4 M (J c)) (r := some (J (fur v c (v 1)))) (v 1) (fun i => J (fur v c i)) J (by
    intro i hi F
    have h5 := hV.2.1
    have h2 := fur_le hV hc i (by omega)
    have h4 := dist_le hc (hV.2.2.2.2.2.2 i hi).2
    simp (disch := omega) only [gX12_furthest_l4, wb1, wb2, wb3, wb4, wc1, wc2, zb1_ite, zb2_ite, zb3_ite, zb4_ite, zzc1_ite, zzc2_ite, J_lit, J_n1, J_n2, J_add, J_mul, J_lt, J_le, J_eq, J_eN, N_eJ, J_eN2, J_nn, J_lN, N_lJ, J_leN, N_leJ, NN_l0, NN_eN, bJ_0, bJ_1, bJ_ite, zbz_b, zbz_0, zbz_1, zag_J, zas_J, ite_true, ite_false, if_true, if_false, ite_self, reduceIte, not_true_eq_false, not_false_eq_true, J_o, Nat.reduceEqDiff, Nat.reduceAdd, Nat.reduceMul, Nat.reduceSub, Nat.reduceLT, Nat.reduceLeDiff, Nat.one_ne_zero, R_p h, R_of h, R_apart, R_greater]
    rw [if_neg (by omega)]
    rfl) (by
    intro F
    simp (disch := omega) only [gX12_furthest_l4, wb1, wb2, wb3, wb4, wc1, wc2, zb1_ite, zb2_ite, zb3_ite, zb4_ite, zzc1_ite, zzc2_ite, J_lit, J_n1, J_n2, J_add, J_mul, J_lt, J_le, J_eq, J_eN, N_eJ, J_eN2, J_nn, J_lN, N_lJ, J_leN, N_leJ, NN_l0, NN_eN, bJ_0, bJ_1, bJ_ite, zbz_b, zbz_0, zbz_1, zag_J, zas_J, ite_true, ite_false, if_true, if_false, ite_self, reduceIte, not_true_eq_false, not_false_eq_true, J_o, Nat.reduceEqDiff, Nat.reduceAdd, Nat.reduceMul, Nat.reduceSub, Nat.reduceLT, Nat.reduceLeDiff, Nat.one_ne_zero, R_p h]
    simp) (zfu_lt (by omega))
  exact (congrArg (zb1 · fun x => some x) hze)
theorem R_middle_l {M : zMS} {v : zV} (h : isMV M v) (hV : VOK v) : zf3 (gX12_middle_l32 M) zfu (J 0) (J 0) (J 1) = some (J (amin (fun c => tog v c (v 1)) (v 0)), J (amin (fun c => fur v c (v 1)) (v 0))) := by
  have hw := hV.2.1
  have hp := hV.2.2.1
  exact zf3_run (f := gX12_middle_l32 M) (v 0) (fun i => J (amin (fun c => tog v c (v 1)) i)) (fun i => J (amin (fun c => fur v c (v 1)) i)) (fun i => J (i + 1)) (by
    intro i hi F
    have h1 := amin_le (f := fun c => tog v c (v 1)) i
    have h2 := amin_le (f := fun c => fur v c (v 1)) i
    have h3 := tog_le hV (c := i + 1) hi (v 1) (Nat.le_refl _)
    have h4 := fur_le hV (c := i + 1) hi (v 1) (Nat.le_refl _)
    have h5 := tog_le hV (Nat.le_trans h1 (Nat.le_of_lt hi)) (v 1) (Nat.le_refl _)
    have h6 := fur_le hV (Nat.le_trans h2 (Nat.le_of_lt hi)) (v 1) (Nat.le_refl _)
    simp (disch := omega) only [gX12_middle_l32, wb1, wb2, wb3, wb4, wc1, wc2, zb1_ite, zb2_ite, zb3_ite, zb4_ite, zzc1_ite, zzc2_ite, J_lit, J_n1, J_n2, J_add, J_mul, J_lt, J_le, J_eq, J_eN, N_eJ, J_eN2, J_nn, J_lN, N_lJ, J_leN, N_leJ, NN_l0, NN_eN, bJ_0, bJ_1, bJ_ite, zbz_b, zbz_0, zbz_1, zag_J, zas_J, ite_true, ite_false, if_true, if_false, ite_self, reduceIte, not_true_eq_false, not_false_eq_true, J_o, Nat.reduceEqDiff, Nat.reduceAdd, Nat.reduceMul, Nat.reduceSub, Nat.reduceLT, Nat.reduceLeDiff, Nat.one_ne_zero, R_w h, R_together h hV, R_furthest h hV, amin]
    rw [if_neg (by omega)]
    by_cases hq : tog v (i + 1) (v 1) < tog v (amin (fun c => tog v c (v 1)) i) (v 1)
    · by_cases hr : fur v (i + 1) (v 1) < fur v (amin (fun c => fur v c (v 1)) i) (v 1)
      · simp [hq, hr, Nat.not_le.mpr hq, Nat.not_le.mpr hr]
      · simp [hq, hr, Nat.not_le.mpr hq, Nat.not_lt.mp hr]
    · by_cases hr : fur v (i + 1) (v 1) < fur v (amin (fun c => fur v c (v 1)) i) (v 1)
      · simp [hq, hr, Nat.not_lt.mp hq, Nat.not_le.mpr hr]
      · simp [hq, hr, Nat.not_lt.mp hq, Nat.not_lt.mp hr]) (by
    intro F
    simp (disch := omega) only [gX12_middle_l32, wb1, wb2, wb3, wb4, wc1, wc2, zb1_ite, zb2_ite, zb3_ite, zb4_ite, zzc1_ite, zzc2_ite, J_lit, J_n1, J_n2, J_add, J_mul, J_lt, J_le, J_eq, J_eN, N_eJ, J_eN2, J_nn, J_lN, N_lJ, J_leN, N_leJ, NN_l0, NN_eN, bJ_0, bJ_1, bJ_ite, zbz_b, zbz_0, zbz_1, zag_J, zas_J, ite_true, ite_false, if_true, if_false, ite_self, reduceIte, not_true_eq_false, not_false_eq_true, J_o, Nat.reduceEqDiff, Nat.reduceAdd, Nat.reduceMul, Nat.reduceSub, Nat.reduceLT, Nat.reduceLeDiff, Nat.one_ne_zero, R_w h]
    simp) (zfu_lt (by omega))
/-! guards -/
def pop (s : Nat) : Nat := cnt (fun k => s.testBit k) 6
def bcA (x : Int32) : Int32 := x - (((x.toUInt32 >>> ((1 : Int32).toUInt32 &&& Int32.toUInt32 31)).toInt32) &&& 1431655765)
def bcB (x : Int32) : Int32 := (x &&& 858993459) + (((x.toUInt32 >>> ((2 : Int32).toUInt32 &&& Int32.toUInt32 31)).toInt32) &&& 858993459)
def bcC (x : Int32) : Int32 := (x + ((x.toUInt32 >>> ((4 : Int32).toUInt32 &&& Int32.toUInt32 31)).toInt32)) &&& 252645135
def bcD (x : Int32) : Int32 := x + ((x.toUInt32 >>> ((8 : Int32).toUInt32 &&& Int32.toUInt32 31)).toInt32)
def bcE (x : Int32) : Int32 := (x + ((x.toUInt32 >>> ((16 : Int32).toUInt32 &&& Int32.toUInt32 31)).toInt32)) &&& 63
theorem bc_e (x : Int32) : gJ6_bitCount_0f7a4 x = some (bcE (bcD (bcC (bcB (bcA x))))) := rfl
def naA (s : Nat) : Nat := s - ((s >>> 1) &&& 1431655765)
def naB (s : Nat) : Nat := (s &&& 858993459) + ((s >>> 2) &&& 858993459)
def naC (s : Nat) : Nat := (s + (s >>> 4)) &&& 252645135
theorem bc_A : ∀ s, s < 256 → bcA (J s) = J (naA s) := by decide +kernel
theorem bc_B : ∀ s, s < 256 → bcB (J s) = J (naB s) := by decide +kernel
theorem bc_C : ∀ s, s < 256 → bcC (J s) = J (naC s) := by decide +kernel
theorem bc_D : ∀ s, s < 9 → bcE (bcD (J s)) = J s := by decide +kernel
theorem na_A : ∀ s, s < 256 → naA s < 256 ∧ naB (naA s) < 256 ∧ naC (naB (naA s)) = cnt (fun k => s.testBit k) 8 := by decide +kernel
def pop8 (s : Nat) : Nat := cnt (fun k => s.testBit k) 8
theorem C_bitCount {s : Nat} (hs : s < 256) : gJ6_bitCount_0f7a4 (J s) = some (J (pop8 s)) := by
  obtain ⟨h1, h2, h3⟩ := na_A s hs
  rw [bc_e, bc_A s hs, bc_B _ h1, bc_C _ h2, h3, bc_D _ (Nat.lt_succ_of_le (cnt_le _))]
  rfl
theorem pop86 : ∀ s, s < 64 → pop8 s = pop s := by decide +kernel
theorem C_bitCount6 (s : Nat) (hs : s < 64) : gJ6_bitCount_0f7a4 (J s) = some (J (pop s)) := by rw [C_bitCount (by omega), pop86 s hs]
theorem pop_le {s : Nat} : pop s ≤ 6 := cnt_le 6
def grd (v : zV) (s l c : Nat) : Bool := (List.range (v 1)).any fun p => bit s p && decide (dist c (v (33 + p)) ≤ rng l)
def agr (v : zV) (l s : Nat) : Bool := !(List.range (v 0 + 1)).any fun c => !grd v s l c
theorem C_isGuarded_s {U : zCS} {a : Nat} {v : zV} (h : isVal U a v) (hV : VOK v) {c s l i : Nat} (hc : c ≤ (v 0 : Nat)) (hs : s < 64) (hl : l < 3) (hi : i < (v 1 : Nat)) (F : Int32 → Option Int32) : gX0_isGuarded_l3 U a (J s) (J c) (J l) F (J i) = if (bit s i && decide (dist c (v (33 + i)) ≤ rng l)) = true then some (J 1) else F (J (i + 1)) := by
  have hp := hV.2.2.1
  have hr := @rng_le l
  have h3 := (hV.2.2.2.2.2.2 i hi).2
  have h4 := dist_le hc h3
  have h5 := hV.2.1
  unfold gX0_isGuarded_l3
  simp only [C_rng hl]
  simp (disch := omega) only [wb1, wb2, wb3, wb4, wc1, wc2, zb1_ite, zb2_ite, zb3_ite, zb4_ite, zzc1_ite, zzc2_ite, J_lit, J_n1, J_n2, J_add, J_mul, J_lt, J_le, J_eq, J_eN, N_eJ, J_eN2, J_nn, J_lN, N_lJ, J_leN, N_leJ, NN_l0, NN_eN, bJ_0, bJ_1, bJ_ite, zbz_b, zbz_0, zbz_1, zag_J, zas_J, ite_true, ite_false, if_true, if_false, ite_self, reduceIte, not_true_eq_false, not_false_eq_true, J_o, Nat.reduceEqDiff, Nat.reduceAdd, Nat.reduceMul, Nat.reduceSub, Nat.reduceLT, Nat.reduceLeDiff, Nat.one_ne_zero, V_p h, J_bit s hs i (by omega), V_pl h, C_way h hV, way_0]
  rw [if_neg (by omega)]
  cases bit s i
  · rfl
  · by_cases hq : rng l < dist c (v (33 + i))
    · simp [hq, show ¬ dist c (v (33 + i)) ≤ rng l by omega]
    · simp [hq, show dist c (v (33 + i)) ≤ rng l by omega]
theorem C_isGuarded {U : zCS} {a : Nat} {v : zV} (h : isVal U a v) (hV : VOK v) {c s l : Nat} (hc : c ≤ (v 0 : Nat)) (hs : s < 64) (hl : l < 3) : gX0_isGuarded U a (J c) (J s) (J l) = some (bJ (grd v s l c)) := by
  have hp := hV.2.2.1
  unfold gX0_isGuarded
  refine (zf1_any (v 1) (fun p => bit s p && decide (dist c (v (33 + p)) ≤ rng l)) (some (J 1)) (some (J 0)) (by omega) ?_ ?_ ?_).trans ?_
  · intro i hi hq F
    rw [C_isGuarded_s h hV hc hs hl hi F, if_neg (by rw [hq]; exact Bool.false_ne_true)]
  · intro i hi hq F
    rw [C_isGuarded_s h hV hc hs hl hi F, if_pos hq]
  · intro F
    unfold gX0_isGuarded_l3
    simp (disch := omega) only [wb1, wb2, wb3, wb4, wc1, wc2, zb1_ite, zb2_ite, zb3_ite, zb4_ite, zzc1_ite, zzc2_ite, J_lit, J_n1, J_n2, J_add, J_mul, J_lt, J_le, J_eq, J_eN, N_eJ, J_eN2, J_nn, J_lN, N_lJ, J_leN, N_leJ, NN_l0, NN_eN, bJ_0, bJ_1, bJ_ite, zbz_b, zbz_0, zbz_1, zag_J, zas_J, ite_true, ite_false, if_true, if_false, ite_self, reduceIte, not_true_eq_false, not_false_eq_true, J_o, Nat.reduceEqDiff, Nat.reduceAdd, Nat.reduceMul, Nat.reduceSub, Nat.reduceLT, Nat.reduceLeDiff, Nat.one_ne_zero, V_p h]
    try simp
  · unfold grd
    split <;> rename_i h1
    · rw [h1]; rfl
    · rw [Bool.eq_false_iff.mpr h1]; rfl
theorem C_areGuards {U : zCS} {a : Nat} {v : zV} (h : isVal U a v) (hV : VOK v) {s l : Nat} (hs : s < 64) (hl : l < 3) : gX0_areGuards U a (J s) (J l) = some (bJ (agr v l s)) := by
  have hw := hV.2.1
  unfold gX0_areGuards
  refine (zf1_any (v 0 + 1) (fun c => !grd v s l c) (some (J 0)) (some (J 1)) (by omega) ?_ ?_ ?_).trans ?_
  · intro i hi hq F
    simp only [Bool.not_eq_false'] at hq
    simp (disch := omega) only [gX0_areGuards_l2, wb1, wb2, wb3, wb4, wc1, wc2, zb1_ite, zb2_ite, zb3_ite, zb4_ite, zzc1_ite, zzc2_ite, J_lit, J_n1, J_n2, J_add, J_mul, J_lt, J_le, J_eq, J_eN, N_eJ, J_eN2, J_nn, J_lN, N_lJ, J_leN, N_leJ, NN_l0, NN_eN, bJ_0, bJ_1, bJ_ite, zbz_b, zbz_0, zbz_1, zag_J, zas_J, ite_true, ite_false, if_true, if_false, ite_self, reduceIte, not_true_eq_false, not_false_eq_true, J_o, Nat.reduceEqDiff, Nat.reduceAdd, Nat.reduceMul, Nat.reduceSub, Nat.reduceLT, Nat.reduceLeDiff, Nat.one_ne_zero, V_w h, C_isGuarded h hV, hq]
    rw [if_neg (by omega)]
    try simp
  · intro i hi hq F
    simp only [Bool.not_eq_true'] at hq
    simp (disch := omega) only [gX0_areGuards_l2, wb1, wb2, wb3, wb4, wc1, wc2, zb1_ite, zb2_ite, zb3_ite, zb4_ite, zzc1_ite, zzc2_ite, J_lit, J_n1, J_n2, J_add, J_mul, J_lt, J_le, J_eq, J_eN, N_eJ, J_eN2, J_nn, J_lN, N_lJ, J_leN, N_leJ, NN_l0, NN_eN, bJ_0, bJ_1, bJ_ite, zbz_b, zbz_0, zbz_1, zag_J, zas_J, ite_true, ite_false, if_true, if_false, ite_self, reduceIte, not_true_eq_false, not_false_eq_true, J_o, Nat.reduceEqDiff, Nat.reduceAdd, Nat.reduceMul, Nat.reduceSub, Nat.reduceLT, Nat.reduceLeDiff, Nat.one_ne_zero, V_w h, C_isGuarded h hV, hq]
    rw [if_neg (by omega)]
  · intro F
    simp (disch := omega) only [gX0_areGuards_l2, wb1, wb2, wb3, wb4, wc1, wc2, zb1_ite, zb2_ite, zb3_ite, zb4_ite, zzc1_ite, zzc2_ite, J_lit, J_n1, J_n2, J_add, J_mul, J_lt, J_le, J_eq, J_eN, N_eJ, J_eN2, J_nn, J_lN, N_lJ, J_leN, N_leJ, NN_l0, NN_eN, bJ_0, bJ_1, bJ_ite, zbz_b, zbz_0, zbz_1, zag_J, zas_J, ite_true, ite_false, if_true, if_false, ite_self, reduceIte, not_true_eq_false, not_false_eq_true, J_o, Nat.reduceEqDiff, Nat.reduceAdd, Nat.reduceMul, Nat.reduceSub, Nat.reduceLT, Nat.reduceLeDiff, Nat.one_ne_zero, V_w h]
    try simp
  · unfold agr
    split <;> rename_i h1
    · rw [h1]; rfl
    · rw [Bool.eq_false_iff.mpr h1]; rfl
theorem any_S {p : Nat → Bool} {n : Nat} : (List.range (n + 1)).any p = ((List.range n).any p || p n) := by
  rw [List.range_succ, List.any_append]
  simp
theorem R_areGuarded {M : zMS} {v : zV} (h : isMV M v) (hV : VOK v) {s l : Nat} (hs : s < 64) (hl : l < 3) : gX12_areGuarded M (J s) (J l) = some (bJ (agr v l s)) := by
  have hw := hV.2.1
  have hp := hV.2.2.1
  have hr := @rng_le l
  have inn : ∀ c, c ≤ (v 0 : Nat) → zf2 (gX12_areGuarded_l16 M (J s) (J c) (J l)) zfu (J 0) (J 0) = some (bJ (grd v s l c)) := by
    intro c hc
    exact zf2_run (f := gX12_areGuarded_l16 M (J s) (J c) (J l)) (v 1) (fun i => bJ ((List.range i).any fun p => bit s p && decide (dist c (v (33 + p)) ≤ rng l))) J (by
      intro i hi F
      have h3 := (hV.2.2.2.2.2.2 i hi).2
      have h4 := dist_le hc h3
      rw [any_S]
      simp (disch := omega) only [gX12_areGuarded_l16, wb1, wb2, wb3, wb4, wc1, wc2, zb1_ite, zb2_ite, zb3_ite, zb4_ite, zzc1_ite, zzc2_ite, J_lit, J_n1, J_n2, J_add, J_mul, J_lt, J_le, J_eq, J_eN, N_eJ, J_eN2, J_nn, J_lN, N_lJ, J_leN, N_leJ, NN_l0, NN_eN, bJ_0, bJ_1, bJ_ite, zbz_b, zbz_0, zbz_1, zag_J, zas_J, ite_true, ite_false, if_true, if_false, ite_self, reduceIte, not_true_eq_false, not_false_eq_true, J_o, Nat.reduceEqDiff, Nat.reduceAdd, Nat.reduceMul, Nat.reduceSub, Nat.reduceLT, Nat.reduceLeDiff, Nat.one_ne_zero, R_p h, R_of h, R_has, R_apart, R_range]
      rw [if_neg (by omega)]
      cases (List.range i).any fun p => bit s p && decide (dist c (v (33 + p)) ≤ rng l)
      · cases bit s i
        · rfl
        · by_cases hq : rng l < dist c (v (33 + i))
          · simp [hq, show ¬ dist c (v (33 + i)) ≤ rng l by omega, bJ]
          · simp [hq, show dist c (v (33 + i)) ≤ rng l by omega, bJ]
      · rfl) (by
      intro F
      simp (disch := omega) only [gX12_areGuarded_l16, wb1, wb2, wb3, wb4, wc1, wc2, zb1_ite, zb2_ite, zb3_ite, zb4_ite, zzc1_ite, zzc2_ite, J_lit, J_n1, J_n2, J_add, J_mul, J_lt, J_le, J_eq, J_eN, N_eJ, J_eN2, J_nn, J_lN, N_lJ, J_leN, N_leJ, NN_l0, NN_eN, bJ_0, bJ_1, bJ_ite, zbz_b, zbz_0, zbz_1, zag_J, zas_J, ite_true, ite_false, if_true, if_false, ite_self, reduceIte, not_true_eq_false, not_false_eq_true, J_o, Nat.reduceEqDiff, Nat.reduceAdd, Nat.reduceMul, Nat.reduceSub, Nat.reduceLT, Nat.reduceLeDiff, Nat.one_ne_zero, R_p h]
      simp [grd]) (zfu_lt (by omega))
  unfold gX12_areGuarded
  refine (zf1_any (v 0 + 1) (fun c => !grd v s l c) (some (J 0)) (some (J 1)) (by omega) ?_ ?_ ?_).trans ?_
  · intro i hi hq F
    simp only [Bool.not_eq_false'] at hq
    simp (disch := omega) only [gX12_areGuarded_l2, wb1, wb2, wb3, wb4, wc1, wc2, zb1_ite, zb2_ite, zb3_ite, zb4_ite, zzc1_ite, zzc2_ite, J_lit, J_n1, J_n2, J_add, J_mul, J_lt, J_le, J_eq, J_eN, N_eJ, J_eN2, J_nn, J_lN, N_lJ, J_leN, N_leJ, NN_l0, NN_eN, bJ_0, bJ_1, bJ_ite, zbz_b, zbz_0, zbz_1, zag_J, zas_J, ite_true, ite_false, if_true, if_false, ite_self, reduceIte, not_true_eq_false, not_false_eq_true, J_o, Nat.reduceEqDiff, Nat.reduceAdd, Nat.reduceMul, Nat.reduceSub, Nat.reduceLT, Nat.reduceLeDiff, Nat.one_ne_zero, R_w h, inn i (by omega), hq]
    rw [if_neg (by omega)]
    try simp
  · intro i hi hq F
    simp only [Bool.not_eq_true'] at hq
    simp (disch := omega) only [gX12_areGuarded_l2, wb1, wb2, wb3, wb4, wc1, wc2, zb1_ite, zb2_ite, zb3_ite, zb4_ite, zzc1_ite, zzc2_ite, J_lit, J_n1, J_n2, J_add, J_mul, J_lt, J_le, J_eq, J_eN, N_eJ, J_eN2, J_nn, J_lN, N_lJ, J_leN, N_leJ, NN_l0, NN_eN, bJ_0, bJ_1, bJ_ite, zbz_b, zbz_0, zbz_1, zag_J, zas_J, ite_true, ite_false, if_true, if_false, ite_self, reduceIte, not_true_eq_false, not_false_eq_true, J_o, Nat.reduceEqDiff, Nat.reduceAdd, Nat.reduceMul, Nat.reduceSub, Nat.reduceLT, Nat.reduceLeDiff, Nat.one_ne_zero, R_w h, inn i (by omega), hq]
    rw [if_neg (by omega)]
  · intro F
    simp (disch := omega) only [gX12_areGuarded_l2, wb1, wb2, wb3, wb4, wc1, wc2, zb1_ite, zb2_ite, zb3_ite, zb4_ite, zzc1_ite, zzc2_ite, J_lit, J_n1, J_n2, J_add, J_mul, J_lt, J_le, J_eq, J_eN, N_eJ, J_eN2, J_nn, J_lN, N_lJ, J_leN, N_leJ, NN_l0, NN_eN, bJ_0, bJ_1, bJ_ite, zbz_b, zbz_0, zbz_1, zag_J, zas_J, ite_true, ite_false, if_true, if_false, ite_self, reduceIte, not_true_eq_false, not_false_eq_true, J_o, Nat.reduceEqDiff, Nat.reduceAdd, Nat.reduceMul, Nat.reduceSub, Nat.reduceLT, Nat.reduceLeDiff, Nat.one_ne_zero, R_w h]
    try simp
  · unfold agr
    split <;> rename_i h1
    · rw [h1]; rfl
    · rw [Bool.eq_false_iff.mpr h1]; rfl
theorem R_ones {s : Nat} (hs : s < 64) : gX12_ones (J s) = some (J (pop s)) := by
  unfold gX12_ones
  have hze := zf2_run (f := gX12_ones_l4 (J s)) (r := some (J (pop s))) 6 (fun i => J (cnt (fun k => s.testBit k) i)) J (by
    intro i hi F
    simp (disch := omega) only [gX12_ones_l4, wb1, wb2, wb3, wb4, wc1, wc2, zb1_ite, zb2_ite, zb3_ite, zb4_ite, zzc1_ite, zzc2_ite, J_lit, J_n1, J_n2, J_add, J_mul, J_lt, J_le, J_eq, J_eN, N_eJ, J_eN2, J_nn, J_lN, N_lJ, J_leN, N_leJ, NN_l0, NN_eN, bJ_0, bJ_1, bJ_ite, zbz_b, zbz_0, zbz_1, zag_J, zas_J, ite_true, ite_false, if_true, if_false, ite_self, reduceIte, not_true_eq_false, not_false_eq_true, J_o, Nat.reduceEqDiff, Nat.reduceAdd, Nat.reduceMul, Nat.reduceSub, Nat.reduceLT, Nat.reduceLeDiff, Nat.one_ne_zero, R_has, cnt_s]
    rw [if_neg (by omega)]
    unfold bit
    cases s.testBit i <;> simp) (by
    intro F
    simp (disch := omega) only [gX12_ones_l4, wb1, wb2, wb3, wb4, wc1, wc2, zb1_ite, zb2_ite, zb3_ite, zb4_ite, zzc1_ite, zzc2_ite, J_lit, J_n1, J_n2, J_add, J_mul, J_lt, J_le, J_eq, J_eN, N_eJ, J_eN2, J_nn, J_lN, N_lJ, J_leN, N_leJ, NN_l0, NN_eN, bJ_0, bJ_1, bJ_ite, zbz_b, zbz_0, zbz_1, zag_J, zas_J, ite_true, ite_false, if_true, if_false, ite_self, reduceIte, not_true_eq_false, not_false_eq_true, J_o, Nat.reduceEqDiff, Nat.reduceAdd, Nat.reduceMul, Nat.reduceSub, Nat.reduceLT, Nat.reduceLeDiff, Nat.one_ne_zero]
    rfl) (zfu_lt (by omega))
  exact (congrArg (zb1 · fun x => some x) hze)
theorem ite_or {A : Type} {c : Bool} {a b x : A} (h : (if c = true then a else b) = x) : x = a ∨ x = b := by
  cases c
  · exact .inr h.symm
  · exact .inl h.symm
def gst (v : zV) (l : Nat) : Nat → Option Nat := itr (fun s b => if agr v l s && (match b with | none => true | some q => decide (pop s < pop q)) then some s else b) none
theorem gst_lt {v : zV} {l : Nat} (n q : Nat) (h : gst v l n = some q) : q < n := by
  have hze := itr_i (g := fun s b => if agr v l s && (match b with | none => true | some q => decide (pop s < pop q)) then some s else b) (a := none) (P := fun i b => ∀ q, b = some q → q < i) (fun q h => by cases h) (fun i b hb q hq => by
    rcases ite_or hq with h1 | h1
    · cases h1; omega
    · exact Nat.lt_succ_of_lt (hb q h1.symm)) n
  exact hze q h
theorem C_fewestGuards {U : zCS} {a : Nat} {v : zV} (h : isVal U a v) (hV : VOK v) {l : Nat} (hl : l < 3) : gX0_fewestGuards U a (J l) = some (oJ (gst v l (2 ^ (v 1 : Nat)))) := by
  have hp := hV.2.2.1
  have h64 : 2 ^ (v 1 : Nat) ≤ 64 := Nat.pow_le_pow_right (by decide) hp
  unfold gX0_fewestGuards
  have hze := zf3_run (f := gX0_fewestGuards_l8 U a (J l)) (r := some (oJ (gst v l (2 ^ (v 1 : Nat))))) (2 ^ (v 1 : Nat)) (fun i => oJ (gst v l i)) (fun i => J (match gst v l i with | none => 7 | some q => pop q)) J (by
    intro i hi F
    have h1 := @pop_le i
    have hg : gst v l (i + 1) = if agr v l i && (match gst v l i with | none => true | some q => decide (pop i < pop q)) then some i else gst v l i := rfl
    rw [hg]
    simp (disch := omega) only [gX0_fewestGuards_l8, wb1, wb2, wb3, wb4, wc1, wc2, zb1_ite, zb2_ite, zb3_ite, zb4_ite, zzc1_ite, zzc2_ite, J_lit, J_n1, J_n2, J_add, J_mul, J_lt, J_le, J_eq, J_eN, N_eJ, J_eN2, J_nn, J_lN, N_lJ, J_leN, N_leJ, NN_l0, NN_eN, bJ_0, bJ_1, bJ_ite, zbz_b, zbz_0, zbz_1, zag_J, zas_J, ite_true, ite_false, if_true, if_false, ite_self, reduceIte, not_true_eq_false, not_false_eq_true, J_o, Nat.reduceEqDiff, Nat.reduceAdd, Nat.reduceMul, Nat.reduceSub, Nat.reduceLT, Nat.reduceLeDiff, Nat.one_ne_zero, V_p h, J_shl, C_bitCount6, C_areGuards h hV]
    rw [if_neg (by omega)]
    cases hq : gst v l i with
    | none =>
      try simp only
      simp (disch := omega) only [wb1, wb2, wb3, wb4, wc1, wc2, zb1_ite, zb2_ite, zb3_ite, zb4_ite, zzc1_ite, zzc2_ite, J_lit, J_n1, J_n2, J_add, J_mul, J_lt, J_le, J_eq, J_eN, N_eJ, J_eN2, J_nn, J_lN, N_lJ, J_leN, N_leJ, NN_l0, NN_eN, bJ_0, bJ_1, bJ_ite, zbz_b, zbz_0, zbz_1, zag_J, zas_J, ite_true, ite_false, if_true, if_false, ite_self, reduceIte, not_true_eq_false, not_false_eq_true, J_o, Nat.reduceEqDiff, Nat.reduceAdd, Nat.reduceMul, Nat.reduceSub, Nat.reduceLT, Nat.reduceLeDiff, Nat.one_ne_zero]
      rw [if_neg (by omega)]
      cases agr v l i <;> simp [oJ]
    | some q =>
      have h2 := @pop_le q
      try simp only
      simp (disch := omega) only [wb1, wb2, wb3, wb4, wc1, wc2, zb1_ite, zb2_ite, zb3_ite, zb4_ite, zzc1_ite, zzc2_ite, J_lit, J_n1, J_n2, J_add, J_mul, J_lt, J_le, J_eq, J_eN, N_eJ, J_eN2, J_nn, J_lN, N_lJ, J_leN, N_leJ, NN_l0, NN_eN, bJ_0, bJ_1, bJ_ite, zbz_b, zbz_0, zbz_1, zag_J, zas_J, ite_true, ite_false, if_true, if_false, ite_self, reduceIte, not_true_eq_false, not_false_eq_true, J_o, Nat.reduceEqDiff, Nat.reduceAdd, Nat.reduceMul, Nat.reduceSub, Nat.reduceLT, Nat.reduceLeDiff, Nat.one_ne_zero]
      by_cases h3 : pop i < pop q
      · rw [if_neg (by omega)]
        cases agr v l i <;> simp [oJ, h3]
      · rw [if_pos (by omega)]
        simp [oJ, h3]) (by
    intro F
    simp (disch := omega) only [gX0_fewestGuards_l8, wb1, wb2, wb3, wb4, wc1, wc2, zb1_ite, zb2_ite, zb3_ite, zb4_ite, zzc1_ite, zzc2_ite, J_lit, J_n1, J_n2, J_add, J_mul, J_lt, J_le, J_eq, J_eN, N_eJ, J_eN2, J_nn, J_lN, N_lJ, J_leN, N_leJ, NN_l0, NN_eN, bJ_0, bJ_1, bJ_ite, zbz_b, zbz_0, zbz_1, zag_J, zas_J, ite_true, ite_false, if_true, if_false, ite_self, reduceIte, not_true_eq_false, not_false_eq_true, J_o, Nat.reduceEqDiff, Nat.reduceAdd, Nat.reduceMul, Nat.reduceSub, Nat.reduceLT, Nat.reduceLeDiff, Nat.one_ne_zero, V_p h, J_shl]
    simp) (zfu_lt (by omega))
  exact (congrArg (zb1 · fun x => some x) hze)
theorem R_guards_l {M : zMS} {v : zV} (h : isMV M v) (hV : VOK v) {l : Nat} (hl : l < 3) : zf2 (gX12_guards_l29 M (J l)) zfu NN (J 0) = some (oJ (gst v l (2 ^ (v 1 : Nat)))) := by
  have hp := hV.2.2.1
  have h64 : 2 ^ (v 1 : Nat) ≤ 64 := Nat.pow_le_pow_right (by decide) hp
  exact zf2_run (f := gX12_guards_l29 M (J l)) (2 ^ (v 1 : Nat)) (fun i => oJ (gst v l i)) J (by
    intro i hi F
    have h1 := @pop_le i
    have hg : gst v l (i + 1) = if agr v l i && (match gst v l i with | none => true | some q => decide (pop i < pop q)) then some i else gst v l i := rfl
    rw [hg]
    simp (disch := omega) only [gX12_guards_l29, wb1, wb2, wb3, wb4, wc1, wc2, zb1_ite, zb2_ite, zb3_ite, zb4_ite, zzc1_ite, zzc2_ite, J_lit, J_n1, J_n2, J_add, J_mul, J_lt, J_le, J_eq, J_eN, N_eJ, J_eN2, J_nn, J_lN, N_lJ, J_leN, N_leJ, NN_l0, NN_eN, bJ_0, bJ_1, bJ_ite, zbz_b, zbz_0, zbz_1, zag_J, zas_J, ite_true, ite_false, if_true, if_false, ite_self, reduceIte, not_true_eq_false, not_false_eq_true, J_o, Nat.reduceEqDiff, Nat.reduceAdd, Nat.reduceMul, Nat.reduceSub, Nat.reduceLT, Nat.reduceLeDiff, Nat.one_ne_zero, R_p h, J_shl, R_areGuarded h hV, R_ones]
    rw [if_neg (by omega)]
    cases hq : gst v l i with
    | none =>
      simp only [oJ_n]
      simp (disch := omega) only [wb1, wb2, wb3, wb4, wc1, wc2, zb1_ite, zb2_ite, zb3_ite, zb4_ite, zzc1_ite, zzc2_ite, J_lit, J_n1, J_n2, J_add, J_mul, J_lt, J_le, J_eq, J_eN, N_eJ, J_eN2, J_nn, J_lN, N_lJ, J_leN, N_leJ, NN_l0, NN_eN, bJ_0, bJ_1, bJ_ite, zbz_b, zbz_0, zbz_1, zag_J, zas_J, ite_true, ite_false, if_true, if_false, ite_self, reduceIte, not_true_eq_false, not_false_eq_true, J_o, Nat.reduceEqDiff, Nat.reduceAdd, Nat.reduceMul, Nat.reduceSub, Nat.reduceLT, Nat.reduceLeDiff, Nat.one_ne_zero]
      cases agr v l i <;> simp [oJ]
    | some q =>
      have h2 := @pop_le q
      have h4 := gst_lt _ _ hq
      simp only [oJ_s]
      simp (disch := omega) only [wb1, wb2, wb3, wb4, wc1, wc2, zb1_ite, zb2_ite, zb3_ite, zb4_ite, zzc1_ite, zzc2_ite, J_lit, J_n1, J_n2, J_add, J_mul, J_lt, J_le, J_eq, J_eN, N_eJ, J_eN2, J_nn, J_lN, N_lJ, J_leN, N_leJ, NN_l0, NN_eN, bJ_0, bJ_1, bJ_ite, zbz_b, zbz_0, zbz_1, zag_J, zas_J, ite_true, ite_false, if_true, if_false, ite_self, reduceIte, not_true_eq_false, not_false_eq_true, J_o, Nat.reduceEqDiff, Nat.reduceAdd, Nat.reduceMul, Nat.reduceSub, Nat.reduceLT, Nat.reduceLeDiff, Nat.one_ne_zero, R_ones]
      cases agr v l i
      · simp [oJ]
      · by_cases h3 : pop i < pop q
        · simp [oJ, h3, Nat.not_le.mpr h3]
        · simp [oJ, h3, Nat.not_lt.mp h3]) (by
    intro F
    simp (disch := omega) only [gX12_guards_l29, wb1, wb2, wb3, wb4, wc1, wc2, zb1_ite, zb2_ite, zb3_ite, zb4_ite, zzc1_ite, zzc2_ite, J_lit, J_n1, J_n2, J_add, J_mul, J_lt, J_le, J_eq, J_eN, N_eJ, J_eN2, J_nn, J_lN, N_lJ, J_leN, N_leJ, NN_l0, NN_eN, bJ_0, bJ_1, bJ_ite, zbz_b, zbz_0, zbz_1, zag_J, zas_J, ite_true, ite_false, if_true, if_false, ite_self, reduceIte, not_true_eq_false, not_false_eq_true, J_o, Nat.reduceEqDiff, Nat.reduceAdd, Nat.reduceMul, Nat.reduceSub, Nat.reduceLT, Nat.reduceLeDiff, Nat.one_ne_zero, R_p h, J_shl]
    simp) (zfu_lt (by omega))
