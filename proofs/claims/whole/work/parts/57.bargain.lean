/-! bargains -/
def sgI (w a b : Nat) : Int32 := if b < a then J 0 else J ((a + b) / 2) - J w
def bgI (w a b : Nat) : Int32 := if b < a then J 0 else J w - J ((a + b) / 2)
def mxI (a b : Int32) : Int32 := if a < b then b else a
def bst (s : Nat → Int32) : Nat → Int32
  | 0 => s 0
  | i + 1 => mxI (bst s i) (s (i + 1))
theorem bst_s {s : Nat → Int32} {i : Nat} : bst s (i + 1) = mxI (bst s i) (s (i + 1)) := rfl
theorem C_sellerGain {w a b : Nat} (ha : a < 100) (hb : b < 100) : gX8_sellerGain (J a) (J b) (J w) = some (sgI w a b) := by
  unfold gX8_sellerGain sgI
  simp (disch := omega) only [wb1, wb2, wb3, wb4, wc1, wc2, zb1_ite, zb2_ite, zb3_ite, zb4_ite, zzc1_ite, zzc2_ite, J_lit, J_n1, J_n2, J_add, J_mul, J_lt, J_le, J_eq, J_eN, N_eJ, J_eN2, J_nn, J_lN, N_lJ, J_leN, N_leJ, NN_l0, NN_eN, bJ_0, bJ_1, bJ_ite, zbz_b, zbz_0, zbz_1, zag_J, zas_J, ite_true, ite_false, if_true, if_false, ite_self, reduceIte, not_true_eq_false, not_false_eq_true, J_o, Nat.reduceEqDiff, Nat.reduceAdd, Nat.reduceMul, Nat.reduceSub, Nat.reduceLT, Nat.reduceLeDiff, Nat.one_ne_zero, J_div]
  split <;> rfl
theorem C_buyerGain {w a b : Nat} (ha : a < 100) (hb : b < 100) : gX8_buyerGain (J a) (J b) (J w) = some (bgI w a b) := by
  unfold gX8_buyerGain bgI
  simp (disch := omega) only [wb1, wb2, wb3, wb4, wc1, wc2, zb1_ite, zb2_ite, zb3_ite, zb4_ite, zzc1_ite, zzc2_ite, J_lit, J_n1, J_n2, J_add, J_mul, J_lt, J_le, J_eq, J_eN, N_eJ, J_eN2, J_nn, J_lN, N_lJ, J_leN, N_leJ, NN_l0, NN_eN, bJ_0, bJ_1, bJ_ite, zbz_b, zbz_0, zbz_1, zag_J, zas_J, ite_true, ite_false, if_true, if_false, ite_self, reduceIte, not_true_eq_false, not_false_eq_true, J_o, Nat.reduceEqDiff, Nat.reduceAdd, Nat.reduceMul, Nat.reduceSub, Nat.reduceLT, Nat.reduceLeDiff, Nat.one_ne_zero, J_div]
  split <;> rfl
theorem R_soldFor {w a b : Nat} (ha : a < 100) (hb : b < 100) : gX12_soldFor (J a) (J b) (J w) = some (sgI w a b) := by
  unfold gX12_soldFor sgI
  simp (disch := omega) only [wb1, wb2, wb3, wb4, wc1, wc2, zb1_ite, zb2_ite, zb3_ite, zb4_ite, zzc1_ite, zzc2_ite, J_lit, J_n1, J_n2, J_add, J_mul, J_lt, J_le, J_eq, J_eN, N_eJ, J_eN2, J_nn, J_lN, N_lJ, J_leN, N_leJ, NN_l0, NN_eN, bJ_0, bJ_1, bJ_ite, zbz_b, zbz_0, zbz_1, zag_J, zas_J, ite_true, ite_false, if_true, if_false, ite_self, reduceIte, not_true_eq_false, not_false_eq_true, J_o, Nat.reduceEqDiff, Nat.reduceAdd, Nat.reduceMul, Nat.reduceSub, Nat.reduceLT, Nat.reduceLeDiff, Nat.one_ne_zero, J_div]
  by_cases h : a ≤ b
  · simp [h, Nat.not_lt.mpr h]
  · simp [h, Nat.not_le.mp h]
theorem R_boughtFor {w a b : Nat} (ha : a < 100) (hb : b < 100) : gX12_boughtFor (J a) (J b) (J w) = some (bgI w a b) := by
  unfold gX12_boughtFor bgI
  simp (disch := omega) only [wb1, wb2, wb3, wb4, wc1, wc2, zb1_ite, zb2_ite, zb3_ite, zb4_ite, zzc1_ite, zzc2_ite, J_lit, J_n1, J_n2, J_add, J_mul, J_lt, J_le, J_eq, J_eN, N_eJ, J_eN2, J_nn, J_lN, N_lJ, J_leN, N_leJ, NN_l0, NN_eN, bJ_0, bJ_1, bJ_ite, zbz_b, zbz_0, zbz_1, zag_J, zas_J, ite_true, ite_false, if_true, if_false, ite_self, reduceIte, not_true_eq_false, not_false_eq_true, J_o, Nat.reduceEqDiff, Nat.reduceAdd, Nat.reduceMul, Nat.reduceSub, Nat.reduceLT, Nat.reduceLeDiff, Nat.one_ne_zero, J_div]
  by_cases h : a ≤ b
  · simp [h, Nat.not_lt.mpr h]
  · simp [h, Nat.not_le.mp h]
theorem R_gr {a b : Int32} : gX12_greater a b = some (mxI a b) := by
  unfold gX12_greater mxI
  rw [zb1_ite]
  simp (disch := omega) only [wb1]
  by_cases h : a < b
  · rw [if_pos h, if_pos (Int32.le_of_lt h)]
  · by_cases h2 : a ≤ b
    · have : a = b := Int32.le_antisymm h2 (Int32.not_lt.mp h)
      rw [if_pos h2, if_neg h, this]
    · rw [if_neg h2, if_neg h]
def FARN : Int32 := -1000000
theorem J_far : -(J 1000000) = FARN := (rfl)
theorem FARN_i : FARN.toInt = -1000000 := by decide
theorem FARN_0 : FARN < J 0 := by decide
theorem sg_far {w a b : Nat} (hw : w < 100) (ha : a < 100) (hb : b < 100) : mxI FARN (sgI w a b) = sgI w a b := by
  unfold mxI
  refine if_pos ?_
  unfold sgI
  split
  · exact FARN_0
  · rw [Int32.lt_iff_toInt_lt, J_subI (by omega) (by omega), FARN_i]
    omega
theorem bg_far {w a b : Nat} (hw : w < 100) (ha : a < 100) (hb : b < 100) : mxI FARN (bgI w a b) = bgI w a b := by
  unfold mxI
  refine if_pos ?_
  unfold bgI
  split
  · exact FARN_0
  · rw [Int32.lt_iff_toInt_lt, J_subI (by omega) (by omega), FARN_i]
    omega
/-- what stays of the class's state but for some rows -/
def Uarr (U U' : zCS) (A : Nat → Prop) : Prop := U'.1 = U.1 ∧ U'.2.2 = U.2.2 ∧ ∀ q, ¬ A q → U'.2.1 q = U.2.1 q
theorem csA_1 {U : zCS} {a : Nat} {g : Nat → Int32} : (csA U a g).2.1 a = g := if_pos rfl
theorem csA_o2 {U : zCS} {a q : Nat} {g : Nat → Int32} (h : q ≠ a) : (csA U a g).2.1 q = U.2.1 q := if_neg h
theorem csA_i {U : zCS} {a : Nat} {g : Nat → Int32} : (csA U a g).1 = U.1 := rfl
theorem csA_q {U : zCS} {a : Nat} {g : Nat → Int32} : (csA U a g).2.2 = U.2.2 := rfl
theorem csI_1 {U : zCS} {a k : Nat} {x : Int32} : (csI U a k x).1 a k = x := by simp [csI]
theorem csI_o2 {U : zCS} {a k q j : Nat} {x : Int32} (h : q ≠ a ∨ j ≠ k) : (csI U a k x).1 q j = U.1 q j := by
  unfold csI
  simp only
  exact if_neg (fun z => by omega)
theorem csI_a {U : zCS} {a k : Nat} {x : Int32} : (csI U a k x).2 = U.2 := rfl
theorem C_findBest {U : zCS} {t ws wb : Nat} : ∃ U', gX8_findBest U t (J ws) (J wb) = some U' ∧ Uarr U U' (fun q => q = t + 1 ∨ q = t + 2) ∧ (∀ b, b < 100 → U'.2.1 (t + 1) b = bst (fun a => sgI ws a b) 99) ∧ ∀ a, a < 100 → U'.2.1 (t + 2) a = bst (fun b => bgI wb a b) 99 := by
  unfold gX8_findBest
  obtain ⟨r, hr, hQ⟩ := zf2_inv (f := gX8_findBest_l2 (J ws) (J wb) t) 100 (fun i x m => x = J i ∧ Uarr U m (fun q => q = t + 1 ∨ q = t + 2) ∧ (∀ b, b < i → m.2.1 (t + 1) b = bst (fun a => sgI ws a b) 99) ∧ ∀ a, a < i → m.2.1 (t + 2) a = bst (fun b => bgI wb a b) 99) (fun U' => Uarr U U' (fun q => q = t + 1 ∨ q = t + 2) ∧ (∀ b, b < 100 → U'.2.1 (t + 1) b = bst (fun a => sgI ws a b) 99) ∧ ∀ a, a < 100 → U'.2.1 (t + 2) a = bst (fun b => bgI wb a b) 99) (by
    intro i x m hi hP F
    obtain ⟨rfl, hm, h1, h2⟩ := hP
    have hz := zf3_run (f := gX8_findBest_l27 (J i) (J ws) (J wb)) (r := some (bst (fun a => sgI ws a i) 99, bst (fun b => bgI wb i b) 99)) 99 (fun j => bst (fun a => sgI ws a i) j) (fun j => bst (fun b => bgI wb i b) j) (fun j => J (j + 1)) (by
      intro j hj G
      simp (disch := omega) only [gX8_findBest_l27, wb1, wb2, wb3, wb4, wc1, wc2, zb1_ite, zb2_ite, zb3_ite, zb4_ite, zzc1_ite, zzc2_ite, J_lit, J_n1, J_n2, J_add, J_mul, J_lt, J_le, J_eq, J_eN, N_eJ, J_eN2, J_nn, J_lN, N_lJ, J_leN, N_leJ, NN_l0, NN_eN, bJ_0, bJ_1, bJ_ite, zbz_b, zbz_0, zbz_1, zag_J, zas_J, ite_true, ite_false, if_true, if_false, ite_self, reduceIte, not_true_eq_false, not_false_eq_true, J_o, Nat.reduceEqDiff, Nat.reduceAdd, Nat.reduceMul, Nat.reduceSub, Nat.reduceLT, Nat.reduceLeDiff, Nat.one_ne_zero, C_sellerGain, C_buyerGain]
      rw [if_neg (by omega)]
      rfl) (by
      intro G
      simp (disch := omega) only [gX8_findBest_l27, wb1, wb2, wb3, wb4, wc1, wc2, zb1_ite, zb2_ite, zb3_ite, zb4_ite, zzc1_ite, zzc2_ite, J_lit, J_n1, J_n2, J_add, J_mul, J_lt, J_le, J_eq, J_eN, N_eJ, J_eN2, J_nn, J_lN, N_lJ, J_leN, N_leJ, NN_l0, NN_eN, bJ_0, bJ_1, bJ_ite, zbz_b, zbz_0, zbz_1, zag_J, zas_J, ite_true, ite_false, if_true, if_false, ite_self, reduceIte, not_true_eq_false, not_false_eq_true, J_o, Nat.reduceEqDiff, Nat.reduceAdd, Nat.reduceMul, Nat.reduceSub, Nat.reduceLT, Nat.reduceLeDiff, Nat.one_ne_zero]) (zfu_lt (by omega))
    have hz' : zf3 (gX8_findBest_l27 (J i) (J ws) (J wb)) zfu (sgI ws 0 i) (bgI wb i 0) (J 1) = some (bst (fun a => sgI ws a i) 99, bst (fun b => bgI wb i b) 99) := hz
    simp (disch := omega) only [gX8_findBest_l2, wb1, wb2, wb3, wb4, wc1, wc2, zb1_ite, zb2_ite, zb3_ite, zb4_ite, zzc1_ite, zzc2_ite, J_lit, J_n1, J_n2, J_add, J_mul, J_lt, J_le, J_eq, J_eN, N_eJ, J_eN2, J_nn, J_lN, N_lJ, J_leN, N_leJ, NN_l0, NN_eN, bJ_0, bJ_1, bJ_ite, zbz_b, zbz_0, zbz_1, zag_J, zas_J, ite_true, ite_false, if_true, if_false, ite_self, reduceIte, not_true_eq_false, not_false_eq_true, J_o, Nat.reduceEqDiff, Nat.reduceAdd, Nat.reduceMul, Nat.reduceSub, Nat.reduceLT, Nat.reduceLeDiff, Nat.one_ne_zero, C_sellerGain, C_buyerGain, hz', csA_o2]
    rw [if_neg (by omega)]
    refine ⟨_, _, rfl, rfl, ⟨hm.1, hm.2.1, fun q hq => ?_⟩, fun b hb => ?_, fun a ha => ?_⟩
    · rw [csA_o2 (fun z => hq (.inr z)), csA_o2 (fun z => hq (.inl z))]
      exact hm.2.2 q hq
    · rw [csA_o2 (by omega), csA_1]
      by_cases hbi : b = i
      · subst hbi; exact upd_1
      · rw [upd_o hbi]; exact h1 b (by omega)
    · rw [csA_1]
      by_cases hai : a = i
      · subst hai; exact upd_1
      · rw [upd_o hai]; exact h2 a (by omega)) (by
    intro x m hP F
    obtain ⟨rfl, hm, h1, h2⟩ := hP
    simp (disch := omega) only [gX8_findBest_l2, wb1, wb2, wb3, wb4, wc1, wc2, zb1_ite, zb2_ite, zb3_ite, zb4_ite, zzc1_ite, zzc2_ite, J_lit, J_n1, J_n2, J_add, J_mul, J_lt, J_le, J_eq, J_eN, N_eJ, J_eN2, J_nn, J_lN, N_lJ, J_leN, N_leJ, NN_l0, NN_eN, bJ_0, bJ_1, bJ_ite, zbz_b, zbz_0, zbz_1, zag_J, zas_J, ite_true, ite_false, if_true, if_false, ite_self, reduceIte, not_true_eq_false, not_false_eq_true, J_o, Nat.reduceEqDiff, Nat.reduceAdd, Nat.reduceMul, Nat.reduceSub, Nat.reduceLT, Nat.reduceLeDiff, Nat.one_ne_zero]
    exact ⟨m, rfl, hm, h1, h2⟩) (zfu_lt (n := 100) (by omega)) (x0 := J 0) (x1 := U) ⟨rfl, ⟨rfl, rfl, fun _ _ => rfl⟩, fun b hb => by omega, fun b hb => by omega⟩
  exact ⟨r, congrArg (zb1 · fun x => some x) hr, hQ⟩
def isR (ws wb a b : Nat) : Bool := decide (sgI ws a b = bst (fun a => sgI ws a b) 99) && decide (bgI wb a b = bst (fun b => bgI wb a b) 99)
def csm (p : Nat → Nat → Bool) : Nat → Nat
  | 0 => 0
  | i + 1 => csm p i + cnt (p i) 100
theorem csm_le {p : Nat → Nat → Bool} : ∀ i, csm p i ≤ 100 * i
  | 0 => Nat.le_refl _
  | i + 1 => by have := csm_le (p := p) i; have := cnt_le (p := p i) 100; show csm p i + _ ≤ _; omega
def rst (ws wb t : Nat) : Nat := csm (fun a b => isR ws wb a b && (decide (t = 0) || decide (a ≤ b))) 100
theorem cnt_z {p : Nat → Bool} : ∀ {n : Nat}, (∀ i, i < n → p i = false) → cnt p n = 0
  | 0, _ => rfl
  | n + 1, h => by rw [cnt_s, cnt_z (fun i hi => h i (by omega)), h n (by omega)]; rfl
theorem C_rests {U : zCS} {t ws wb tr : Nat} (htr : tr < 2) : ∃ U', gX8_rests U t (J ws) (J wb) (J tr) = some (J (rst ws wb tr), U') ∧ Uarr U U' (fun q => q = t + 1 ∨ q = t + 2) := by
  obtain ⟨U', hU, hs, h1, h2⟩ := C_findBest (U := U) (t := t) (ws := ws) (wb := wb)
  refine ⟨U', ?_, hs⟩
  have inn : ∀ a acc, a < 100 → zf2 (gX8_rests_l31 (J a) (J ws) U' t (J wb)) zfu (J acc) (J (if tr = 0 then 0 else a)) = some (J (acc + cnt (fun b => isR ws wb a b && (decide (tr = 0) || decide (a ≤ b))) 100)) := by
    intro a acc ha
    have hst : cnt (fun b => isR ws wb a b && (decide (tr = 0) || decide (a ≤ b))) (if tr = 0 then 0 else a) = 0 := by
      by_cases h0 : tr = 0
      · rw [if_pos h0]; rfl
      · rw [if_neg h0]
        exact cnt_z (fun i hi => by simp [h0, show ¬ a ≤ i by omega])
    have hze := zf2_run (f := gX8_rests_l31 (J a) (J ws) U' t (J wb)) (r := some (J (acc + cnt (fun b => isR ws wb a b && (decide (tr = 0) || decide (a ≤ b))) 100))) (100 - (if tr = 0 then 0 else a)) (fun i => J (acc + cnt (fun b => isR ws wb a b && (decide (tr = 0) || decide (a ≤ b))) ((if tr = 0 then 0 else a) + i))) (fun i => J ((if tr = 0 then 0 else a) + i)) (by
      intro i hi F
      have hb : (if tr = 0 then 0 else a) + i < 100 := by omega
      have hc : (decide (tr = 0) || decide (a ≤ (if tr = 0 then 0 else a) + i)) = true := by
        by_cases h0 : tr = 0
        · simp [h0]
        · simp [h0]
      generalize hg : (if tr = 0 then 0 else a) + i = b at hb hc
      rw [show (if tr = 0 then 0 else a) + (i + 1) = b + 1 by omega, cnt_s, hc, Bool.and_true]
      unfold isR
      simp (disch := omega) only [gX8_rests_l31, wb1, wb2, wb3, wb4, wc1, wc2, zb1_ite, zb2_ite, zb3_ite, zb4_ite, zzc1_ite, zzc2_ite, J_lit, J_n1, J_n2, J_add, J_mul, J_lt, J_le, J_eq, J_eN, N_eJ, J_eN2, J_nn, J_lN, N_lJ, J_leN, N_leJ, NN_l0, NN_eN, bJ_0, bJ_1, bJ_ite, zbz_b, zbz_0, zbz_1, zag_J, zas_J, ite_true, ite_false, if_true, if_false, ite_self, reduceIte, not_true_eq_false, not_false_eq_true, J_o, Nat.reduceEqDiff, Nat.reduceAdd, Nat.reduceMul, Nat.reduceSub, Nat.reduceLT, Nat.reduceLeDiff, Nat.one_ne_zero, C_sellerGain, C_buyerGain, h1 b hb, h2 a ha]
      rw [if_neg (by omega)]
      by_cases c1 : sgI ws a b = bst (fun a => sgI ws a b) 99
      · by_cases c2 : bgI wb a b = bst (fun b => bgI wb a b) 99
        · rw [if_pos c1, if_pos c2, if_pos (by rw [decide_eq_true c1, decide_eq_true c2]; rfl), Nat.add_assoc]
        · rw [if_pos c1, if_neg c2, if_neg (by rw [decide_eq_false c2, Bool.and_false]; exact Bool.false_ne_true)]; rfl
      · rw [if_neg c1, if_neg (by rw [decide_eq_false c1, Bool.false_and]; exact Bool.false_ne_true)]; rfl) (by
      intro F
      have hle : (if tr = 0 then 0 else a) ≤ 100 := by split <;> omega
      rw [show (if tr = 0 then 0 else a) + (100 - (if tr = 0 then 0 else a)) = 100 by omega]
      simp (disch := omega) only [gX8_rests_l31, wb1, wb2, wb3, wb4, wc1, wc2, zb1_ite, zb2_ite, zb3_ite, zb4_ite, zzc1_ite, zzc2_ite, J_lit, J_n1, J_n2, J_add, J_mul, J_lt, J_le, J_eq, J_eN, N_eJ, J_eN2, J_nn, J_lN, N_lJ, J_leN, N_leJ, NN_l0, NN_eN, bJ_0, bJ_1, bJ_ite, zbz_b, zbz_0, zbz_1, zag_J, zas_J, ite_true, ite_false, if_true, if_false, ite_self, reduceIte, not_true_eq_false, not_false_eq_true, J_o, Nat.reduceEqDiff, Nat.reduceAdd, Nat.reduceMul, Nat.reduceSub, Nat.reduceLT, Nat.reduceLeDiff, Nat.one_ne_zero]) (zfu_lt (by omega))
    rw [Nat.add_zero, hst, Nat.add_zero] at hze
    exact hze
  unfold gX8_rests
  rw [hU]
  have hze := zf2_run (f := gX8_rests_l12 (J tr) (J ws) U' t (J wb)) (r := some (J (rst ws wb tr))) 100 (fun i => J (csm (fun a b => isR ws wb a b && (decide (tr = 0) || decide (a ≤ b))) i)) J (by
    intro i hi F
    have h3 := inn i (csm (fun a b => isR ws wb a b && (decide (tr = 0) || decide (a ≤ b))) i) hi
    unfold gX8_rests_l12
    simp (disch := omega) only [wb1, wb2, wb3, wb4, wc1, wc2, zb1_ite, zb2_ite, zb3_ite, zb4_ite, zzc1_ite, zzc2_ite, J_lit, J_n1, J_n2, J_add, J_mul, J_lt, J_le, J_eq, J_eN, N_eJ, J_eN2, J_nn, J_lN, N_lJ, J_leN, N_leJ, NN_l0, NN_eN, bJ_0, bJ_1, bJ_ite, zbz_b, zbz_0, zbz_1, zag_J, zas_J, ite_true, ite_false, if_true, if_false, ite_self, reduceIte, not_true_eq_false, not_false_eq_true, J_o, Nat.reduceEqDiff, Nat.reduceAdd, Nat.reduceMul, Nat.reduceSub, Nat.reduceLT, Nat.reduceLeDiff, Nat.one_ne_zero]
    by_cases h0 : tr = 0
    · rw [if_pos h0] at h3
      rw [if_neg (by omega), if_pos h0, h3]
      rfl
    · rw [if_neg h0] at h3
      rw [if_neg (by omega), if_neg h0, h3]
      rfl) (by
    intro F
    simp (disch := omega) only [gX8_rests_l12, wb1, wb2, wb3, wb4, wc1, wc2, zb1_ite, zb2_ite, zb3_ite, zb4_ite, zzc1_ite, zzc2_ite, J_lit, J_n1, J_n2, J_add, J_mul, J_lt, J_le, J_eq, J_eN, N_eJ, J_eN2, J_nn, J_lN, N_lJ, J_leN, N_leJ, NN_l0, NN_eN, bJ_0, bJ_1, bJ_ite, zbz_b, zbz_0, zbz_1, zag_J, zas_J, ite_true, ite_false, if_true, if_false, ite_self, reduceIte, not_true_eq_false, not_false_eq_true, J_o, Nat.reduceEqDiff, Nat.reduceAdd, Nat.reduceMul, Nat.reduceSub, Nat.reduceLT, Nat.reduceLeDiff, Nat.one_ne_zero]
    rfl) (zfu_lt (by omega))
  show zb1 (zf2 (gX8_rests_l12 (J tr) (J ws) U' t (J wb)) zfu (J 0) (J 0)) _ = _
  exact congrArg (zb1 · fun x => some (x, U')) hze
theorem bst_0 {s : Nat → Int32} : bst s 0 = s 0 := (rfl)
theorem bst_e1 {ws j i : Nat} (hws : ws < 100) (hj : j < 100) (hi : i < 100) : mxI (if j = 0 then FARN else bst (fun a => sgI ws a i) (j - 1)) (sgI ws j i) = bst (fun a => sgI ws a i) j := by
  cases j with
  | zero => rw [if_pos rfl, bst_0]; exact sg_far hws (by omega) hi
  | succ j => rw [if_neg (Nat.succ_ne_zero j), Nat.add_sub_cancel, bst_s]
theorem bst_e2 {wb j i : Nat} (hwb : wb < 100) (hi : i < 100) (hj : j < 100) : mxI (if j = 0 then FARN else bst (fun b => bgI wb i b) (j - 1)) (bgI wb i j) = bst (fun b => bgI wb i b) j := by
  cases j with
  | zero => rw [if_pos rfl, bst_0]; exact bg_far hwb hi (by omega)
  | succ j => rw [if_neg (Nat.succ_ne_zero j), Nat.add_sub_cancel, bst_s]
theorem R_bargain_in {M m : zMS} {v : zV} {ws wb i : Nat} (hws : ws < 100) (hwb : wb < 100) (hi : i < 100) (hm : isMV m v) (hs : Msame M m) (h1 : ∀ b, b < i → m.2.2 41 b = bst (fun a => sgI ws a b) 99) (h2 : ∀ a, a < i → m.2.2 42 a = bst (fun b => bgI wb a b) 99) (g1 : m.2.2 41 i = FARN) (g2 : m.2.2 42 i = FARN) : ∃ m2, zf2 (gX12_bargain_l86 (J i) (J ws) (J wb)) zfu (J 0) m = some m2 ∧ isMV m2 v ∧ Msame M m2 ∧ (∀ b, b < i → m2.2.2 41 b = bst (fun a => sgI ws a b) 99) ∧ (∀ a, a < i → m2.2.2 42 a = bst (fun b => bgI wb a b) 99) ∧ m2.2.2 41 i = bst (fun a => sgI ws a i) 99 ∧ m2.2.2 42 i = bst (fun b => bgI wb i b) 99 := by
  exact zf2_inv (f := gX12_bargain_l86 (J i) (J ws) (J wb)) 100 (fun j y n => y = J j ∧ isMV n v ∧ Msame M n ∧ (∀ b, b < i → n.2.2 41 b = bst (fun a => sgI ws a b) 99) ∧ (∀ a, a < i → n.2.2 42 a = bst (fun b => bgI wb a b) 99) ∧ n.2.2 41 i = (if j = 0 then FARN else bst (fun a => sgI ws a i) (j - 1)) ∧ n.2.2 42 i = (if j = 0 then FARN else bst (fun b => bgI wb i b) (j - 1))) (fun n => isMV n v ∧ Msame M n ∧ (∀ b, b < i → n.2.2 41 b = bst (fun a => sgI ws a b) 99) ∧ (∀ a, a < i → n.2.2 42 a = bst (fun b => bgI wb a b) 99) ∧ n.2.2 41 i = bst (fun a => sgI ws a i) 99 ∧ n.2.2 42 i = bst (fun b => bgI wb i b) 99) (by
      intro j y n hj hP2 G
      obtain ⟨rfl, hn, hsn, k1, k2, k3, k4⟩ := hP2
      have e1 : mxI (n.2.2 41 i) (sgI ws j i) = bst (fun a => sgI ws a i) j := by rw [k3]; exact bst_e1 hws (by omega) hi
      have e2 : mxI (n.2.2 42 i) (bgI wb i j) = bst (fun b => bgI wb i b) j := by rw [k4]; exact bst_e2 hwb hi (by omega)
      simp (disch := omega) only [gX12_bargain_l86, wb1, wb2, wb3, wb4, wc1, wc2, zb1_ite, zb2_ite, zb3_ite, zb4_ite, zzc1_ite, zzc2_ite, J_lit, J_n1, J_n2, J_add, J_mul, J_lt, J_le, J_eq, J_eN, N_eJ, J_eN2, J_nn, J_lN, N_lJ, J_leN, N_leJ, NN_l0, NN_eN, bJ_0, bJ_1, bJ_ite, zbz_b, zbz_0, zbz_1, zag_J, zas_J, ite_true, ite_false, if_true, if_false, ite_self, reduceIte, not_true_eq_false, not_false_eq_true, J_o, Nat.reduceEqDiff, Nat.reduceAdd, Nat.reduceMul, Nat.reduceSub, Nat.reduceLT, Nat.reduceLeDiff, Nat.one_ne_zero, R_soldFor, R_boughtFor, R_gr, zsA_o, e1, e2]
      rw [if_neg (by omega)]
      refine ⟨_, _, rfl, rfl, isMV_A (by omega) (isMV_A (by omega) hn), Msame_t hsn (Msame_t (Msame_A (by omega)) (Msame_A (by omega))), fun b hb => ?_, fun a ha => ?_, ?_, ?_⟩
      · rw [zsA_o (by omega), zsA_1, upd_o (by omega)]; exact k1 b hb
      · rw [zsA_1, upd_o (by omega)]; exact k2 a ha
      · rw [zsA_o (by omega), zsA_1, upd_1]; simp
      · rw [zsA_1, upd_1]; simp) (by
      intro y n hP2 G
      obtain ⟨rfl, hn, hsn, k1, k2, k3, k4⟩ := hP2
      simp (disch := omega) only [gX12_bargain_l86, wb1, wb2, wb3, wb4, wc1, wc2, zb1_ite, zb2_ite, zb3_ite, zb4_ite, zzc1_ite, zzc2_ite, J_lit, J_n1, J_n2, J_add, J_mul, J_lt, J_le, J_eq, J_eN, N_eJ, J_eN2, J_nn, J_lN, N_lJ, J_leN, N_leJ, NN_l0, NN_eN, bJ_0, bJ_1, bJ_ite, zbz_b, zbz_0, zbz_1, zag_J, zas_J, ite_true, ite_false, if_true, if_false, ite_self, reduceIte, not_true_eq_false, not_false_eq_true, J_o, Nat.reduceEqDiff, Nat.reduceAdd, Nat.reduceMul, Nat.reduceSub, Nat.reduceLT, Nat.reduceLeDiff, Nat.one_ne_zero]
      exact ⟨n, rfl, hn, hsn, k1, k2, by rw [k3, if_neg (by omega)], by rw [k4, if_neg (by omega)]⟩) (zfu_lt (n := 100) (by omega)) (x0 := J 0) (x1 := m) ⟨rfl, hm, hs, h1, h2, by rw [if_pos rfl]; exact g1, by rw [if_pos rfl]; exact g2⟩
theorem R_bargain_l {M : zMS} {v : zV} {ws wb : Nat} (hv : isMV M v) (hws : ws < 100) (hwb : wb < 100) : ∃ M', zf2 (gX12_bargain_l56 (J ws) (J wb)) zfu (J 0) M = some M' ∧ isMV M' v ∧ Msame M M' ∧ (∀ b, b < 100 → M'.2.2 41 b = bst (fun a => sgI ws a b) 99) ∧ ∀ a, a < 100 → M'.2.2 42 a = bst (fun b => bgI wb a b) 99 := by
  obtain ⟨r, hr, hQ⟩ := zf2_inv (f := gX12_bargain_l56 (J ws) (J wb)) 100 (fun i x m => x = J i ∧ isMV m v ∧ Msame M m ∧ (∀ b, b < i → m.2.2 41 b = bst (fun a => sgI ws a b) 99) ∧ ∀ a, a < i → m.2.2 42 a = bst (fun b => bgI wb a b) 99) (fun m => isMV m v ∧ Msame M m ∧ (∀ b, b < 100 → m.2.2 41 b = bst (fun a => sgI ws a b) 99) ∧ ∀ a, a < 100 → m.2.2 42 a = bst (fun b => bgI wb a b) 99) (by
    intro i x m hi hP F
    obtain ⟨rfl, hm, hs, h1, h2⟩ := hP
    obtain ⟨m2, hr2, hm2, hs2, h3, h4, h5, h6⟩ := R_bargain_in (M := M) (m := zsA (zsA m 41 (upd (m.2.2 41) i FARN)) 42 (upd (m.2.2 42) i FARN)) hws hwb hi (isMV_A (by omega) (isMV_A (by omega) hm)) (Msame_t hs (Msame_t (Msame_A (by omega)) (Msame_A (by omega)))) (fun b hb => by rw [zsA_o (by omega), zsA_1, upd_o (by omega)]; exact h1 b hb) (fun a ha => by rw [zsA_1, upd_o (by omega)]; exact h2 a ha) (by rw [zsA_o (by omega), zsA_1, upd_1]) (by rw [zsA_1, upd_1])
    refine ⟨J (i + 1), m2, ?_, rfl, hm2, hs2, fun b hb => ?_, fun a ha => ?_⟩
    · simp (disch := omega) only [gX12_bargain_l56, wb1, wb2, wb3, wb4, wc1, wc2, zb1_ite, zb2_ite, zb3_ite, zb4_ite, zzc1_ite, zzc2_ite, J_lit, J_n1, J_n2, J_add, J_mul, J_lt, J_le, J_eq, J_eN, N_eJ, J_eN2, J_nn, J_lN, N_lJ, J_leN, N_leJ, NN_l0, NN_eN, bJ_0, bJ_1, bJ_ite, zbz_b, zbz_0, zbz_1, zag_J, zas_J, ite_true, ite_false, if_true, if_false, ite_self, reduceIte, not_true_eq_false, not_false_eq_true, J_o, Nat.reduceEqDiff, Nat.reduceAdd, Nat.reduceMul, Nat.reduceSub, Nat.reduceLT, Nat.reduceLeDiff, Nat.one_ne_zero, J_far, zsA_o, hr2]
      rw [if_neg (by omega)]
    · by_cases hbi : b = i
      · subst hbi; exact h5
      · exact h3 b (by omega)
    · by_cases hai : a = i
      · subst hai; exact h6
      · exact h4 a (by omega)) (by
    intro x m hP F
    obtain ⟨rfl, hm, hs, h1, h2⟩ := hP
    simp (disch := omega) only [gX12_bargain_l56, wb1, wb2, wb3, wb4, wc1, wc2, zb1_ite, zb2_ite, zb3_ite, zb4_ite, zzc1_ite, zzc2_ite, J_lit, J_n1, J_n2, J_add, J_mul, J_lt, J_le, J_eq, J_eN, N_eJ, J_eN2, J_nn, J_lN, N_lJ, J_leN, N_leJ, NN_l0, NN_eN, bJ_0, bJ_1, bJ_ite, zbz_b, zbz_0, zbz_1, zag_J, zas_J, ite_true, ite_false, if_true, if_false, ite_self, reduceIte, not_true_eq_false, not_false_eq_true, J_o, Nat.reduceEqDiff, Nat.reduceAdd, Nat.reduceMul, Nat.reduceSub, Nat.reduceLT, Nat.reduceLeDiff, Nat.one_ne_zero]
    exact ⟨m, rfl, hm, hs, h1, h2⟩) (zfu_lt (n := 100) (by omega)) (x0 := J 0) (x1 := M) ⟨rfl, hv, Msame_r, fun b hb => by omega, fun b hb => by omega⟩
  exact ⟨r, hr, hQ⟩
theorem R_bargain_c {M : zMS} {ws wb : Nat} (h1 : ∀ b, b < 100 → M.2.2 41 b = bst (fun a => sgI ws a b) 99) (h2 : ∀ a, a < 100 → M.2.2 42 a = bst (fun b => bgI wb a b) 99) : zf3 (gX12_bargain_l166 (J ws) M (J wb)) zfu (J 0) (J 0) (J 0) = some (J (rst ws wb 0), J (rst ws wb 1)) := by
  have inn : ∀ a acc acc2, a < 100 → zf3 (gX12_bargain_l176 (J a) (J ws) M (J wb)) zfu (J acc) (J acc2) (J 0) = some (J (acc + cnt (fun b => isR ws wb a b && (decide (0 = 0) || decide (a ≤ b))) 100), J (acc2 + cnt (fun b => isR ws wb a b && (decide (1 = 0) || decide (a ≤ b))) 100)) := by
    intro a acc acc2 ha
    exact zf3_run (f := gX12_bargain_l176 (J a) (J ws) M (J wb)) 100 (fun i => J (acc + cnt (fun b => isR ws wb a b && (decide (0 = 0) || decide (a ≤ b))) i)) (fun i => J (acc2 + cnt (fun b => isR ws wb a b && (decide (1 = 0) || decide (a ≤ b))) i)) J (by
      intro b hb F
      rw [cnt_s, cnt_s]
      unfold isR
      simp (disch := omega) only [gX12_bargain_l176, gX12_bargain_b225, wb1, wb2, wb3, wb4, wc1, wc2, zb1_ite, zb2_ite, zb3_ite, zb4_ite, zzc1_ite, zzc2_ite, J_lit, J_n1, J_n2, J_add, J_mul, J_lt, J_le, J_eq, J_eN, N_eJ, J_eN2, J_nn, J_lN, N_lJ, J_leN, N_leJ, NN_l0, NN_eN, bJ_0, bJ_1, bJ_ite, zbz_b, zbz_0, zbz_1, zag_J, zas_J, ite_true, ite_false, if_true, if_false, ite_self, reduceIte, not_true_eq_false, not_false_eq_true, J_o, Nat.reduceEqDiff, Nat.reduceAdd, Nat.reduceMul, Nat.reduceSub, Nat.reduceLT, Nat.reduceLeDiff, Nat.one_ne_zero, R_soldFor, R_boughtFor, h1 b hb, h2 a ha]
      rw [if_neg (by omega)]
      by_cases c1 : sgI ws a b = bst (fun a => sgI ws a b) 99
      · by_cases c2 : bgI wb a b = bst (fun b => bgI wb a b) 99
        · by_cases c3 : b < a
          · simp [← c1, ← c2, c3, show ¬ a ≤ b by omega, Nat.add_assoc]
          · simp [← c1, ← c2, c3, show a ≤ b by omega, Nat.add_assoc]
        · simp [← c1, c2]
      · simp [c1]) (by
      intro F
      simp (disch := omega) only [gX12_bargain_l176, wb1, wb2, wb3, wb4, wc1, wc2, zb1_ite, zb2_ite, zb3_ite, zb4_ite, zzc1_ite, zzc2_ite, J_lit, J_n1, J_n2, J_add, J_mul, J_lt, J_le, J_eq, J_eN, N_eJ, J_eN2, J_nn, J_lN, N_lJ, J_leN, N_leJ, NN_l0, NN_eN, bJ_0, bJ_1, bJ_ite, zbz_b, zbz_0, zbz_1, zag_J, zas_J, ite_true, ite_false, if_true, if_false, ite_self, reduceIte, not_true_eq_false, not_false_eq_true, J_o, Nat.reduceEqDiff, Nat.reduceAdd, Nat.reduceMul, Nat.reduceSub, Nat.reduceLT, Nat.reduceLeDiff, Nat.one_ne_zero]) (zfu_lt (by omega))
  exact zf3_run (f := gX12_bargain_l166 (J ws) M (J wb)) 100 (fun i => J (csm (fun a b => isR ws wb a b && (decide (0 = 0) || decide (a ≤ b))) i)) (fun i => J (csm (fun a b => isR ws wb a b && (decide (1 = 0) || decide (a ≤ b))) i)) J (by
    intro i hi F
    simp (disch := omega) only [gX12_bargain_l166, inn i _ _ hi, wb1, wb2, wb3, wb4, wc1, wc2, zb1_ite, zb2_ite, zb3_ite, zb4_ite, zzc1_ite, zzc2_ite, J_lit, J_n1, J_n2, J_add, J_mul, J_lt, J_le, J_eq, J_eN, N_eJ, J_eN2, J_nn, J_lN, N_lJ, J_leN, N_leJ, NN_l0, NN_eN, bJ_0, bJ_1, bJ_ite, zbz_b, zbz_0, zbz_1, zag_J, zas_J, ite_true, ite_false, if_true, if_false, ite_self, reduceIte, not_true_eq_false, not_false_eq_true, J_o, Nat.reduceEqDiff, Nat.reduceAdd, Nat.reduceMul, Nat.reduceSub, Nat.reduceLT, Nat.reduceLeDiff, Nat.one_ne_zero]
    rw [if_neg (by omega)]
    rfl) (by
    intro F
    simp (disch := omega) only [gX12_bargain_l166, wb1, wb2, wb3, wb4, wc1, wc2, zb1_ite, zb2_ite, zb3_ite, zb4_ite, zzc1_ite, zzc2_ite, J_lit, J_n1, J_n2, J_add, J_mul, J_lt, J_le, J_eq, J_eN, N_eJ, J_eN2, J_nn, J_lN, N_lJ, J_leN, N_leJ, NN_l0, NN_eN, bJ_0, bJ_1, bJ_ite, zbz_b, zbz_0, zbz_1, zag_J, zas_J, ite_true, ite_false, if_true, if_false, ite_self, reduceIte, not_true_eq_false, not_false_eq_true, J_o, Nat.reduceEqDiff, Nat.reduceAdd, Nat.reduceMul, Nat.reduceSub, Nat.reduceLT, Nat.reduceLeDiff, Nat.one_ne_zero]
    rfl) (zfu_lt (by omega))
