/-! the market of the reference -/
theorem Mk_a {M : zMS} {v : zV} (hV : VOK v) (hk : isMk M v (v 1)) {i q : Nat} (hq : qth v 0 i = some q) (hi : i < cnt (knd v 0) (v 1)) : M.2.2 37 i = J (v (39 + q)) := by
  obtain ⟨q2, h1, h2, h3, h4⟩ := qth_s hV hi
  rw [hq] at h1; cases h1
  rw [← h4]
  exact hk.2.2.1 q h2 h3
theorem Mk_b {M : zMS} {v : zV} (hV : VOK v) (hk : isMk M v (v 1)) {i q : Nat} (hq : qth v 1 i = some q) (hi : i < cnt (knd v 1) (v 1)) : M.2.2 38 i = J (v (39 + q)) := by
  obtain ⟨q2, h1, h2, h3, h4⟩ := qth_s hV hi
  rw [hq] at h1; cases h1
  rw [← h4]
  exact hk.2.2.2 q h2 h3
theorem cnt_2 {p q : Nat → Bool} : ∀ {n : Nat}, (∀ i, i < n → p i = true → q i = false) → cnt p n + cnt q n ≤ n
  | 0, _ => Nat.le_refl _
  | n + 1, h => by
    have h1 := cnt_2 (p := p) (q := q) (n := n) (fun i hi => h i (by omega))
    have h2 := h n (by omega)
    rw [cnt_s, cnt_s]
    cases hp : p n
    · simp; split <;> omega
    · rw [h2 hp]; simp; omega
theorem knd_2 {v : zV} {n : Nat} : cnt (knd v 0) n + cnt (knd v 1) n ≤ n := cnt_2 (fun i _ h => by
  unfold knd at *
  rw [of_decide_eq_true h]; rfl)
theorem R_market_l {M : zMS} {v : zV} (hV : VOK v) (hk : isMk M v (v 1)) : zf2 (gX12_market_l33 M) zfu (J 0) (J 0) = some (J (gsm v (cpl v)), J (cpl v)) := by
  have h6 := hV.2.2.1
  have h2 := @knd_2 v (v 1)
  have hz := @gsm_le v
  have hno : ∀ c, (c < cnt (knd v 0) (v 1) ∧ c < cnt (knd v 1) (v 1)) ∨ gnc v c = none := by
    intro c
    by_cases h0 : c < cnt (knd v 0) (v 1)
    · by_cases h1 : c < cnt (knd v 1) (v 1)
      · exact .inl ⟨h0, h1⟩
      · right; unfold gnc; rw [qth_n hV (k := 1) (i := c) (by omega)]; cases qth v 0 c <;> rfl
    · right; unfold gnc; rw [qth_n hV (k := 0) (i := c) (by omega)]
  have hcp : ∃ c, c ≤ 3 ∧ fstI (fun c => (gnc v c).isNone) 6 = some c := by
    cases hf : fstI (fun c => (gnc v c).isNone) 6 with
    | none =>
      have h3 := fstI_n hf 3 (by omega)
      rcases hno 3 with h4 | h4
      · omega
      · rw [h4] at h3; cases h3
    | some c =>
      obtain ⟨-, -, h5⟩ := fstI_s hf
      refine ⟨c, ?_, rfl⟩
      by_cases hc : c ≤ 3
      · exact hc
      · have h3 := h5 3 (by omega)
        rcases hno 3 with h4 | h4
        · omega
        · rw [h4] at h3; cases h3
  obtain ⟨c, hc3, hf⟩ := hcp
  have hcl : cpl v = c := by unfold cpl; rw [hf]
  rw [hcl]
  obtain ⟨-, h7, h8⟩ := fstI_s hf
  refine zf2_run (f := gX12_market_l33 M) c (fun i => J (gsm v i)) J (fun i hi F => ?_) (fun F => ?_) (zfu_lt (by omega))
  · have hg := h8 i hi
    rcases hno i with ⟨h0, h1⟩ | h4
    · obtain ⟨s, hs, -⟩ := qth_s hV h0
      obtain ⟨b, hb, -⟩ := qth_s hV h1
      rw [show gsm v (i + 1) = gsm v i + (gnc v i).getD 0 from rfl]
      unfold gnc at hg ⊢
      rw [hs, hb] at hg
      rw [hs, hb]
      simp only at hg ⊢
      by_cases hw : (v (39 + s) : Nat) ≤ (v (39 + b) : Nat)
      · simp (disch := omega) only [gX12_market_l33, wb1, wb2, wb3, wb4, wc1, wc2, zb1_ite, zb2_ite, zb3_ite, zb4_ite, zzc1_ite, zzc2_ite, J_lit, J_n1, J_n2, J_add, J_mul, J_lt, J_le, J_eq, J_eN, N_eJ, J_eN2, J_nn, J_lN, N_lJ, J_leN, N_leJ, NN_l0, NN_eN, bJ_0, bJ_1, bJ_ite, zbz_b, zbz_0, zbz_1, zag_J, zas_J, ite_true, ite_false, if_true, if_false, ite_self, reduceIte, not_true_eq_false, not_false_eq_true, J_o, Nat.reduceEqDiff, Nat.reduceAdd, Nat.reduceMul, Nat.reduceSub, Nat.reduceLT, Nat.reduceLeDiff, Nat.one_ne_zero, hk.1, hk.2.1, Mk_a hV hk hs h0, Mk_b hV hk hb h1, J_sub]
        rw [if_neg (by omega), if_neg (by omega), if_neg (by omega), if_pos hw]
        rfl
      · rw [if_neg hw] at hg; cases hg
    · rw [h4] at hg; cases hg
  · rcases hno c with ⟨h0, h1⟩ | h4
    · obtain ⟨s, hs, -⟩ := qth_s hV h0
      obtain ⟨b, hb, -⟩ := qth_s hV h1
      unfold gnc at h7
      rw [hs, hb] at h7
      simp only at h7
      by_cases hw : (v (39 + s) : Nat) ≤ (v (39 + b) : Nat)
      · rw [if_pos hw] at h7; cases h7
      · simp (disch := omega) only [gX12_market_l33, wb1, wb2, wb3, wb4, wc1, wc2, zb1_ite, zb2_ite, zb3_ite, zb4_ite, zzc1_ite, zzc2_ite, J_lit, J_n1, J_n2, J_add, J_mul, J_lt, J_le, J_eq, J_eN, N_eJ, J_eN2, J_nn, J_lN, N_lJ, J_leN, N_leJ, NN_l0, NN_eN, bJ_0, bJ_1, bJ_ite, zbz_b, zbz_0, zbz_1, zag_J, zas_J, ite_true, ite_false, if_true, if_false, ite_self, reduceIte, not_true_eq_false, not_false_eq_true, J_o, Nat.reduceEqDiff, Nat.reduceAdd, Nat.reduceMul, Nat.reduceSub, Nat.reduceLT, Nat.reduceLeDiff, Nat.one_ne_zero, hk.1, hk.2.1, Mk_a hV hk hs h0, Mk_b hV hk hb h1]
        rw [if_neg (by omega), if_neg (by omega), if_pos (by omega)]
    · by_cases h0 : c < cnt (knd v 0) (v 1)
      · by_cases h1 : c < cnt (knd v 1) (v 1)
        · obtain ⟨s, hs, -⟩ := qth_s hV h0
          obtain ⟨b, hb, -⟩ := qth_s hV h1
          unfold gnc at h4
          rw [hs, hb] at h4
          simp only at h4
          by_cases hw : (v (39 + s) : Nat) ≤ (v (39 + b) : Nat)
          · rw [if_pos hw] at h4; cases h4
          · simp (disch := omega) only [gX12_market_l33, wb1, wb2, wb3, wb4, wc1, wc2, zb1_ite, zb2_ite, zb3_ite, zb4_ite, zzc1_ite, zzc2_ite, J_lit, J_n1, J_n2, J_add, J_mul, J_lt, J_le, J_eq, J_eN, N_eJ, J_eN2, J_nn, J_lN, N_lJ, J_leN, N_leJ, NN_l0, NN_eN, bJ_0, bJ_1, bJ_ite, zbz_b, zbz_0, zbz_1, zag_J, zas_J, ite_true, ite_false, if_true, if_false, ite_self, reduceIte, not_true_eq_false, not_false_eq_true, J_o, Nat.reduceEqDiff, Nat.reduceAdd, Nat.reduceMul, Nat.reduceSub, Nat.reduceLT, Nat.reduceLeDiff, Nat.one_ne_zero, hk.1, hk.2.1, Mk_a hV hk hs h0, Mk_b hV hk hb h1]
            rw [if_neg (by omega), if_neg (by omega), if_pos (by omega)]
        · simp (disch := omega) only [gX12_market_l33, wb1, wb2, wb3, wb4, wc1, wc2, zb1_ite, zb2_ite, zb3_ite, zb4_ite, zzc1_ite, zzc2_ite, J_lit, J_n1, J_n2, J_add, J_mul, J_lt, J_le, J_eq, J_eN, N_eJ, J_eN2, J_nn, J_lN, N_lJ, J_leN, N_leJ, NN_l0, NN_eN, bJ_0, bJ_1, bJ_ite, zbz_b, zbz_0, zbz_1, zag_J, zas_J, ite_true, ite_false, if_true, if_false, ite_self, reduceIte, not_true_eq_false, not_false_eq_true, J_o, Nat.reduceEqDiff, Nat.reduceAdd, Nat.reduceMul, Nat.reduceSub, Nat.reduceLT, Nat.reduceLeDiff, Nat.one_ne_zero, hk.1, hk.2.1]
          rw [if_neg (by omega), if_pos (by omega)]
      · simp (disch := omega) only [gX12_market_l33, wb1, wb2, wb3, wb4, wc1, wc2, zb1_ite, zb2_ite, zb3_ite, zb4_ite, zzc1_ite, zzc2_ite, J_lit, J_n1, J_n2, J_add, J_mul, J_lt, J_le, J_eq, J_eN, N_eJ, J_eN2, J_nn, J_lN, N_lJ, J_leN, N_leJ, NN_l0, NN_eN, bJ_0, bJ_1, bJ_ite, zbz_b, zbz_0, zbz_1, zag_J, zas_J, ite_true, ite_false, if_true, if_false, ite_self, reduceIte, not_true_eq_false, not_false_eq_true, J_o, Nat.reduceEqDiff, Nat.reduceAdd, Nat.reduceMul, Nat.reduceSub, Nat.reduceLT, Nat.reduceLeDiff, Nat.one_ne_zero, hk.1, hk.2.1]
        rw [if_pos (by omega)]
/-! fair prices -/
def mst (v : zV) (x : Nat) : Nat := cnt (fun p => knd v 0 p && decide ((v (39 + p) : Nat) < x)) (v 1)
def may (v : zV) (x : Nat) : Nat := cnt (fun p => knd v 0 p && decide ((v (39 + p) : Nat) ≤ x)) (v 1)
def ned (v : zV) (x : Nat) : Nat := cnt (fun p => knd v 1 p && decide (x < (v (39 + p) : Nat))) (v 1)
def lik (v : zV) (x : Nat) : Nat := cnt (fun p => knd v 1 p && decide (x ≤ (v (39 + p) : Nat))) (v 1)
def fai (v : zV) (x : Nat) : Bool := decide (mst v x ≤ lik v x ∧ ned v x ≤ may v x)
theorem C_isFair {U : zCS} {a : Nat} {v : zV} (h : isVal U a v) (hV : VOK v) {x : Nat} (hx : x < 100) : gX8_isFair U a (J x) = some (bJ (fai v x)) := by
  have h6 := hV.2.2.1
  have b1 : mst v x ≤ (v 1 : Nat) := cnt_le _
  have b2 : may v x ≤ (v 1 : Nat) := cnt_le _
  have b3 : ned v x ≤ (v 1 : Nat) := cnt_le _
  have b4 : lik v x ≤ (v 1 : Nat) := cnt_le _
  unfold gX8_isFair
  have hze := zf5_run (f := gX8_isFair_l13 U a (J x)) (r := some (J (mst v x), J (may v x), J (ned v x), J (lik v x))) (v 1) (fun i => J (cnt (fun p => knd v 0 p && decide ((v (39 + p) : Nat) < x)) i)) (fun i => J (cnt (fun p => knd v 0 p && decide ((v (39 + p) : Nat) ≤ x)) i)) (fun i => J (cnt (fun p => knd v 1 p && decide (x < (v (39 + p) : Nat))) i)) (fun i => J (cnt (fun p => knd v 1 p && decide (x ≤ (v (39 + p) : Nat))) i)) J (by
    intro i hi F
    have h2 := (hV.2.2.2.2.2.2 i hi).1
    rw [cnt_s, cnt_s, cnt_s, cnt_s]
    simp (disch := omega) only [gX8_isFair_l13, wb1, wb2, wb3, wb4, wc1, wc2, zb1_ite, zb2_ite, zb3_ite, zb4_ite, zzc1_ite, zzc2_ite, J_lit, J_n1, J_n2, J_add, J_mul, J_lt, J_le, J_eq, J_eN, N_eJ, J_eN2, J_nn, J_lN, N_lJ, J_leN, N_leJ, NN_l0, NN_eN, bJ_0, bJ_1, bJ_ite, zbz_b, zbz_0, zbz_1, zag_J, zas_J, ite_true, ite_false, if_true, if_false, ite_self, reduceIte, not_true_eq_false, not_false_eq_true, J_o, Nat.reduceEqDiff, Nat.reduceAdd, Nat.reduceMul, Nat.reduceSub, Nat.reduceLT, Nat.reduceLeDiff, Nat.one_ne_zero, V_p h, V_ki h, V_wi h]
    rw [if_neg (by omega)]
    have hc : (v (27 + i) : Nat) = 0 ∨ (v (27 + i) : Nat) = 1 ∨ (v (27 + i) : Nat) = 2 := by omega
    unfold knd
    rcases hc with hc | hc | hc
    · rcases Nat.lt_trichotomy (v (39 + i) : Nat) x with h3 | h3 | h3
      · simp [hc, h3, show ¬ x ≤ (v (39 + i) : Nat) by omega, show ¬ x < (v (39 + i) : Nat) by omega, show (v (39 + i) : Nat) ≤ x by omega, zb4, zb1, J_add, J_lit]
      · simp [hc, h3, zb4, zb1, J_add, J_lit]
      · simp [hc, h3, show x ≤ (v (39 + i) : Nat) by omega, show ¬ (v (39 + i) : Nat) < x by omega, show ¬ (v (39 + i) : Nat) ≤ x by omega, zb4, zb1, J_add, J_lit]
    · rcases Nat.lt_trichotomy (v (39 + i) : Nat) x with h3 | h3 | h3
      · simp [hc, h3, show ¬ x ≤ (v (39 + i) : Nat) by omega, show ¬ x < (v (39 + i) : Nat) by omega, show (v (39 + i) : Nat) ≤ x by omega, zb4, zb1, J_add, J_lit]
      · simp [hc, h3, zb4, zb1, J_add, J_lit]
      · simp [hc, h3, show x ≤ (v (39 + i) : Nat) by omega, show ¬ (v (39 + i) : Nat) < x by omega, show ¬ (v (39 + i) : Nat) ≤ x by omega, zb4, zb1, J_add, J_lit]
    · simp [hc, zb4]) (by
    intro F
    simp (disch := omega) only [gX8_isFair_l13, wb1, wb2, wb3, wb4, wc1, wc2, zb1_ite, zb2_ite, zb3_ite, zb4_ite, zzc1_ite, zzc2_ite, J_lit, J_n1, J_n2, J_add, J_mul, J_lt, J_le, J_eq, J_eN, N_eJ, J_eN2, J_nn, J_lN, N_lJ, J_leN, N_leJ, NN_l0, NN_eN, bJ_0, bJ_1, bJ_ite, zbz_b, zbz_0, zbz_1, zag_J, zas_J, ite_true, ite_false, if_true, if_false, ite_self, reduceIte, not_true_eq_false, not_false_eq_true, J_o, Nat.reduceEqDiff, Nat.reduceAdd, Nat.reduceMul, Nat.reduceSub, Nat.reduceLT, Nat.reduceLeDiff, Nat.one_ne_zero, V_p h]
    simp [mst, may, ned, lik]) (zfu_lt (by omega))
  refine (congrArg (zb4 · _) hze).trans ?_
  show zb1 (if J (lik v x) < J (mst v x) then some 0 else if J (may v x) < J (ned v x) then some 0 else some 1) _ = _
  simp (disch := omega) only [wb1, wb2, wb3, wb4, wc1, wc2, zb1_ite, zb2_ite, zb3_ite, zb4_ite, zzc1_ite, zzc2_ite, J_lit, J_n1, J_n2, J_add, J_mul, J_lt, J_le, J_eq, J_eN, N_eJ, J_eN2, J_nn, J_lN, N_lJ, J_leN, N_leJ, NN_l0, NN_eN, bJ_0, bJ_1, bJ_ite, zbz_b, zbz_0, zbz_1, zag_J, zas_J, ite_true, ite_false, if_true, if_false, ite_self, reduceIte, not_true_eq_false, not_false_eq_true, J_o, Nat.reduceEqDiff, Nat.reduceAdd, Nat.reduceMul, Nat.reduceSub, Nat.reduceLT, Nat.reduceLeDiff, Nat.one_ne_zero]
  unfold fai
  by_cases c1 : lik v x < mst v x
  · simp [c1, show ¬ mst v x ≤ lik v x by omega, bJ]
  · by_cases c2 : may v x < ned v x
    · simp [c1, c2, show ¬ ned v x ≤ may v x by omega, bJ]
    · simp [c1, c2, show ned v x ≤ may v x by omega, show mst v x ≤ lik v x by omega, bJ]
theorem R_clears {M : zMS} {v : zV} (hV : VOK v) (hk : isMk M v (v 1)) {x : Nat} (hx : x < 100) : gX12_clears M (J x) = some (bJ (fai v x)) := by
  have h6 := hV.2.2.1
  have h2 := @knd_2 v (v 1)
  have b1 : mst v x ≤ (v 1 : Nat) := cnt_le _
  have b2 : may v x ≤ (v 1 : Nat) := cnt_le _
  have b3 : ned v x ≤ (v 1 : Nat) := cnt_le _
  have b4 : lik v x ≤ (v 1 : Nat) := cnt_le _
  have hq : ∀ k i, ∃ s, i < cnt (knd v k) (v 1) → qth v k i = some s ∧ s < (v 1 : Nat) ∧ knd v k s = true ∧ rk v k s = i := fun k i => by
    by_cases hi : i < cnt (knd v k) (v 1)
    · obtain ⟨s, h1⟩ := qth_s hV hi
      exact ⟨s, fun _ => h1⟩
    · exact ⟨0, fun z => absurd z hi⟩
  obtain ⟨f0, hf0⟩ := Classical.axiomOfChoice (hq 0)
  obtain ⟨f1, hf1⟩ := Classical.axiomOfChoice (hq 1)
  have in0 : ∀ j k, j < cnt (knd v 0) (v 1) → k < cnt (knd v 0) (v 1) → f0 j = f0 k → j = k := fun j k hj hk h => by
    rw [← (hf0 j hj).2.2.2, ← (hf0 k hk).2.2.2, h]
  have in1 : ∀ j k, j < cnt (knd v 1) (v 1) → k < cnt (knd v 1) (v 1) → f1 j = f1 k → j = k := fun j k hj hk h => by
    rw [← (hf1 j hj).2.2.2, ← (hf1 k hk).2.2.2, h]
  have e1 : cnt (fun k => decide ((v (39 + f0 k) : Nat) < x)) (cnt (knd v 0) (v 1)) = mst v x := cnt_bij (P := fun p => decide ((v (39 + p) : Nat) < x)) (fun k hk => ⟨(hf0 k hk).2.1, (hf0 k hk).2.2.1⟩) in0 rfl
  have e2 : cnt (fun k => decide ((v (39 + f0 k) : Nat) ≤ x)) (cnt (knd v 0) (v 1)) = may v x := cnt_bij (P := fun p => decide ((v (39 + p) : Nat) ≤ x)) (fun k hk => ⟨(hf0 k hk).2.1, (hf0 k hk).2.2.1⟩) in0 rfl
  have e3 : cnt (fun k => decide (x < (v (39 + f1 k) : Nat))) (cnt (knd v 1) (v 1)) = ned v x := cnt_bij (P := fun p => decide (x < (v (39 + p) : Nat))) (fun k hk => ⟨(hf1 k hk).2.1, (hf1 k hk).2.2.1⟩) in1 rfl
  have e4 : cnt (fun k => decide (x ≤ (v (39 + f1 k) : Nat))) (cnt (knd v 1) (v 1)) = lik v x := cnt_bij (P := fun p => decide (x ≤ (v (39 + p) : Nat))) (fun k hk => ⟨(hf1 k hk).2.1, (hf1 k hk).2.2.1⟩) in1 rfl
  have z1 := zf3_run (f := gX12_clears_l13 M (J x)) (r := some (J (mst v x), J (may v x))) (cnt (knd v 0) (v 1)) (fun i => J (cnt (fun k => decide ((v (39 + f0 k) : Nat) < x)) i)) (fun i => J (cnt (fun k => decide ((v (39 + f0 k) : Nat) ≤ x)) i)) J (by
    intro i hi F
    rw [cnt_s, cnt_s]
    simp (disch := omega) only [gX12_clears_l13, wb1, wb2, wb3, wb4, wc1, wc2, zb1_ite, zb2_ite, zb3_ite, zb4_ite, zzc1_ite, zzc2_ite, J_lit, J_n1, J_n2, J_add, J_mul, J_lt, J_le, J_eq, J_eN, N_eJ, J_eN2, J_nn, J_lN, N_lJ, J_leN, N_leJ, NN_l0, NN_eN, bJ_0, bJ_1, bJ_ite, zbz_b, zbz_0, zbz_1, zag_J, zas_J, ite_true, ite_false, if_true, if_false, ite_self, reduceIte, not_true_eq_false, not_false_eq_true, J_o, Nat.reduceEqDiff, Nat.reduceAdd, Nat.reduceMul, Nat.reduceSub, Nat.reduceLT, Nat.reduceLeDiff, Nat.one_ne_zero, hk.1, Mk_a hV hk (hf0 i hi).1 hi]
    rw [if_neg (by omega)]
    rcases Nat.lt_trichotomy (v (39 + f0 i) : Nat) x with h3 | h3 | h3
    · simp [h3, show ¬ x ≤ (v (39 + f0 i) : Nat) by omega, show ¬ x < (v (39 + f0 i) : Nat) by omega, show (v (39 + f0 i) : Nat) ≤ x by omega]
    · simp [h3]
    · simp [h3, show x ≤ (v (39 + f0 i) : Nat) by omega, show ¬ (v (39 + f0 i) : Nat) < x by omega, show ¬ (v (39 + f0 i) : Nat) ≤ x by omega]) (by
    intro F
    simp (disch := omega) only [gX12_clears_l13, wb1, wb2, wb3, wb4, wc1, wc2, zb1_ite, zb2_ite, zb3_ite, zb4_ite, zzc1_ite, zzc2_ite, J_lit, J_n1, J_n2, J_add, J_mul, J_lt, J_le, J_eq, J_eN, N_eJ, J_eN2, J_nn, J_lN, N_lJ, J_leN, N_leJ, NN_l0, NN_eN, bJ_0, bJ_1, bJ_ite, zbz_b, zbz_0, zbz_1, zag_J, zas_J, ite_true, ite_false, if_true, if_false, ite_self, reduceIte, not_true_eq_false, not_false_eq_true, J_o, Nat.reduceEqDiff, Nat.reduceAdd, Nat.reduceMul, Nat.reduceSub, Nat.reduceLT, Nat.reduceLeDiff, Nat.one_ne_zero, hk.1, e1, e2]
    simp) (zfu_lt (by omega))
  have z2 := zf3_run (f := gX12_clears_l69 M (J x)) (r := some (J (ned v x), J (lik v x))) (cnt (knd v 1) (v 1)) (fun i => J (cnt (fun k => decide (x < (v (39 + f1 k) : Nat))) i)) (fun i => J (cnt (fun k => decide (x ≤ (v (39 + f1 k) : Nat))) i)) J (by
    intro i hi F
    rw [cnt_s, cnt_s]
    simp (disch := omega) only [gX12_clears_l69, wb1, wb2, wb3, wb4, wc1, wc2, zb1_ite, zb2_ite, zb3_ite, zb4_ite, zzc1_ite, zzc2_ite, J_lit, J_n1, J_n2, J_add, J_mul, J_lt, J_le, J_eq, J_eN, N_eJ, J_eN2, J_nn, J_lN, N_lJ, J_leN, N_leJ, NN_l0, NN_eN, bJ_0, bJ_1, bJ_ite, zbz_b, zbz_0, zbz_1, zag_J, zas_J, ite_true, ite_false, if_true, if_false, ite_self, reduceIte, not_true_eq_false, not_false_eq_true, J_o, Nat.reduceEqDiff, Nat.reduceAdd, Nat.reduceMul, Nat.reduceSub, Nat.reduceLT, Nat.reduceLeDiff, Nat.one_ne_zero, hk.2.1, Mk_b hV hk (hf1 i hi).1 hi]
    rw [if_neg (by omega)]
    rcases Nat.lt_trichotomy (v (39 + f1 i) : Nat) x with h3 | h3 | h3
    · simp [h3, show ¬ x ≤ (v (39 + f1 i) : Nat) by omega, show ¬ x < (v (39 + f1 i) : Nat) by omega, show (v (39 + f1 i) : Nat) ≤ x by omega]
    · simp [h3]
    · simp [h3, show x ≤ (v (39 + f1 i) : Nat) by omega, show ¬ (v (39 + f1 i) : Nat) < x by omega, show ¬ (v (39 + f1 i) : Nat) ≤ x by omega]) (by
    intro F
    simp (disch := omega) only [gX12_clears_l69, wb1, wb2, wb3, wb4, wc1, wc2, zb1_ite, zb2_ite, zb3_ite, zb4_ite, zzc1_ite, zzc2_ite, J_lit, J_n1, J_n2, J_add, J_mul, J_lt, J_le, J_eq, J_eN, N_eJ, J_eN2, J_nn, J_lN, N_lJ, J_leN, N_leJ, NN_l0, NN_eN, bJ_0, bJ_1, bJ_ite, zbz_b, zbz_0, zbz_1, zag_J, zas_J, ite_true, ite_false, if_true, if_false, ite_self, reduceIte, not_true_eq_false, not_false_eq_true, J_o, Nat.reduceEqDiff, Nat.reduceAdd, Nat.reduceMul, Nat.reduceSub, Nat.reduceLT, Nat.reduceLeDiff, Nat.one_ne_zero, hk.2.1, e3, e4]
    simp) (zfu_lt (by omega))
  have c1 : mst v x ≤ may v x := cnt_mono (fun i _ h => by
    rw [Bool.and_eq_true, decide_eq_true_eq] at h ⊢
    exact ⟨h.1, Nat.le_of_lt h.2⟩)
  have c2 : ned v x ≤ lik v x := cnt_mono (fun i _ h => by
    rw [Bool.and_eq_true, decide_eq_true_eq] at h ⊢
    exact ⟨h.1, Nat.le_of_lt h.2⟩)
  unfold gX12_clears
  rw [show (0 : Int32) = J 0 from rfl]
  refine (congrArg (zb2 · _) z1).trans ?_
  show zb2 (zf3 (gX12_clears_l69 M (J x)) zfu (J 0) (J 0) (J 0)) _ = _
  refine (congrArg (zb2 · _) z2).trans ?_
  simp (disch := omega) only [wb1, wb2, wb3, wb4, wc1, wc2, zb1_ite, zb2_ite, zb3_ite, zb4_ite, zzc1_ite, zzc2_ite, J_lit, J_n1, J_n2, J_add, J_mul, J_lt, J_le, J_eq, J_eN, N_eJ, J_eN2, J_nn, J_lN, N_lJ, J_leN, N_leJ, NN_l0, NN_eN, bJ_0, bJ_1, bJ_ite, zbz_b, zbz_0, zbz_1, zag_J, zas_J, ite_true, ite_false, if_true, if_false, ite_self, reduceIte, not_true_eq_false, not_false_eq_true, J_o, Nat.reduceEqDiff, Nat.reduceAdd, Nat.reduceMul, Nat.reduceSub, Nat.reduceLT, Nat.reduceLeDiff, Nat.one_ne_zero, R_greater, R_lesser]
  unfold fai
  by_cases hc : min (may v x) (lik v x) < max (mst v x) (ned v x)
  · simp [hc, show ¬ (mst v x ≤ lik v x ∧ ned v x ≤ may v x) by omega, bJ]
  · simp [hc, show (mst v x ≤ lik v x ∧ ned v x ≤ may v x) by omega, bJ]
theorem C_leastPrice {U : zCS} {a : Nat} {v : zV} (h : isVal U a v) (hV : VOK v) : gX8_leastPrice U a = some (oJ (fstI (fai v) 100)) := by
  unfold gX8_leastPrice
  refine (zf1_find (f := gX8_leastPrice_l2 U a) 100 (fai v) (fun i => some (J i)) (some NN) (by omega) ?_ ?_ ?_).trans ?_
  · intro i hi hp F
    simp (disch := omega) only [gX8_leastPrice_l2, wb1, wb2, wb3, wb4, wc1, wc2, zb1_ite, zb2_ite, zb3_ite, zb4_ite, zzc1_ite, zzc2_ite, J_lit, J_n1, J_n2, J_add, J_mul, J_lt, J_le, J_eq, J_eN, N_eJ, J_eN2, J_nn, J_lN, N_lJ, J_leN, N_leJ, NN_l0, NN_eN, bJ_0, bJ_1, bJ_ite, zbz_b, zbz_0, zbz_1, zag_J, zas_J, ite_true, ite_false, if_true, if_false, ite_self, reduceIte, not_true_eq_false, not_false_eq_true, J_o, Nat.reduceEqDiff, Nat.reduceAdd, Nat.reduceMul, Nat.reduceSub, Nat.reduceLT, Nat.reduceLeDiff, Nat.one_ne_zero, C_isFair h hV, hp]
    rw [if_neg (by omega)]
  · intro i hi hp F
    simp (disch := omega) only [gX8_leastPrice_l2, wb1, wb2, wb3, wb4, wc1, wc2, zb1_ite, zb2_ite, zb3_ite, zb4_ite, zzc1_ite, zzc2_ite, J_lit, J_n1, J_n2, J_add, J_mul, J_lt, J_le, J_eq, J_eN, N_eJ, J_eN2, J_nn, J_lN, N_lJ, J_leN, N_leJ, NN_l0, NN_eN, bJ_0, bJ_1, bJ_ite, zbz_b, zbz_0, zbz_1, zag_J, zas_J, ite_true, ite_false, if_true, if_false, ite_self, reduceIte, not_true_eq_false, not_false_eq_true, J_o, Nat.reduceEqDiff, Nat.reduceAdd, Nat.reduceMul, Nat.reduceSub, Nat.reduceLT, Nat.reduceLeDiff, Nat.one_ne_zero, C_isFair h hV, hp]
    rw [if_neg (by omega)]
    simp
  · intro F
    simp (disch := omega) only [gX8_leastPrice_l2, wb1, wb2, wb3, wb4, wc1, wc2, zb1_ite, zb2_ite, zb3_ite, zb4_ite, zzc1_ite, zzc2_ite, J_lit, J_n1, J_n2, J_add, J_mul, J_lt, J_le, J_eq, J_eN, N_eJ, J_eN2, J_nn, J_lN, N_lJ, J_leN, N_leJ, NN_l0, NN_eN, bJ_0, bJ_1, bJ_ite, zbz_b, zbz_0, zbz_1, zag_J, zas_J, ite_true, ite_false, if_true, if_false, ite_self, reduceIte, not_true_eq_false, not_false_eq_true, J_o, Nat.reduceEqDiff, Nat.reduceAdd, Nat.reduceMul, Nat.reduceSub, Nat.reduceLT, Nat.reduceLeDiff, Nat.one_ne_zero]
  · cases fstI (fai v) 100 <;> rfl
/-- the last of all -/
def lstU (p : Nat → Bool) : Nat → Option Nat := itr (fun i b => if p i then some i else b) none
theorem lstU_s {p : Nat → Bool} {n : Nat} : lstU p (n + 1) = if p n then some n else lstU p n := rfl
theorem lstU_lt {p : Nat → Bool} : ∀ n k, lstU p n = some k → k < n
  | 0, k, h => by cases h
  | n + 1, k, h => by
    rw [lstU_s] at h
    split at h
    · cases h; omega
    · have := lstU_lt n k h; omega
theorem lstU_e {p : Nat → Bool} : ∀ n, lstU p n = match fstI (fun i => p (n - 1 - i)) n with
    | some i => some (n - 1 - i)
    | none => none := by
  have h : ∀ n, (match lstU p n with | some k => k < n ∧ p k = true ∧ ∀ j, k < j → j < n → p j = false | none => ∀ j, j < n → p j = false) := by
    intro n
    induction n with
    | zero => intro j hj; omega
    | succ n ih =>
      rw [lstU_s]
      cases hp : p n
      · simp only [Bool.false_eq_true, if_false]
        cases hl : lstU p n with
        | none =>
          rw [hl] at ih
          intro j hj
          by_cases e : j = n
          · rw [e]; exact hp
          · exact ih j (by omega)
        | some k =>
          rw [hl] at ih
          refine ⟨by omega, ih.2.1, fun j h1 h2 => ?_⟩
          by_cases e : j = n
          · rw [e]; exact hp
          · exact ih.2.2 j h1 (by omega)
      · simp only [if_true]
        exact ⟨by omega, hp, fun j h1 h2 => by omega⟩
  intro n
  have h1 := h n
  cases hf : fstI (fun i => p (n - 1 - i)) n with
  | none =>
    have h2 := fstI_n hf
    cases hl : lstU p n with
    | none => rfl
    | some k =>
      rw [hl] at h1
      have h3 := h2 (n - 1 - k) (by omega)
      rw [show n - 1 - (n - 1 - k) = k by omega, h1.2.1] at h3; cases h3
  | some i =>
    obtain ⟨h2, h3, h4⟩ := fstI_s hf
    cases hl : lstU p n with
    | none =>
      rw [hl] at h1
      have h5 := h1 (n - 1 - i) (by omega)
      rw [h3] at h5; cases h5
    | some k =>
      rw [hl] at h1
      have h5 : ¬ k < n - 1 - i := fun z => by have := h1.2.2 (n - 1 - i) z (by omega); rw [h3] at this; cases this
      have h6 : ¬ n - 1 - i < k := fun z => by
        have := h4 (n - 1 - k) (by omega)
        rw [show n - 1 - (n - 1 - k) = k by omega, h1.2.1] at this; cases this
      simp only [Option.some.injEq]
      omega
theorem dn_s {w i : Nat} (hi : i ≤ w) : J (w - i) + NN = dn w (i + 1) := by
  unfold dn
  by_cases h1 : i + 1 ≤ w
  · rw [if_pos h1, show w - i = (w - (i + 1)) + 1 by omega, ← J_add, show NN = -(1 : Int32) from rfl, show (J 1 : Int32) = 1 from rfl, ← Int32.sub_eq_add_neg, Int32.add_sub_cancel]
  · rw [if_neg h1, show w - i = 0 by omega]; rfl
theorem C_greatestPrice {U : zCS} {a : Nat} {v : zV} (h : isVal U a v) (hV : VOK v) : gX8_greatestPrice U a = some (oJ (lstU (fai v) 100)) := by
  unfold gX8_greatestPrice
  rw [lstU_e]
  have stp : ∀ i, i < 100 → fai v (99 - i) = false → ∀ F, gX8_greatestPrice_l3 U a F (dn 99 i) = F (dn 99 (i + 1)) := by
    intro i hi hp F
    rw [show dn 99 i = J (99 - i) from if_pos (by omega)]
    simp (disch := omega) only [gX8_greatestPrice_l3, wb1, wb2, wb3, wb4, wc1, wc2, zb1_ite, zb2_ite, zb3_ite, zb4_ite, zzc1_ite, zzc2_ite, J_lit, J_n1, J_n2, J_add, J_mul, J_lt, J_le, J_eq, J_eN, N_eJ, J_eN2, J_nn, J_lN, N_lJ, J_leN, N_leJ, NN_l0, NN_eN, bJ_0, bJ_1, bJ_ite, zbz_b, zbz_0, zbz_1, zag_J, zas_J, ite_true, ite_false, if_true, if_false, ite_self, reduceIte, not_true_eq_false, not_false_eq_true, J_o, Nat.reduceEqDiff, Nat.reduceAdd, Nat.reduceMul, Nat.reduceSub, Nat.reduceLT, Nat.reduceLeDiff, Nat.one_ne_zero, C_isFair h hV, hp, dn_s]
    rw [if_neg (by omega)]
  cases hf : fstI (fun i => fai v (100 - 1 - i)) 100 with
  | none =>
    have h1 := fstI_n hf
    refine zf1_run (f := gX8_greatestPrice_l3 U a) 100 (dn 99) (fun i hi F => stp i hi (h1 i hi) F) (fun F => ?_) (zfu_lt (by omega))
    rw [show dn 99 100 = NN from rfl]
    simp (disch := omega) only [gX8_greatestPrice_l3, wb1, wb2, wb3, wb4, wc1, wc2, zb1_ite, zb2_ite, zb3_ite, zb4_ite, zzc1_ite, zzc2_ite, J_lit, J_n1, J_n2, J_add, J_mul, J_lt, J_le, J_eq, J_eN, N_eJ, J_eN2, J_nn, J_lN, N_lJ, J_leN, N_leJ, NN_l0, NN_eN, bJ_0, bJ_1, bJ_ite, zbz_b, zbz_0, zbz_1, zag_J, zas_J, ite_true, ite_false, if_true, if_false, ite_self, reduceIte, not_true_eq_false, not_false_eq_true, J_o, Nat.reduceEqDiff, Nat.reduceAdd, Nat.reduceMul, Nat.reduceSub, Nat.reduceLT, Nat.reduceLeDiff, Nat.one_ne_zero]
    rfl
  | some k =>
    obtain ⟨h1, h2, h3⟩ := fstI_s hf
    refine zf1_run (f := gX8_greatestPrice_l3 U a) k (dn 99) (fun i hi F => stp i (by omega) (h3 i hi) F) (fun F => ?_) (zfu_lt (by omega))
    have h2' : fai v (99 - k) = true := h2
    rw [show dn 99 k = J (99 - k) from if_pos (by omega)]
    simp (disch := omega) only [gX8_greatestPrice_l3, wb1, wb2, wb3, wb4, wc1, wc2, zb1_ite, zb2_ite, zb3_ite, zb4_ite, zzc1_ite, zzc2_ite, J_lit, J_n1, J_n2, J_add, J_mul, J_lt, J_le, J_eq, J_eN, N_eJ, J_eN2, J_nn, J_lN, N_lJ, J_leN, N_leJ, NN_l0, NN_eN, bJ_0, bJ_1, bJ_ite, zbz_b, zbz_0, zbz_1, zag_J, zas_J, ite_true, ite_false, if_true, if_false, ite_self, reduceIte, not_true_eq_false, not_false_eq_true, J_o, Nat.reduceEqDiff, Nat.reduceAdd, Nat.reduceMul, Nat.reduceSub, Nat.reduceLT, Nat.reduceLeDiff, Nat.one_ne_zero, C_isFair h hV, h2']
    simp [oJ]
theorem R_market_p {M : zMS} {v : zV} (hV : VOK v) (hk : isMk M v (v 1)) : zf3 (gX12_market_l101 M) zfu NN NN (J 0) = some (oJ (fstI (fai v) 100), oJ (lstU (fai v) 100)) := by
  exact zf3_run (f := gX12_market_l101 M) 100 (fun i => oJ (fstI (fai v) i)) (fun i => oJ (lstU (fai v) i)) J (by
    intro i hi F
    rw [fstI_S, lstU_s]
    simp (disch := omega) only [gX12_market_l101, gX12_market_b132, wb1, wb2, wb3, wb4, wc1, wc2, zb1_ite, zb2_ite, zb3_ite, zb4_ite, zzc1_ite, zzc2_ite, J_lit, J_n1, J_n2, J_add, J_mul, J_lt, J_le, J_eq, J_eN, N_eJ, J_eN2, J_nn, J_lN, N_lJ, J_leN, N_leJ, NN_l0, NN_eN, bJ_0, bJ_1, bJ_ite, zbz_b, zbz_0, zbz_1, zag_J, zas_J, ite_true, ite_false, if_true, if_false, ite_self, reduceIte, not_true_eq_false, not_false_eq_true, J_o, Nat.reduceEqDiff, Nat.reduceAdd, Nat.reduceMul, Nat.reduceSub, Nat.reduceLT, Nat.reduceLeDiff, Nat.one_ne_zero, R_clears hV hk]
    rw [if_neg (by omega)]
    cases hp : fai v i
    · simp only [if_true, Bool.false_eq_true, if_false]
      cases fstI (fai v) i <;> rfl
    · simp only [if_true, Bool.true_eq_false, if_false]
      cases hf : fstI (fai v) i with
      | none => simp (disch := omega) only [wb1, wb2, wb3, wb4, wc1, wc2, zb1_ite, zb2_ite, zb3_ite, zb4_ite, zzc1_ite, zzc2_ite, J_lit, J_n1, J_n2, J_add, J_mul, J_lt, J_le, J_eq, J_eN, N_eJ, J_eN2, J_nn, J_lN, N_lJ, J_leN, N_leJ, NN_l0, NN_eN, bJ_0, bJ_1, bJ_ite, zbz_b, zbz_0, zbz_1, zag_J, zas_J, ite_true, ite_false, if_true, if_false, ite_self, reduceIte, not_true_eq_false, not_false_eq_true, J_o, Nat.reduceEqDiff, Nat.reduceAdd, Nat.reduceMul, Nat.reduceSub, Nat.reduceLT, Nat.reduceLeDiff, Nat.one_ne_zero, oJ_n]; rfl
      | some k =>
        have := (fstI_s hf).1
        simp (disch := omega) only [wb1, wb2, wb3, wb4, wc1, wc2, zb1_ite, zb2_ite, zb3_ite, zb4_ite, zzc1_ite, zzc2_ite, J_lit, J_n1, J_n2, J_add, J_mul, J_lt, J_le, J_eq, J_eN, N_eJ, J_eN2, J_nn, J_lN, N_lJ, J_leN, N_leJ, NN_l0, NN_eN, bJ_0, bJ_1, bJ_ite, zbz_b, zbz_0, zbz_1, zag_J, zas_J, ite_true, ite_false, if_true, if_false, ite_self, reduceIte, not_true_eq_false, not_false_eq_true, J_o, Nat.reduceEqDiff, Nat.reduceAdd, Nat.reduceMul, Nat.reduceSub, Nat.reduceLT, Nat.reduceLeDiff, Nat.one_ne_zero, oJ_s]) (by
    intro F
    simp (disch := omega) only [gX12_market_l101, wb1, wb2, wb3, wb4, wc1, wc2, zb1_ite, zb2_ite, zb3_ite, zb4_ite, zzc1_ite, zzc2_ite, J_lit, J_n1, J_n2, J_add, J_mul, J_lt, J_le, J_eq, J_eN, N_eJ, J_eN2, J_nn, J_lN, N_lJ, J_leN, N_leJ, NN_l0, NN_eN, bJ_0, bJ_1, bJ_ite, zbz_b, zbz_0, zbz_1, zag_J, zas_J, ite_true, ite_false, if_true, if_false, ite_self, reduceIte, not_true_eq_false, not_false_eq_true, J_o, Nat.reduceEqDiff, Nat.reduceAdd, Nat.reduceMul, Nat.reduceSub, Nat.reduceLT, Nat.reduceLeDiff, Nat.one_ne_zero]) (zfu_lt (by omega))
