/-! words: chains and rings -/
theorem fstI_S {p : Nat → Bool} {n : Nat} : fstI p (n + 1) = match fstI p n with
    | some i => some i
    | none => if p n then some n else none := by
  unfold fstI
  rw [List.range_succ, List.find?_append]
  cases List.find? p (List.range n) with
  | some i => rfl
  | none =>
    by_cases h : p n = true
    · simp [h]
    · simp [h]
theorem zf2_find {A B R : Type} {f : (A → B → Option R) → A → B → Option R} (n : Nat) (s0 : Nat → A) (s1 : Nat → B) (p : Nat → Bool) (hit : Nat → Option R) (miss : Option R) (hn : n < 1000000) (hs : ∀ i, i < n → p i = false → ∀ F, f F (s0 i) (s1 i) = F (s0 (i + 1)) (s1 (i + 1))) (hh : ∀ i, i < n → p i = true → ∀ F, f F (s0 i) (s1 i) = hit i) (he : ∀ F, f F (s0 n) (s1 n) = miss) : zf2 f zfu (s0 0) (s1 0) = match fstI p n with
    | some i => hit i
    | none => miss := by
  cases h : fstI p n with
  | none => exact zf2_run n s0 s1 (fun i hi F => hs i hi (fstI_n h i hi) F) he (zfu_lt hn)
  | some k =>
    obtain ⟨h1, h2, h3⟩ := fstI_s h
    exact zf2_run k s0 s1 (fun i hi F => hs i (by omega) (h3 i hi) F) (hh k h1 h2) (zfu_lt (by omega))
def seqw (v : zV) (w : Nat) : Nat → Nat := itr (fun _ x => (v (3 + x) : Nat)) w
theorem seqw_s {v : zV} {w i : Nat} : seqw v w (i + 1) = (v (3 + seqw v w i) : Nat) := rfl
theorem seqw_lt {v : zV} (hV : VOK v) {w : Nat} (hw : w < 8) : ∀ i, seqw v w i < 8
  | 0 => hw
  | i + 1 => hV.2.2.2.2.1 _ (seqw_lt hV hw i)
def chn (v : zV) (f t : Nat) : Option Nat := (fstI (fun i => decide (seqw v f (i + 1) = t)) 8).map (· + 1)
theorem chn_le {v : zV} {f t n : Nat} (h : chn v f t = some n) : 1 ≤ n ∧ n ≤ 8 ∧ seqw v f n = t ∧ ∀ j, 1 ≤ j → j < n → seqw v f j ≠ t := by
  unfold chn at h
  cases hf : fstI (fun i => decide (seqw v f (i + 1) = t)) 8 with
  | none => rw [hf] at h; cases h
  | some k =>
    rw [hf] at h
    simp only [Option.map_some, Option.some.injEq] at h
    obtain ⟨h1, h2, h3⟩ := fstI_s hf
    subst h
    refine ⟨by omega, by omega, of_decide_eq_true h2, fun j h4 h5 => ?_⟩
    have h6 := of_decide_eq_false (h3 (j - 1) (by omega))
    rwa [Nat.sub_add_cancel h4] at h6
theorem C_sayingsUntil {U : zCS} {a : Nat} {v : zV} (h : isVal U a v) (hV : VOK v) {f t : Nat} (hf : f < 8) (ht : t < 8) : gX10_sayingsUntil U a (J f) (J t) = some (oJ (chn v f t)) := by
  unfold gX10_sayingsUntil
  refine (zf2_find (f := gX10_sayingsUntil_l5 U a (J t)) 8 (fun i => J (seqw v f i)) (fun i => J (i + 1)) (fun i => decide (seqw v f (i + 1) = t)) (fun i => some (J (i + 1))) (some NN) (by omega) ?_ ?_ ?_).trans ?_
  · intro i hi hp F
    have h1 := seqw_lt hV hf i
    have hp := of_decide_eq_false hp
    rw [seqw_s] at hp
    simp (disch := omega) only [gX10_sayingsUntil_l5, wb1, wb2, wb3, wb4, wc1, wc2, zb1_ite, zb2_ite, zb3_ite, zb4_ite, zzc1_ite, zzc2_ite, J_lit, J_n1, J_n2, J_add, J_mul, J_lt, J_le, J_eq, J_eN, N_eJ, J_eN2, J_nn, J_lN, N_lJ, J_leN, N_leJ, NN_l0, NN_eN, bJ_0, bJ_1, bJ_ite, zbz_b, zbz_0, zbz_1, zag_J, zas_J, ite_true, ite_false, if_true, if_false, ite_self, reduceIte, not_true_eq_false, not_false_eq_true, J_o, Nat.reduceEqDiff, Nat.reduceAdd, Nat.reduceMul, Nat.reduceSub, Nat.reduceLT, Nat.reduceLeDiff, Nat.one_ne_zero, V_sh h, seqw_s, eq_false hp]
    rw [if_neg (by omega)]
  · intro i hi hp F
    have h1 := seqw_lt hV hf i
    have hp := of_decide_eq_true hp
    rw [seqw_s] at hp
    simp (disch := omega) only [gX10_sayingsUntil_l5, wb1, wb2, wb3, wb4, wc1, wc2, zb1_ite, zb2_ite, zb3_ite, zb4_ite, zzc1_ite, zzc2_ite, J_lit, J_n1, J_n2, J_add, J_mul, J_lt, J_le, J_eq, J_eN, N_eJ, J_eN2, J_nn, J_lN, N_lJ, J_leN, N_leJ, NN_l0, NN_eN, bJ_0, bJ_1, bJ_ite, zbz_b, zbz_0, zbz_1, zag_J, zas_J, ite_true, ite_false, if_true, if_false, ite_self, reduceIte, not_true_eq_false, not_false_eq_true, J_o, Nat.reduceEqDiff, Nat.reduceAdd, Nat.reduceMul, Nat.reduceSub, Nat.reduceLT, Nat.reduceLeDiff, Nat.one_ne_zero, V_sh h, seqw_s, eq_true hp]
    rw [if_neg (by omega)]
  · intro F
    simp (disch := omega) only [gX10_sayingsUntil_l5, wb1, wb2, wb3, wb4, wc1, wc2, zb1_ite, zb2_ite, zb3_ite, zb4_ite, zzc1_ite, zzc2_ite, J_lit, J_n1, J_n2, J_add, J_mul, J_lt, J_le, J_eq, J_eN, N_eJ, J_eN2, J_nn, J_lN, N_lJ, J_leN, N_leJ, NN_l0, NN_eN, bJ_0, bJ_1, bJ_ite, zbz_b, zbz_0, zbz_1, zag_J, zas_J, ite_true, ite_false, if_true, if_false, ite_self, reduceIte, not_true_eq_false, not_false_eq_true, J_o, Nat.reduceEqDiff, Nat.reduceAdd, Nat.reduceMul, Nat.reduceSub, Nat.reduceLT, Nat.reduceLeDiff, Nat.one_ne_zero]
  · unfold chn
    cases fstI _ _ <;> rfl
theorem R_chain_l {M : zMS} {v : zV} (h : isMV M v) (hV : VOK v) {f t : Nat} (hf : f < 8) (ht : t < 8) : zf2 (gX12_chain_l35 M (J t)) zfu (J f) (J 1) = some (oJ (chn v f t), M) := by
  refine (zf2_find (f := gX12_chain_l35 M (J t)) 8 (fun i => J (seqw v f i)) (fun i => J (i + 1)) (fun i => decide (seqw v f (i + 1) = t)) (fun i => some (J (i + 1), M)) (some (NN, M)) (by omega) ?_ ?_ ?_).trans ?_
  · intro i hi hp F
    have h1 := seqw_lt hV hf i
    have hp := of_decide_eq_false hp
    rw [seqw_s] at hp
    simp (disch := omega) only [gX12_chain_l35, wb1, wb2, wb3, wb4, wc1, wc2, zb1_ite, zb2_ite, zb3_ite, zb4_ite, zzc1_ite, zzc2_ite, J_lit, J_n1, J_n2, J_add, J_mul, J_lt, J_le, J_eq, J_eN, N_eJ, J_eN2, J_nn, J_lN, N_lJ, J_leN, N_leJ, NN_l0, NN_eN, bJ_0, bJ_1, bJ_ite, zbz_b, zbz_0, zbz_1, zag_J, zas_J, ite_true, ite_false, if_true, if_false, ite_self, reduceIte, not_true_eq_false, not_false_eq_true, J_o, Nat.reduceEqDiff, Nat.reduceAdd, Nat.reduceMul, Nat.reduceSub, Nat.reduceLT, Nat.reduceLeDiff, Nat.one_ne_zero, R_of h, seqw_s, eq_false hp]
    rw [if_neg (by omega)]
  · intro i hi hp F
    have h1 := seqw_lt hV hf i
    have hp := of_decide_eq_true hp
    rw [seqw_s] at hp
    simp (disch := omega) only [gX12_chain_l35, wb1, wb2, wb3, wb4, wc1, wc2, zb1_ite, zb2_ite, zb3_ite, zb4_ite, zzc1_ite, zzc2_ite, J_lit, J_n1, J_n2, J_add, J_mul, J_lt, J_le, J_eq, J_eN, N_eJ, J_eN2, J_nn, J_lN, N_lJ, J_leN, N_leJ, NN_l0, NN_eN, bJ_0, bJ_1, bJ_ite, zbz_b, zbz_0, zbz_1, zag_J, zas_J, ite_true, ite_false, if_true, if_false, ite_self, reduceIte, not_true_eq_false, not_false_eq_true, J_o, Nat.reduceEqDiff, Nat.reduceAdd, Nat.reduceMul, Nat.reduceSub, Nat.reduceLT, Nat.reduceLeDiff, Nat.one_ne_zero, R_of h, seqw_s, eq_true hp]
    rw [if_neg (by omega)]
  · intro F
    simp (disch := omega) only [gX12_chain_l35, wb1, wb2, wb3, wb4, wc1, wc2, zb1_ite, zb2_ite, zb3_ite, zb4_ite, zzc1_ite, zzc2_ite, J_lit, J_n1, J_n2, J_add, J_mul, J_lt, J_le, J_eq, J_eN, N_eJ, J_eN2, J_nn, J_lN, N_lJ, J_leN, N_leJ, NN_l0, NN_eN, bJ_0, bJ_1, bJ_ite, zbz_b, zbz_0, zbz_1, zag_J, zas_J, ite_true, ite_false, if_true, if_false, ite_self, reduceIte, not_true_eq_false, not_false_eq_true, J_o, Nat.reduceEqDiff, Nat.reduceAdd, Nat.reduceMul, Nat.reduceSub, Nat.reduceLT, Nat.reduceLeDiff, Nat.one_ne_zero]
  · unfold chn
    cases fstI _ _ <;> rfl
def rgn (v : zV) (w : Nat) : Nat := match chn v w w with
  | some n => n
  | none => 0
theorem rgn_le {v : zV} {w : Nat} : rgn v w ≤ 8 := by
  unfold rgn
  cases h : chn v w w with
  | none => exact Nat.zero_le _
  | some n => exact (chn_le h).2.1
theorem R_ringOf {M : zMS} {v : zV} (h : isMV M v) (hV : VOK v) {w : Nat} (hw : w < 8) : gX12_ringOf M (J w) = some (J (rgn v w)) := by
  have h7 := seqw_lt hV hw
  have e := zf2_find (f := gX12_ringOf_l10 (J w) M) 7 (fun i => J (seqw v w (i + 1))) (fun i => J (i + 1)) (fun i => decide (seqw v w (i + 1) = w)) (fun i => some (J w, J (i + 1))) (some (J (seqw v w 8), J 8)) (by omega) (by
    intro i hi hp F
    have h1 := h7 (i + 1)
    have hp := of_decide_eq_false hp
    simp (disch := omega) only [gX12_ringOf_l10, wb1, wb2, wb3, wb4, wc1, wc2, zb1_ite, zb2_ite, zb3_ite, zb4_ite, zzc1_ite, zzc2_ite, J_lit, J_n1, J_n2, J_add, J_mul, J_lt, J_le, J_eq, J_eN, N_eJ, J_eN2, J_nn, J_lN, N_lJ, J_leN, N_leJ, NN_l0, NN_eN, bJ_0, bJ_1, bJ_ite, zbz_b, zbz_0, zbz_1, zag_J, zas_J, ite_true, ite_false, if_true, if_false, ite_self, reduceIte, not_true_eq_false, not_false_eq_true, J_o, Nat.reduceEqDiff, Nat.reduceAdd, Nat.reduceMul, Nat.reduceSub, Nat.reduceLT, Nat.reduceLeDiff, Nat.one_ne_zero, R_of h, eq_false hp, seqw_s (i := i + 1)]
    rw [if_neg (by omega)]) (by
    intro i hi hp F
    have h1 := h7 (i + 1)
    have hp := of_decide_eq_true hp
    simp (disch := omega) only [gX12_ringOf_l10, wb1, wb2, wb3, wb4, wc1, wc2, zb1_ite, zb2_ite, zb3_ite, zb4_ite, zzc1_ite, zzc2_ite, J_lit, J_n1, J_n2, J_add, J_mul, J_lt, J_le, J_eq, J_eN, N_eJ, J_eN2, J_nn, J_lN, N_lJ, J_leN, N_leJ, NN_l0, NN_eN, bJ_0, bJ_1, bJ_ite, zbz_b, zbz_0, zbz_1, zag_J, zas_J, ite_true, ite_false, if_true, if_false, ite_self, reduceIte, not_true_eq_false, not_false_eq_true, J_o, Nat.reduceEqDiff, Nat.reduceAdd, Nat.reduceMul, Nat.reduceSub, Nat.reduceLT, Nat.reduceLeDiff, Nat.one_ne_zero, eq_true hp]
    rw [hp]) (by
    intro F
    have h1 := h7 8
    simp (disch := omega) only [gX12_ringOf_l10, wb1, wb2, wb3, wb4, wc1, wc2, zb1_ite, zb2_ite, zb3_ite, zb4_ite, zzc1_ite, zzc2_ite, J_lit, J_n1, J_n2, J_add, J_mul, J_lt, J_le, J_eq, J_eN, N_eJ, J_eN2, J_nn, J_lN, N_lJ, J_leN, N_leJ, NN_l0, NN_eN, bJ_0, bJ_1, bJ_ite, zbz_b, zbz_0, zbz_1, zag_J, zas_J, ite_true, ite_false, if_true, if_false, ite_self, reduceIte, not_true_eq_false, not_false_eq_true, J_o, Nat.reduceEqDiff, Nat.reduceAdd, Nat.reduceMul, Nat.reduceSub, Nat.reduceLT, Nat.reduceLeDiff, Nat.one_ne_zero]
    try simp)
  unfold gX12_ringOf
  simp (disch := omega) only [wb1, wb2, wb3, wb4, wc1, wc2, zb1_ite, zb2_ite, zb3_ite, zb4_ite, zzc1_ite, zzc2_ite, J_lit, J_n1, J_n2, J_add, J_mul, J_lt, J_le, J_eq, J_eN, N_eJ, J_eN2, J_nn, J_lN, N_lJ, J_leN, N_leJ, NN_l0, NN_eN, bJ_0, bJ_1, bJ_ite, zbz_b, zbz_0, zbz_1, zag_J, zas_J, ite_true, ite_false, if_true, if_false, ite_self, reduceIte, not_true_eq_false, not_false_eq_true, J_o, Nat.reduceEqDiff, Nat.reduceAdd, Nat.reduceMul, Nat.reduceSub, Nat.reduceLT, Nat.reduceLeDiff, Nat.one_ne_zero, R_of h]
  rw [show (v (3 + w) : Nat) = seqw v w (0 + 1) from rfl, show J 1 = J (0 + 1) from rfl, e]
  have hc : chn v w w = Option.map (· + 1) (match fstI (fun i => decide (seqw v w (i + 1) = w)) 7 with
      | some i => some i
      | none => if decide (seqw v w (7 + 1) = w) then some 7 else none) := by unfold chn; rw [fstI_S (n := 7)]
  unfold rgn
  rw [hc]
  cases hf : fstI (fun i => decide (seqw v w (i + 1) = w)) 7 with
  | some i => simp (disch := omega) only [wb1, wb2, wb3, wb4, wc1, wc2, zb1_ite, zb2_ite, zb3_ite, zb4_ite, zzc1_ite, zzc2_ite, J_lit, J_n1, J_n2, J_add, J_mul, J_lt, J_le, J_eq, J_eN, N_eJ, J_eN2, J_nn, J_lN, N_lJ, J_leN, N_leJ, NN_l0, NN_eN, bJ_0, bJ_1, bJ_ite, zbz_b, zbz_0, zbz_1, zag_J, zas_J, ite_true, ite_false, if_true, if_false, ite_self, reduceIte, not_true_eq_false, not_false_eq_true, J_o, Nat.reduceEqDiff, Nat.reduceAdd, Nat.reduceMul, Nat.reduceSub, Nat.reduceLT, Nat.reduceLeDiff, Nat.one_ne_zero]; simp
  | none =>
    have h1 := h7 8
    by_cases h8 : seqw v w 8 = w
    · simp (disch := omega) only [wb1, wb2, wb3, wb4, wc1, wc2, zb1_ite, zb2_ite, zb3_ite, zb4_ite, zzc1_ite, zzc2_ite, J_lit, J_n1, J_n2, J_add, J_mul, J_lt, J_le, J_eq, J_eN, N_eJ, J_eN2, J_nn, J_lN, N_lJ, J_leN, N_leJ, NN_l0, NN_eN, bJ_0, bJ_1, bJ_ite, zbz_b, zbz_0, zbz_1, zag_J, zas_J, ite_true, ite_false, if_true, if_false, ite_self, reduceIte, not_true_eq_false, not_false_eq_true, J_o, Nat.reduceEqDiff, Nat.reduceAdd, Nat.reduceMul, Nat.reduceSub, Nat.reduceLT, Nat.reduceLeDiff, Nat.one_ne_zero]
      simp [h8]
    · simp (disch := omega) only [wb1, wb2, wb3, wb4, wc1, wc2, zb1_ite, zb2_ite, zb3_ite, zb4_ite, zzc1_ite, zzc2_ite, J_lit, J_n1, J_n2, J_add, J_mul, J_lt, J_le, J_eq, J_eN, N_eJ, J_eN2, J_nn, J_lN, N_lJ, J_leN, N_leJ, NN_l0, NN_eN, bJ_0, bJ_1, bJ_ite, zbz_b, zbz_0, zbz_1, zag_J, zas_J, ite_true, ite_false, if_true, if_false, ite_self, reduceIte, not_true_eq_false, not_false_eq_true, J_o, Nat.reduceEqDiff, Nat.reduceAdd, Nat.reduceMul, Nat.reduceSub, Nat.reduceLT, Nat.reduceLeDiff, Nat.one_ne_zero]
      simp [h8]
/-- the least of its ring -/
def lrg (v : zV) (w : Nat) : Bool := match chn v w w with
  | some n => (fstI (fun k => decide (seqw v w (k + 1) < w)) n).isNone
  | none => false
theorem C_isLeastOfRing {U : zCS} {a : Nat} {v : zV} (h : isVal U a v) (hV : VOK v) {w : Nat} (hw : w < 8) : gX10_isLeastOfRing U a (J w) = some (bJ (lrg v w)) := by
  unfold gX10_isLeastOfRing lrg
  rw [C_sayingsUntil h hV hw hw]
  cases hc : chn v w w with
  | none =>
    simp (disch := omega) only [wb1, wb2, wb3, wb4, wc1, wc2, zb1_ite, zb2_ite, zb3_ite, zb4_ite, zzc1_ite, zzc2_ite, J_lit, J_n1, J_n2, J_add, J_mul, J_lt, J_le, J_eq, J_eN, N_eJ, J_eN2, J_nn, J_lN, N_lJ, J_leN, N_leJ, NN_l0, NN_eN, bJ_0, bJ_1, bJ_ite, zbz_b, zbz_0, zbz_1, zag_J, zas_J, ite_true, ite_false, if_true, if_false, ite_self, reduceIte, not_true_eq_false, not_false_eq_true, J_o, Nat.reduceEqDiff, Nat.reduceAdd, Nat.reduceMul, Nat.reduceSub, Nat.reduceLT, Nat.reduceLeDiff, Nat.one_ne_zero, oJ_n]
    obtain ⟨k, hk⟩ : ∃ k, zfu = k + 1 := ⟨zfu - 1, by have := zfu_ge; omega⟩
    rw [hk]
    show gX10_isLeastOfRing_l12 NN U a (J w) _ (J w) (J 0) = _
    simp (disch := omega) only [gX10_isLeastOfRing_l12, wb1, wb2, wb3, wb4, wc1, wc2, zb1_ite, zb2_ite, zb3_ite, zb4_ite, zzc1_ite, zzc2_ite, J_lit, J_n1, J_n2, J_add, J_mul, J_lt, J_le, J_eq, J_eN, N_eJ, J_eN2, J_nn, J_lN, N_lJ, J_leN, N_leJ, NN_l0, NN_eN, bJ_0, bJ_1, bJ_ite, zbz_b, zbz_0, zbz_1, zag_J, zas_J, ite_true, ite_false, if_true, if_false, ite_self, reduceIte, not_true_eq_false, not_false_eq_true, J_o, Nat.reduceEqDiff, Nat.reduceAdd, Nat.reduceMul, Nat.reduceSub, Nat.reduceLT, Nat.reduceLeDiff, Nat.one_ne_zero]
    rfl
  | some n =>
    obtain ⟨h1, h2, -⟩ := chn_le hc
    simp (disch := omega) only [wb1, wb2, wb3, wb4, wc1, wc2, zb1_ite, zb2_ite, zb3_ite, zb4_ite, zzc1_ite, zzc2_ite, J_lit, J_n1, J_n2, J_add, J_mul, J_lt, J_le, J_eq, J_eN, N_eJ, J_eN2, J_nn, J_lN, N_lJ, J_leN, N_leJ, NN_l0, NN_eN, bJ_0, bJ_1, bJ_ite, zbz_b, zbz_0, zbz_1, zag_J, zas_J, ite_true, ite_false, if_true, if_false, ite_self, reduceIte, not_true_eq_false, not_false_eq_true, J_o, Nat.reduceEqDiff, Nat.reduceAdd, Nat.reduceMul, Nat.reduceSub, Nat.reduceLT, Nat.reduceLeDiff, Nat.one_ne_zero, oJ_s]
    refine (zf2_find (f := gX10_isLeastOfRing_l12 (J n) U a (J w)) n (fun i => J (seqw v w i)) J (fun k => decide (seqw v w (k + 1) < w)) (fun _ => some (J 0)) (some (J 1)) (by omega) ?_ ?_ ?_).trans ?_
    · intro i hi hp F
      have h3 := seqw_lt hV hw i
      have hp := of_decide_eq_false hp
      rw [seqw_s] at hp
      simp (disch := omega) only [gX10_isLeastOfRing_l12, wb1, wb2, wb3, wb4, wc1, wc2, zb1_ite, zb2_ite, zb3_ite, zb4_ite, zzc1_ite, zzc2_ite, J_lit, J_n1, J_n2, J_add, J_mul, J_lt, J_le, J_eq, J_eN, N_eJ, J_eN2, J_nn, J_lN, N_lJ, J_leN, N_leJ, NN_l0, NN_eN, bJ_0, bJ_1, bJ_ite, zbz_b, zbz_0, zbz_1, zag_J, zas_J, ite_true, ite_false, if_true, if_false, ite_self, reduceIte, not_true_eq_false, not_false_eq_true, J_o, Nat.reduceEqDiff, Nat.reduceAdd, Nat.reduceMul, Nat.reduceSub, Nat.reduceLT, Nat.reduceLeDiff, Nat.one_ne_zero, V_sh h, seqw_s]
      rw [if_neg (by omega), if_pos (by omega)]
    · intro i hi hp F
      have h3 := seqw_lt hV hw i
      have hp := of_decide_eq_true hp
      rw [seqw_s] at hp
      simp (disch := omega) only [gX10_isLeastOfRing_l12, wb1, wb2, wb3, wb4, wc1, wc2, zb1_ite, zb2_ite, zb3_ite, zb4_ite, zzc1_ite, zzc2_ite, J_lit, J_n1, J_n2, J_add, J_mul, J_lt, J_le, J_eq, J_eN, N_eJ, J_eN2, J_nn, J_lN, N_lJ, J_leN, N_leJ, NN_l0, NN_eN, bJ_0, bJ_1, bJ_ite, zbz_b, zbz_0, zbz_1, zag_J, zas_J, ite_true, ite_false, if_true, if_false, ite_self, reduceIte, not_true_eq_false, not_false_eq_true, J_o, Nat.reduceEqDiff, Nat.reduceAdd, Nat.reduceMul, Nat.reduceSub, Nat.reduceLT, Nat.reduceLeDiff, Nat.one_ne_zero, V_sh h, seqw_s]
      rw [if_neg (by omega), if_neg (by omega)]
    · intro F
      simp (disch := omega) only [gX10_isLeastOfRing_l12, wb1, wb2, wb3, wb4, wc1, wc2, zb1_ite, zb2_ite, zb3_ite, zb4_ite, zzc1_ite, zzc2_ite, J_lit, J_n1, J_n2, J_add, J_mul, J_lt, J_le, J_eq, J_eN, N_eJ, J_eN2, J_nn, J_lN, N_lJ, J_leN, N_leJ, NN_l0, NN_eN, bJ_0, bJ_1, bJ_ite, zbz_b, zbz_0, zbz_1, zag_J, zas_J, ite_true, ite_false, if_true, if_false, ite_self, reduceIte, not_true_eq_false, not_false_eq_true, J_o, Nat.reduceEqDiff, Nat.reduceAdd, Nat.reduceMul, Nat.reduceSub, Nat.reduceLT, Nat.reduceLeDiff, Nat.one_ne_zero]
      simp
    · cases fstI _ _ <;> rfl
theorem R_isFirst {M : zMS} {v : zV} (h : isMV M v) (hV : VOK v) {w n : Nat} (hw : w < 8) (hc : chn v w w = some n) : gX12_isFirst M (J w) = some (bJ (lrg v w)) := by
  have h7 := seqw_lt hV hw
  obtain ⟨h1, h2, h3, h4⟩ := chn_le hc
  unfold gX12_isFirst lrg
  rw [hc]
  simp (disch := omega) only [wb1, wb2, wb3, wb4, wc1, wc2, zb1_ite, zb2_ite, zb3_ite, zb4_ite, zzc1_ite, zzc2_ite, J_lit, J_n1, J_n2, J_add, J_mul, J_lt, J_le, J_eq, J_eN, N_eJ, J_eN2, J_nn, J_lN, N_lJ, J_leN, N_leJ, NN_l0, NN_eN, bJ_0, bJ_1, bJ_ite, zbz_b, zbz_0, zbz_1, zag_J, zas_J, ite_true, ite_false, if_true, if_false, ite_self, reduceIte, not_true_eq_false, not_false_eq_true, J_o, Nat.reduceEqDiff, Nat.reduceAdd, Nat.reduceMul, Nat.reduceSub, Nat.reduceLT, Nat.reduceLeDiff, Nat.one_ne_zero, R_of h]
  rw [show (v (3 + w) : Nat) = seqw v w (0 + 1) from rfl]
  have stp : ∀ i, seqw v w (i + 1) ≠ w → ¬ seqw v w (i + 1) < w → ∀ F, gX12_isFirst_l8 (J w) M F (J (seqw v w (i + 1))) = F (J (seqw v w (i + 1 + 1))) := by
    intro i ha hb F
    have h5 := h7 (i + 1)
    simp (disch := omega) only [gX12_isFirst_l8, wb1, wb2, wb3, wb4, wc1, wc2, zb1_ite, zb2_ite, zb3_ite, zb4_ite, zzc1_ite, zzc2_ite, J_lit, J_n1, J_n2, J_add, J_mul, J_lt, J_le, J_eq, J_eN, N_eJ, J_eN2, J_nn, J_lN, N_lJ, J_leN, N_leJ, NN_l0, NN_eN, bJ_0, bJ_1, bJ_ite, zbz_b, zbz_0, zbz_1, zag_J, zas_J, ite_true, ite_false, if_true, if_false, ite_self, reduceIte, not_true_eq_false, not_false_eq_true, J_o, Nat.reduceEqDiff, Nat.reduceAdd, Nat.reduceMul, Nat.reduceSub, Nat.reduceLT, Nat.reduceLeDiff, Nat.one_ne_zero, R_of h, eq_false ha, seqw_s (i := i + 1)]
    rw [if_pos (by omega)]
  cases hf : fstI (fun k => decide (seqw v w (k + 1) < w)) n with
  | none =>
    have hn := fstI_n hf
    refine zf1_run (f := gX12_isFirst_l8 (J w) M) (n - 1) (fun i => J (seqw v w (i + 1))) (fun i hi F => stp i (h4 (i + 1) (by omega) (by omega)) (of_decide_eq_false (hn i (by omega))) F) (fun F => ?_) (zfu_lt (by omega))
    rw [show n - 1 + 1 = n by omega, h3]
    simp (disch := omega) only [gX12_isFirst_l8, wb1, wb2, wb3, wb4, wc1, wc2, zb1_ite, zb2_ite, zb3_ite, zb4_ite, zzc1_ite, zzc2_ite, J_lit, J_n1, J_n2, J_add, J_mul, J_lt, J_le, J_eq, J_eN, N_eJ, J_eN2, J_nn, J_lN, N_lJ, J_leN, N_leJ, NN_l0, NN_eN, bJ_0, bJ_1, bJ_ite, zbz_b, zbz_0, zbz_1, zag_J, zas_J, ite_true, ite_false, if_true, if_false, ite_self, reduceIte, not_true_eq_false, not_false_eq_true, J_o, Nat.reduceEqDiff, Nat.reduceAdd, Nat.reduceMul, Nat.reduceSub, Nat.reduceLT, Nat.reduceLeDiff, Nat.one_ne_zero]
    rfl
  | some k =>
    obtain ⟨h5, h6, h8⟩ := fstI_s hf
    refine zf1_run (f := gX12_isFirst_l8 (J w) M) k (fun i => J (seqw v w (i + 1))) (fun i hi F => stp i (h4 (i + 1) (by omega) (by omega)) (of_decide_eq_false (h8 i hi)) F) (fun F => ?_) (zfu_lt (by omega))
    have h9 := h7 (k + 1)
    have h6 := of_decide_eq_true h6
    simp (disch := omega) only [gX12_isFirst_l8, wb1, wb2, wb3, wb4, wc1, wc2, zb1_ite, zb2_ite, zb3_ite, zb4_ite, zzc1_ite, zzc2_ite, J_lit, J_n1, J_n2, J_add, J_mul, J_lt, J_le, J_eq, J_eN, N_eJ, J_eN2, J_nn, J_lN, N_lJ, J_leN, N_leJ, NN_l0, NN_eN, bJ_0, bJ_1, bJ_ite, zbz_b, zbz_0, zbz_1, zag_J, zas_J, ite_true, ite_false, if_true, if_false, ite_self, reduceIte, not_true_eq_false, not_false_eq_true, J_o, Nat.reduceEqDiff, Nat.reduceAdd, Nat.reduceMul, Nat.reduceSub, Nat.reduceLT, Nat.reduceLeDiff, Nat.one_ne_zero]
    rw [if_neg (by omega), if_neg (by omega)]
    rfl
theorem lrg_0 {v : zV} {w : Nat} (h : chn v w w = none) : lrg v w = false := by unfold lrg; rw [h]
def mxr (v : zV) : Nat → Nat := itr (fun w x => max x (rgn v w)) 0
theorem mxr_le {v : zV} (n : Nat) : mxr v n ≤ 8 := itr_i (P := fun _ x => x ≤ 8) (by omega) (fun i x hx => by have := @rgn_le v i; omega) n
def bts (p : Nat → Bool) : Nat → Nat := itr (fun w x => x ||| (if p w then 2 ^ w else 0)) 0
theorem bts_lt {p : Nat → Bool} : ∀ n, bts p n < 2 ^ n
  | 0 => Nat.one_pos
  | n + 1 => by
    show bts p n ||| _ < _
    refine Nat.or_lt_two_pow ?_ ?_
    · exact Nat.lt_of_lt_of_le (bts_lt n) (Nat.pow_le_pow_right (by decide) (by omega))
    · split
      · exact Nat.pow_lt_pow_right (by decide) (by omega)
      · exact Nat.two_pow_pos _
theorem J_shl : ∀ w, w < 31 → (J 1 <<< (J w &&& J 31)) = J (2 ^ w) := by decide +kernel
theorem J_or {a b : Nat} : (J a ||| J b) = J (a ||| b) := by
  unfold J
  exact Int32.toBitVec_inj.1 (by simp [Int32.toBitVec_or, Int32.toBitVec_ofNat', BitVec.ofNat_or])
theorem C_ringCount {U : zCS} {a : Nat} {v : zV} (h : isVal U a v) (hV : VOK v) : gX10_ringCount U a = some (J (cnt (lrg v) 8)) := by
  unfold gX10_ringCount
  have e := zf2_run (f := gX10_ringCount_l4 U a) (r := some (J (cnt (lrg v) 8))) 8 (fun i => J (cnt (lrg v) i)) J (by
    intro i hi F
    simp (disch := omega) only [gX10_ringCount_l4, wb1, wb2, wb3, wb4, wc1, wc2, zb1_ite, zb2_ite, zb3_ite, zb4_ite, zzc1_ite, zzc2_ite, J_lit, J_n1, J_n2, J_add, J_mul, J_lt, J_le, J_eq, J_eN, N_eJ, J_eN2, J_nn, J_lN, N_lJ, J_leN, N_leJ, NN_l0, NN_eN, bJ_0, bJ_1, bJ_ite, zbz_b, zbz_0, zbz_1, zag_J, zas_J, ite_true, ite_false, if_true, if_false, ite_self, reduceIte, not_true_eq_false, not_false_eq_true, J_o, Nat.reduceEqDiff, Nat.reduceAdd, Nat.reduceMul, Nat.reduceSub, Nat.reduceLT, Nat.reduceLeDiff, Nat.one_ne_zero, C_isLeastOfRing h hV, cnt_s]
    rw [if_neg (by omega)]
    cases lrg v i <;> simp) (by
    intro F
    simp (disch := omega) only [gX10_ringCount_l4, wb1, wb2, wb3, wb4, wc1, wc2, zb1_ite, zb2_ite, zb3_ite, zb4_ite, zzc1_ite, zzc2_ite, J_lit, J_n1, J_n2, J_add, J_mul, J_lt, J_le, J_eq, J_eN, N_eJ, J_eN2, J_nn, J_lN, N_lJ, J_leN, N_leJ, NN_l0, NN_eN, bJ_0, bJ_1, bJ_ite, zbz_b, zbz_0, zbz_1, zag_J, zas_J, ite_true, ite_false, if_true, if_false, ite_self, reduceIte, not_true_eq_false, not_false_eq_true, J_o, Nat.reduceEqDiff, Nat.reduceAdd, Nat.reduceMul, Nat.reduceSub, Nat.reduceLT, Nat.reduceLeDiff, Nat.one_ne_zero]) (zfu_lt (by omega))
  exact (congrArg (zb1 · fun x => some x) e)
theorem C_longestRing {U : zCS} {a : Nat} {v : zV} (h : isVal U a v) (hV : VOK v) : gX10_longestRing U a = some (J (mxr v 8)) := by
  unfold gX10_longestRing
  have e := zf2_run (f := gX10_longestRing_l4 U a) (r := some (J (mxr v 8))) 8 (fun i => J (mxr v i)) J (by
    intro i hi F
    have h1 := mxr_le (v := v) i
    simp (disch := omega) only [gX10_longestRing_l4, wb1, wb2, wb3, wb4, wc1, wc2, zb1_ite, zb2_ite, zb3_ite, zb4_ite, zzc1_ite, zzc2_ite, J_lit, J_n1, J_n2, J_add, J_mul, J_lt, J_le, J_eq, J_eN, N_eJ, J_eN2, J_nn, J_lN, N_lJ, J_leN, N_leJ, NN_l0, NN_eN, bJ_0, bJ_1, bJ_ite, zbz_b, zbz_0, zbz_1, zag_J, zas_J, ite_true, ite_false, if_true, if_false, ite_self, reduceIte, not_true_eq_false, not_false_eq_true, J_o, Nat.reduceEqDiff, Nat.reduceAdd, Nat.reduceMul, Nat.reduceSub, Nat.reduceLT, Nat.reduceLeDiff, Nat.one_ne_zero, C_sayingsUntil h hV]
    rw [if_neg (by omega)]
    rw [show mxr v (i + 1) = max (mxr v i) (rgn v i) from rfl]
    unfold rgn
    cases hc : chn v i i with
    | none => simp (disch := omega) only [wb1, wb2, wb3, wb4, wc1, wc2, zb1_ite, zb2_ite, zb3_ite, zb4_ite, zzc1_ite, zzc2_ite, J_lit, J_n1, J_n2, J_add, J_mul, J_lt, J_le, J_eq, J_eN, N_eJ, J_eN2, J_nn, J_lN, N_lJ, J_leN, N_leJ, NN_l0, NN_eN, bJ_0, bJ_1, bJ_ite, zbz_b, zbz_0, zbz_1, zag_J, zas_J, ite_true, ite_false, if_true, if_false, ite_self, reduceIte, not_true_eq_false, not_false_eq_true, J_o, Nat.reduceEqDiff, Nat.reduceAdd, Nat.reduceMul, Nat.reduceSub, Nat.reduceLT, Nat.reduceLeDiff, Nat.one_ne_zero, oJ_n]; simp
    | some n =>
      have := (chn_le hc).2.1
      simp (disch := omega) only [wb1, wb2, wb3, wb4, wc1, wc2, zb1_ite, zb2_ite, zb3_ite, zb4_ite, zzc1_ite, zzc2_ite, J_lit, J_n1, J_n2, J_add, J_mul, J_lt, J_le, J_eq, J_eN, N_eJ, J_eN2, J_nn, J_lN, N_lJ, J_leN, N_leJ, NN_l0, NN_eN, bJ_0, bJ_1, bJ_ite, zbz_b, zbz_0, zbz_1, zag_J, zas_J, ite_true, ite_false, if_true, if_false, ite_self, reduceIte, not_true_eq_false, not_false_eq_true, J_o, Nat.reduceEqDiff, Nat.reduceAdd, Nat.reduceMul, Nat.reduceSub, Nat.reduceLT, Nat.reduceLeDiff, Nat.one_ne_zero, oJ_s]
      by_cases hq : mxr v i < n
      · simp [hq, Nat.max_eq_right (Nat.le_of_lt hq)]
      · simp [hq, Nat.max_eq_left (Nat.not_lt.mp hq)]) (by
    intro F
    simp (disch := omega) only [gX10_longestRing_l4, wb1, wb2, wb3, wb4, wc1, wc2, zb1_ite, zb2_ite, zb3_ite, zb4_ite, zzc1_ite, zzc2_ite, J_lit, J_n1, J_n2, J_add, J_mul, J_lt, J_le, J_eq, J_eN, N_eJ, J_eN2, J_nn, J_lN, N_lJ, J_leN, N_leJ, NN_l0, NN_eN, bJ_0, bJ_1, bJ_ite, zbz_b, zbz_0, zbz_1, zag_J, zas_J, ite_true, ite_false, if_true, if_false, ite_self, reduceIte, not_true_eq_false, not_false_eq_true, J_o, Nat.reduceEqDiff, Nat.reduceAdd, Nat.reduceMul, Nat.reduceSub, Nat.reduceLT, Nat.reduceLeDiff, Nat.one_ne_zero]) (zfu_lt (by omega))
  exact (congrArg (zb1 · fun x => some x) e)
theorem C_wordsInRings {U : zCS} {a : Nat} {v : zV} (h : isVal U a v) (hV : VOK v) : gX10_wordsInRings U a = some (J (bts (fun w => (chn v w w).isSome) 8)) := by
  unfold gX10_wordsInRings
  have e := zf2_run (f := gX10_wordsInRings_l4 U a) (r := some (J (bts (fun w => (chn v w w).isSome) 8))) 8 (fun i => J (bts (fun w => (chn v w w).isSome) i)) J (by
    intro i hi F
    simp (disch := omega) only [gX10_wordsInRings_l4, wb1, wb2, wb3, wb4, wc1, wc2, zb1_ite, zb2_ite, zb3_ite, zb4_ite, zzc1_ite, zzc2_ite, J_lit, J_n1, J_n2, J_add, J_mul, J_lt, J_le, J_eq, J_eN, N_eJ, J_eN2, J_nn, J_lN, N_lJ, J_leN, N_leJ, NN_l0, NN_eN, bJ_0, bJ_1, bJ_ite, zbz_b, zbz_0, zbz_1, zag_J, zas_J, ite_true, ite_false, if_true, if_false, ite_self, reduceIte, not_true_eq_false, not_false_eq_true, J_o, Nat.reduceEqDiff, Nat.reduceAdd, Nat.reduceMul, Nat.reduceSub, Nat.reduceLT, Nat.reduceLeDiff, Nat.one_ne_zero, C_sayingsUntil h hV, J_shl]
    rw [if_neg (by omega)]
    rw [show bts (fun w => (chn v w w).isSome) (i + 1) = bts (fun w => (chn v w w).isSome) i ||| (if (chn v i i).isSome then 2 ^ i else 0) from rfl]
    cases hc : chn v i i with
    | none => simp (disch := omega) only [wb1, wb2, wb3, wb4, wc1, wc2, zb1_ite, zb2_ite, zb3_ite, zb4_ite, zzc1_ite, zzc2_ite, J_lit, J_n1, J_n2, J_add, J_mul, J_lt, J_le, J_eq, J_eN, N_eJ, J_eN2, J_nn, J_lN, N_lJ, J_leN, N_leJ, NN_l0, NN_eN, bJ_0, bJ_1, bJ_ite, zbz_b, zbz_0, zbz_1, zag_J, zas_J, ite_true, ite_false, if_true, if_false, ite_self, reduceIte, not_true_eq_false, not_false_eq_true, J_o, Nat.reduceEqDiff, Nat.reduceAdd, Nat.reduceMul, Nat.reduceSub, Nat.reduceLT, Nat.reduceLeDiff, Nat.one_ne_zero, oJ_n]; simp
    | some n =>
      have := (chn_le hc).2.1
      simp (disch := omega) only [wb1, wb2, wb3, wb4, wc1, wc2, zb1_ite, zb2_ite, zb3_ite, zb4_ite, zzc1_ite, zzc2_ite, J_lit, J_n1, J_n2, J_add, J_mul, J_lt, J_le, J_eq, J_eN, N_eJ, J_eN2, J_nn, J_lN, N_lJ, J_leN, N_leJ, NN_l0, NN_eN, bJ_0, bJ_1, bJ_ite, zbz_b, zbz_0, zbz_1, zag_J, zas_J, ite_true, ite_false, if_true, if_false, ite_self, reduceIte, not_true_eq_false, not_false_eq_true, J_o, Nat.reduceEqDiff, Nat.reduceAdd, Nat.reduceMul, Nat.reduceSub, Nat.reduceLT, Nat.reduceLeDiff, Nat.one_ne_zero, oJ_s, J_or]
      simp) (by
    intro F
    simp (disch := omega) only [gX10_wordsInRings_l4, wb1, wb2, wb3, wb4, wc1, wc2, zb1_ite, zb2_ite, zb3_ite, zb4_ite, zzc1_ite, zzc2_ite, J_lit, J_n1, J_n2, J_add, J_mul, J_lt, J_le, J_eq, J_eN, N_eJ, J_eN2, J_nn, J_lN, N_lJ, J_leN, N_leJ, NN_l0, NN_eN, bJ_0, bJ_1, bJ_ite, zbz_b, zbz_0, zbz_1, zag_J, zas_J, ite_true, ite_false, if_true, if_false, ite_self, reduceIte, not_true_eq_false, not_false_eq_true, J_o, Nat.reduceEqDiff, Nat.reduceAdd, Nat.reduceMul, Nat.reduceSub, Nat.reduceLT, Nat.reduceLeDiff, Nat.one_ne_zero]) (zfu_lt (by omega))
  exact (congrArg (zb1 · fun x => some x) e)
theorem R_rings_l {M : zMS} {v : zV} (h : isMV M v) (hV : VOK v) : zf4 (gX12_rings_l35 M) zfu (J 0) (J 0) (J 0) (J 0) = some (J (cnt (lrg v) 8), J (mxr v 8), J (bts (fun w => (chn v w w).isSome) 8)) := by
  exact zf4_run (f := gX12_rings_l35 M) 8 (fun i => J (cnt (lrg v) i)) (fun i => J (mxr v i)) (fun i => J (bts (fun w => (chn v w w).isSome) i)) J (by
    intro i hi F
    have h1 := mxr_le (v := v) i
    have h2 := @rgn_le v i
    simp (disch := omega) only [gX12_rings_l35, gX12_rings_b69, wb1, wb2, wb3, wb4, wc1, wc2, zb1_ite, zb2_ite, zb3_ite, zb4_ite, zzc1_ite, zzc2_ite, J_lit, J_n1, J_n2, J_add, J_mul, J_lt, J_le, J_eq, J_eN, N_eJ, J_eN2, J_nn, J_lN, N_lJ, J_leN, N_leJ, NN_l0, NN_eN, bJ_0, bJ_1, bJ_ite, zbz_b, zbz_0, zbz_1, zag_J, zas_J, ite_true, ite_false, if_true, if_false, ite_self, reduceIte, not_true_eq_false, not_false_eq_true, J_o, Nat.reduceEqDiff, Nat.reduceAdd, Nat.reduceMul, Nat.reduceSub, Nat.reduceLT, Nat.reduceLeDiff, Nat.one_ne_zero, R_ringOf h hV, R_greater, J_shl, cnt_s]
    rw [if_neg (by omega)]
    rw [show bts (fun w => (chn v w w).isSome) (i + 1) = bts (fun w => (chn v w w).isSome) i ||| (if (chn v i i).isSome then 2 ^ i else 0) from rfl, show mxr v (i + 1) = max (mxr v i) (rgn v i) from rfl]
    cases hc : chn v i i with
    | none =>
      have h3 : rgn v i = 0 := by unfold rgn; rw [hc]
      simp (disch := omega) only [h3, lrg_0 hc, wb1, wb2, wb3, wb4, wc1, wc2, zb1_ite, zb2_ite, zb3_ite, zb4_ite, zzc1_ite, zzc2_ite, J_lit, J_n1, J_n2, J_add, J_mul, J_lt, J_le, J_eq, J_eN, N_eJ, J_eN2, J_nn, J_lN, N_lJ, J_leN, N_leJ, NN_l0, NN_eN, bJ_0, bJ_1, bJ_ite, zbz_b, zbz_0, zbz_1, zag_J, zas_J, ite_true, ite_false, if_true, if_false, ite_self, reduceIte, not_true_eq_false, not_false_eq_true, J_o, Nat.reduceEqDiff, Nat.reduceAdd, Nat.reduceMul, Nat.reduceSub, Nat.reduceLT, Nat.reduceLeDiff, Nat.one_ne_zero, J_or]
      simp
    | some n =>
      have h3 : rgn v i = n := by unfold rgn; rw [hc]
      have h4 := chn_le hc
      rw [R_isFirst h hV hi hc]
      simp (disch := omega) only [h3, wb1, wb2, wb3, wb4, wc1, wc2, zb1_ite, zb2_ite, zb3_ite, zb4_ite, zzc1_ite, zzc2_ite, J_lit, J_n1, J_n2, J_add, J_mul, J_lt, J_le, J_eq, J_eN, N_eJ, J_eN2, J_nn, J_lN, N_lJ, J_leN, N_leJ, NN_l0, NN_eN, bJ_0, bJ_1, bJ_ite, zbz_b, zbz_0, zbz_1, zag_J, zas_J, ite_true, ite_false, if_true, if_false, ite_self, reduceIte, not_true_eq_false, not_false_eq_true, J_o, Nat.reduceEqDiff, Nat.reduceAdd, Nat.reduceMul, Nat.reduceSub, Nat.reduceLT, Nat.reduceLeDiff, Nat.one_ne_zero, J_or]
      rw [if_neg (by omega)]
      cases lrg v i <;> simp [show ¬ n = 0 by omega]) (by
    intro F
    simp (disch := omega) only [gX12_rings_l35, wb1, wb2, wb3, wb4, wc1, wc2, zb1_ite, zb2_ite, zb3_ite, zb4_ite, zzc1_ite, zzc2_ite, J_lit, J_n1, J_n2, J_add, J_mul, J_lt, J_le, J_eq, J_eN, N_eJ, J_eN2, J_nn, J_lN, N_lJ, J_leN, N_leJ, NN_l0, NN_eN, bJ_0, bJ_1, bJ_ite, zbz_b, zbz_0, zbz_1, zag_J, zas_J, ite_true, ite_false, if_true, if_false, ite_self, reduceIte, not_true_eq_false, not_false_eq_true, J_o, Nat.reduceEqDiff, Nat.reduceAdd, Nat.reduceMul, Nat.reduceSub, Nat.reduceLT, Nat.reduceLeDiff, Nat.one_ne_zero]) (zfu_lt (by omega))
