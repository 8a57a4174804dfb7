/-! days -/
def sec (d : zV) (k : Nat) : Int32 := if (d (1 + 3 * k) : Nat) = 4 then NN else J (d (3 + 3 * k))
def DOK (d : zV) : Prop := (d 0 : Nat) ≤ 40 ∧ ∀ k, k < (d 0 : Nat) → (d (1 + 3 * k) : Nat) ≤ 4 ∧ ((d (1 + 3 * k) : Nat) < 3 → (d (3 + 3 * k) : Nat) < 8)
def isDay (U : zCS) (a : Nat) (d : zV) : Prop := U.1 a 0 = J (d 0) ∧ ∀ k, k < (d 0 : Nat) → U.2.1 (a + 1) k = J (d (1 + 3 * k)) ∧ U.2.1 (a + 2) k = J (d (2 + 3 * k)) ∧ U.2.1 (a + 3) k = sec d k
def isMDs (M : zMS) (s : Nat) (d : zV) : Prop := M.2.2 7 (121 * s) = J (d 0) ∧ ∀ k, k < (d 0 : Nat) → M.2.2 7 (121 * s + 1 + 3 * k) = J (d (1 + 3 * k)) ∧ M.2.2 7 (121 * s + 1 + 3 * k + 1) = J (d (2 + 3 * k)) ∧ M.2.2 7 (121 * s + 1 + 3 * k + 2) = sec d k
def isMD (M : zMS) (d : zV) : Prop := ∃ s, s < 2 ∧ M.1 26 = J s ∧ isMDs M s d
theorem isDay_F {U U' : zCS} {a : Nat} {d : zV} {A : Nat → Prop} (hu : Ufr U U' A) (hA : ∀ j, j ≤ 3 → ¬ A (a + j)) (h : isDay U a d) : isDay U' a d := by
  have h3 := fun j (hj : j ≤ 3) => (hu.1 (a + j) (hA j hj)).2
  have h4 := (hu.1 a (by have := hA 0 (by omega); rwa [Nat.add_zero] at this)).1
  unfold isDay at *
  rw [h4, h3 1 (by omega), h3 2 (by omega), h3 3 (by omega)]
  exact h
theorem isMD_S {M M' : zMS} {d : zV} (h : isMD M d) (hs : Msame M M') (h26 : M'.1 26 = M.1 26) : isMD M' d := by
  obtain ⟨s, h1, h2, h3⟩ := h
  have := hs 7 (by omega)
  exact ⟨s, h1, h26.trans h2, by unfold isMDs; rw [this]; exact h3⟩
theorem R_deeds {M : zMS} {d : zV} (h : isMD M d) : gX12_deeds M = some (J (d 0)) := by
  obtain ⟨s, hs, h1, h2, h3⟩ := h
  unfold gX12_deeds
  rw [h1]
  simp (disch := omega) only [wb1, wb2, wb3, wb4, wc1, wc2, zb1_ite, zb2_ite, zb3_ite, zb4_ite, zzc1_ite, zzc2_ite, J_lit, J_n1, J_n2, J_add, J_mul, J_lt, J_le, J_eq, J_eN, N_eJ, J_eN2, J_nn, J_lN, N_lJ, J_leN, N_leJ, NN_l0, NN_eN, bJ_0, bJ_1, bJ_ite, zbz_b, zbz_0, zbz_1, zag_J, zas_J, ite_true, ite_false, if_true, if_false, ite_self, reduceIte, not_true_eq_false, not_false_eq_true, J_o, Nat.reduceEqDiff, Nat.reduceAdd, Nat.reduceMul, Nat.reduceSub, Nat.reduceLT, Nat.reduceLeDiff, Nat.one_ne_zero, h2]
theorem R_deed0 {M : zMS} {d : zV} (h : isMD M d) (hD : DOK d) {k : Nat} (hk : k < (d 0 : Nat)) : gX12_deedOf M (J k) (J 0) = some (J (d (1 + 3 * k))) := by
  obtain ⟨s, hs, h1, h2, h3⟩ := h
  have := hD.1
  unfold gX12_deedOf
  rw [h1]
  simp (disch := omega) only [wb1, wb2, wb3, wb4, wc1, wc2, zb1_ite, zb2_ite, zb3_ite, zb4_ite, zzc1_ite, zzc2_ite, J_lit, J_n1, J_n2, J_add, J_mul, J_lt, J_le, J_eq, J_eN, N_eJ, J_eN2, J_nn, J_lN, N_lJ, J_leN, N_leJ, NN_l0, NN_eN, bJ_0, bJ_1, bJ_ite, zbz_b, zbz_0, zbz_1, zag_J, zas_J, ite_true, ite_false, if_true, if_false, ite_self, reduceIte, not_true_eq_false, not_false_eq_true, J_o, Nat.reduceEqDiff, Nat.reduceAdd, Nat.reduceMul, Nat.reduceSub, Nat.reduceLT, Nat.reduceLeDiff, Nat.one_ne_zero, (h3 k hk).1]
  rw [Nat.add_zero, (h3 k hk).1]
theorem R_deed1 {M : zMS} {d : zV} (h : isMD M d) (hD : DOK d) {k : Nat} (hk : k < (d 0 : Nat)) : gX12_deedOf M (J k) (J 1) = some (J (d (2 + 3 * k))) := by
  obtain ⟨s, hs, h1, h2, h3⟩ := h
  have := hD.1
  unfold gX12_deedOf
  rw [h1]
  simp (disch := omega) only [wb1, wb2, wb3, wb4, wc1, wc2, zb1_ite, zb2_ite, zb3_ite, zb4_ite, zzc1_ite, zzc2_ite, J_lit, J_n1, J_n2, J_add, J_mul, J_lt, J_le, J_eq, J_eN, N_eJ, J_eN2, J_nn, J_lN, N_lJ, J_leN, N_leJ, NN_l0, NN_eN, bJ_0, bJ_1, bJ_ite, zbz_b, zbz_0, zbz_1, zag_J, zas_J, ite_true, ite_false, if_true, if_false, ite_self, reduceIte, not_true_eq_false, not_false_eq_true, J_o, Nat.reduceEqDiff, Nat.reduceAdd, Nat.reduceMul, Nat.reduceSub, Nat.reduceLT, Nat.reduceLeDiff, Nat.one_ne_zero, (h3 k hk).2.1]
theorem R_deed2 {M : zMS} {d : zV} (h : isMD M d) (hD : DOK d) {k : Nat} (hk : k < (d 0 : Nat)) : gX12_deedOf M (J k) (J 2) = some (sec d k) := by
  obtain ⟨s, hs, h1, h2, h3⟩ := h
  have := hD.1
  unfold gX12_deedOf
  rw [h1]
  simp (disch := omega) only [wb1, wb2, wb3, wb4, wc1, wc2, zb1_ite, zb2_ite, zb3_ite, zb4_ite, zzc1_ite, zzc2_ite, J_lit, J_n1, J_n2, J_add, J_mul, J_lt, J_le, J_eq, J_eN, N_eJ, J_eN2, J_nn, J_lN, N_lJ, J_leN, N_leJ, NN_l0, NN_eN, bJ_0, bJ_1, bJ_ite, zbz_b, zbz_0, zbz_1, zag_J, zas_J, ite_true, ite_false, if_true, if_false, ite_self, reduceIte, not_true_eq_false, not_false_eq_true, J_o, Nat.reduceEqDiff, Nat.reduceAdd, Nat.reduceMul, Nat.reduceSub, Nat.reduceLT, Nat.reduceLeDiff, Nat.one_ne_zero, (h3 k hk).2.2]
theorem J_do {U0 U : zCS} {a c : Nat} {v d : zV} {M0 M : zMS} (hV : VOK v) (hD : DOK d) (h : isVal U0 a v) (hac : ∀ j, j ≤ 10 → ¬ (c ≤ a + j ∧ a + j ≤ c + 3)) (hM : isMD M d) {n now k : Nat} {ev pl : zEv} (hJ : JR v U0 U c M0 M n now ev pl) (hk : k < (d 0 : Nat)) (hn : n ≤ k) : ∃ r U' M' n' now' ev' pl', gX1_perform U c a (J (d (1 + 3 * k))) (J (d (2 + 3 * k))) (sec d k) = some (bJ r, U') ∧ gX12_does M (J k) = some (bJ r, M') ∧ JR v U0 U' c M0 M' n' now' ev' pl' ∧ n' ≤ k + 1 ∧ M'.1 26 = M.1 26 := by
  have hd40 := hD.1
  obtain ⟨hd4, hd8⟩ := hD.2 k hk
  have hv := isVal_F hJ.1 hac h
  have hw := hV.2.2.1
  unfold gX1_perform gX12_does
  simp (disch := omega) only [wb1, wb2, wb3, wb4, wc1, wc2, zb1_ite, zb2_ite, zb3_ite, zb4_ite, zzc1_ite, zzc2_ite, J_lit, J_n1, J_n2, J_add, J_mul, J_lt, J_le, J_eq, J_eN, N_eJ, J_eN2, J_nn, J_lN, N_lJ, J_leN, N_leJ, NN_l0, NN_eN, bJ_0, bJ_1, bJ_ite, zbz_b, zbz_0, zbz_1, zag_J, zas_J, ite_true, ite_false, if_true, if_false, ite_self, reduceIte, not_true_eq_false, not_false_eq_true, J_o, Nat.reduceEqDiff, Nat.reduceAdd, Nat.reduceMul, Nat.reduceSub, Nat.reduceLT, Nat.reduceLeDiff, Nat.one_ne_zero, R_deed0 hM hD, R_deed1 hM hD, R_deed2 hM hD, C_hasPerson hv, R_isPerson hJ.2.2.2.1.1 hV]
  unfold sec
  by_cases ha4 : (d (1 + 3 * k) : Nat) = 4
  · obtain ⟨r, U', M', now', pl', e1, e2, r1, r2, r3⟩ := J_wait (a := a) hV hJ (d := d (2 + 3 * k)) (by omega)
    rw [if_pos ha4, if_pos ha4, e1, e2]
    exact ⟨r, U', M', _, _, _, _, by simp (disch := omega) only [wb1, wb2, wb3, wb4, wc1, wc2, zb1_ite, zb2_ite, zb3_ite, zb4_ite, zzc1_ite, zzc2_ite, J_lit, J_n1, J_n2, J_add, J_mul, J_lt, J_le, J_eq, J_eN, N_eJ, J_eN2, J_nn, J_lN, N_lJ, J_leN, N_leJ, NN_l0, NN_eN, bJ_0, bJ_1, bJ_ite, zbz_b, zbz_0, zbz_1, zag_J, zas_J, ite_true, ite_false, if_true, if_false, ite_self, reduceIte, not_true_eq_false, not_false_eq_true, J_o, Nat.reduceEqDiff, Nat.reduceAdd, Nat.reduceMul, Nat.reduceSub, Nat.reduceLT, Nat.reduceLeDiff, Nat.one_ne_zero], by simp (disch := omega) only [wb1, wb2, wb3, wb4, wc1, wc2, zb1_ite, zb2_ite, zb3_ite, zb4_ite, zzc1_ite, zzc2_ite, J_lit, J_n1, J_n2, J_add, J_mul, J_lt, J_le, J_eq, J_eN, N_eJ, J_eN2, J_nn, J_lN, N_lJ, J_leN, N_leJ, NN_l0, NN_eN, bJ_0, bJ_1, bJ_ite, zbz_b, zbz_0, zbz_1, zag_J, zas_J, ite_true, ite_false, if_true, if_false, ite_self, reduceIte, not_true_eq_false, not_false_eq_true, J_o, Nat.reduceEqDiff, Nat.reduceAdd, Nat.reduceMul, Nat.reduceSub, Nat.reduceLT, Nat.reduceLeDiff, Nat.one_ne_zero], r1, by omega, r2.1⟩
  · rw [if_neg ha4, if_neg ha4]
    by_cases hp : (d (2 + 3 * k) : Nat) < (v 1 : Nat)
    · rw [decide_eq_true hp]
      simp only [Bool.true_eq_false, if_false]
      by_cases ha3 : (d (1 + 3 * k) : Nat) = 3
      · obtain ⟨r, U', M', now', pl', e1, e2, r1, r2, r3⟩ := J_walk hV h hac hJ hp (b := d (3 + 3 * k)) (by omega)
        rw [if_pos ha3, if_pos ha3, if_neg ha4, e1, e2]
        exact ⟨r, U', M', _, _, _, _, by simp (disch := omega) only [wb1, wb2, wb3, wb4, wc1, wc2, zb1_ite, zb2_ite, zb3_ite, zb4_ite, zzc1_ite, zzc2_ite, J_lit, J_n1, J_n2, J_add, J_mul, J_lt, J_le, J_eq, J_eN, N_eJ, J_eN2, J_nn, J_lN, N_lJ, J_leN, N_leJ, NN_l0, NN_eN, bJ_0, bJ_1, bJ_ite, zbz_b, zbz_0, zbz_1, zag_J, zas_J, ite_true, ite_false, if_true, if_false, ite_self, reduceIte, not_true_eq_false, not_false_eq_true, J_o, Nat.reduceEqDiff, Nat.reduceAdd, Nat.reduceMul, Nat.reduceSub, Nat.reduceLT, Nat.reduceLeDiff, Nat.one_ne_zero], by simp (disch := omega) only [wb1, wb2, wb3, wb4, wc1, wc2, zb1_ite, zb2_ite, zb3_ite, zb4_ite, zzc1_ite, zzc2_ite, J_lit, J_n1, J_n2, J_add, J_mul, J_lt, J_le, J_eq, J_eN, N_eJ, J_eN2, J_nn, J_lN, N_lJ, J_leN, N_leJ, NN_l0, NN_eN, bJ_0, bJ_1, bJ_ite, zbz_b, zbz_0, zbz_1, zag_J, zas_J, ite_true, ite_false, if_true, if_false, ite_self, reduceIte, not_true_eq_false, not_false_eq_true, J_o, Nat.reduceEqDiff, Nat.reduceAdd, Nat.reduceMul, Nat.reduceSub, Nat.reduceLT, Nat.reduceLeDiff, Nat.one_ne_zero], r1, by omega, r2.1⟩
      · obtain ⟨U', M', ev', e1, e2, r1, r2, r3⟩ := J_say hV h hac hJ hp (w := d (3 + 3 * k)) (l := d (1 + 3 * k)) (hd8 (by omega)) (by omega) (by omega)
        rw [if_neg ha3, if_neg ha3, if_neg ha4, e1, e2]
        exact ⟨true, U', M', _, _, _, _, by simp (disch := omega) only [wb1, wb2, wb3, wb4, wc1, wc2, zb1_ite, zb2_ite, zb3_ite, zb4_ite, zzc1_ite, zzc2_ite, J_lit, J_n1, J_n2, J_add, J_mul, J_lt, J_le, J_eq, J_eN, N_eJ, J_eN2, J_nn, J_lN, N_lJ, J_leN, N_leJ, NN_l0, NN_eN, bJ_0, bJ_1, bJ_ite, zbz_b, zbz_0, zbz_1, zag_J, zas_J, ite_true, ite_false, if_true, if_false, ite_self, reduceIte, not_true_eq_false, not_false_eq_true, J_o, Nat.reduceEqDiff, Nat.reduceAdd, Nat.reduceMul, Nat.reduceSub, Nat.reduceLT, Nat.reduceLeDiff, Nat.one_ne_zero]; rfl, by simp (disch := omega) only [wb1, wb2, wb3, wb4, wc1, wc2, zb1_ite, zb2_ite, zb3_ite, zb4_ite, zzc1_ite, zzc2_ite, J_lit, J_n1, J_n2, J_add, J_mul, J_lt, J_le, J_eq, J_eN, N_eJ, J_eN2, J_nn, J_lN, N_lJ, J_leN, N_leJ, NN_l0, NN_eN, bJ_0, bJ_1, bJ_ite, zbz_b, zbz_0, zbz_1, zag_J, zas_J, ite_true, ite_false, if_true, if_false, ite_self, reduceIte, not_true_eq_false, not_false_eq_true, J_o, Nat.reduceEqDiff, Nat.reduceAdd, Nat.reduceMul, Nat.reduceSub, Nat.reduceLT, Nat.reduceLeDiff, Nat.one_ne_zero]; rfl, r1, by omega, r2.1⟩
    · rw [decide_eq_false hp]
      exact ⟨false, U, M, n, now, ev, pl, by simp only [if_true]; rfl, by simp only [if_true, eq_false ha4, if_false]; rfl, hJ, by omega, rfl⟩
theorem J_loop {U0 : zCS} {a c dd : Nat} {v d : zV} {M0 : zMS} (hV : VOK v) (hD : DOK d) (h : isVal U0 a v) (hac : ∀ j, j ≤ 10 → ¬ (c ≤ a + j ∧ a + j ≤ c + 3)) (hd : isDay U0 dd d) (hdc : ∀ j, j ≤ 3 → ¬ (c ≤ dd + j ∧ dd + j ≤ c + 3)) {x3 : Int32} {N : Nat} (hN : N ≤ (d 0 : Nat)) (h3 : ∀ i, i < N → ¬ x3 ≤ J i) (h4 : x3 ≤ J N ∨ N = (d 0 : Nat)) : ∀ (rem i : Nat) (U : zCS) (M : zMS) (n now : Nat) (ev pl : zEv) (F1 F2 : Nat), i + rem = N → JR v U0 U c M0 M n now ev pl → isMD M d → n ≤ i → rem < F1 → rem < F2 → ∃ r U' M' n' now' ev' pl', r ≤ N ∧ zf2 (gX1_follow_l8 x3 dd c a) F1 (J i) U = some (J r, U') ∧ zf2 (gX12_play_l6 (J N)) F2 (J i) M = some (J r, M') ∧ JR v U0 U' c M0 M' n' now' ev' pl' ∧ n' ≤ N ∧ M'.1 26 = M.1 26 := by
  have hd40 := hD.1
  intro rem
  induction rem with
  | zero =>
    intro i U M n now ev pl F1 F2 hi hJ hM hn hF1 hF2
    obtain ⟨G1, rfl⟩ : ∃ G, F1 = G + 1 := ⟨F1 - 1, by omega⟩
    obtain ⟨G2, rfl⟩ : ∃ G, F2 = G + 1 := ⟨F2 - 1, by omega⟩
    have hdu := isDay_F hJ.1 hdc hd
    refine ⟨i, U, M, n, now, ev, pl, by omega, ?_, ?_, hJ, by omega, rfl⟩
    · show gX1_follow_l8 x3 dd c a _ (J i) U = _
      unfold gX1_follow_l8
      rw [show i = N by omega]
      rcases h4 with h4 | h4
      · rw [if_pos h4]
      · rw [hdu.1, if_pos (show J (d 0) ≤ J N by rw [J_le (by omega) (by omega)]; omega)]
        exact ite_self _
    · show gX12_play_l6 (J N) _ (J i) M = _
      unfold gX12_play_l6
      rw [show i = N by omega, if_pos (show J N ≤ J N by rw [J_le (by omega) (by omega)]; omega)]
  | succ rem ih =>
    intro i U M n now ev pl F1 F2 hi hJ hM hn hF1 hF2
    obtain ⟨G1, rfl⟩ : ∃ G, F1 = G + 1 := ⟨F1 - 1, by omega⟩
    obtain ⟨G2, rfl⟩ : ∃ G, F2 = G + 1 := ⟨F2 - 1, by omega⟩
    have hdu := isDay_F hJ.1 hdc hd
    have hik : i < (d 0 : Nat) := by omega
    obtain ⟨r, U', M', n', now', ev', pl', e1, e2, r1, r2, r3⟩ := J_do hV hD h hac hM hJ hik hn
    have hM' : isMD M' d := by
      obtain ⟨s, s1, s2, s3⟩ := hM
      have q1 := hJ.2.1 7 (by omega)
      have q2 := r1.2.1 7 (by omega)
      exact ⟨s, s1, r3.trans s2, by unfold isMDs at *; rw [q2, ← q1]; exact s3⟩
    have ec : gX1_follow_l8 x3 dd c a (zf2 (gX1_follow_l8 x3 dd c a) G1) (J i) U = if bJ r = J 0 then some (J i, U') else zf2 (gX1_follow_l8 x3 dd c a) G1 (J (i + 1)) U' := by
      unfold gX1_follow_l8
      rw [if_neg (h3 i (by omega)), hdu.1, if_neg (show ¬ J (d 0) ≤ J i by rw [J_le (by omega) (by omega)]; omega)]
      simp (disch := omega) only [wb1, zag_J, (hdu.2 i hik).1, (hdu.2 i hik).2.1, (hdu.2 i hik).2.2, e1, wb2, J_lit, J_add]
    have er : gX12_play_l6 (J N) (zf2 (gX12_play_l6 (J N)) G2) (J i) M = if bJ r = J 0 then some (J i, M') else zf2 (gX12_play_l6 (J N)) G2 (J (i + 1)) M' := by
      unfold gX12_play_l6
      rw [if_neg (show ¬ J N ≤ J i by rw [J_le (by omega) (by omega)]; omega), e2]
      simp (disch := omega) only [wb2, J_lit, J_add]
    cases r with
    | false =>
      refine ⟨i, U', M', n', now', ev', pl', by omega, ?_, ?_, r1, by omega, r3⟩
      · show gX1_follow_l8 x3 dd c a _ (J i) U = _
        rw [ec]; rfl
      · show gX12_play_l6 (J N) _ (J i) M = _
        rw [er]; rfl
    | true =>
      obtain ⟨r', U2, M2, n2, now2, ev2, pl2, k0, k1, k2, k3, k4, k5⟩ := ih (i + 1) U' M' n' now' ev' pl' G1 G2 (by omega) r1 hM' r2 (by omega) (by omega)
      refine ⟨r', U2, M2, n2, now2, ev2, pl2, k0, ?_, ?_, k3, k4, k5.trans r3⟩
      · show gX1_follow_l8 x3 dd c a _ (J i) U = _
        rw [ec]; exact k1
      · show gX12_play_l6 (J N) _ (J i) M = _
        rw [er]; exact k2
theorem J_follow {U : zCS} {a c dd : Nat} {v d : zV} {M : zMS} (hV : VOK v) (hD : DOK d) (h : isVal U a v) (hac : ∀ j, j ≤ 10 → ¬ (c ≤ a + j ∧ a + j ≤ c + 3)) (hd : isDay U dd d) (hdc : ∀ j, j ≤ 3 → ¬ (c ≤ dd + j ∧ dd + j ≤ c + 3)) (hm : isMV M v) (hM : isMD M d) {x3 : Int32} {N : Nat} (hN : N ≤ (d 0 : Nat)) (h3 : ∀ i, i < N → ¬ x3 ≤ J i) (h4 : x3 ≤ J N ∨ N = (d 0 : Nat)) : ∃ r U' M' n' now' ev' pl', r ≤ N ∧ gX1_follow U c a dd x3 = some (J r, U') ∧ gX12_play M (J N) = some (J r, M') ∧ JR v U U' c M M' n' now' ev' pl' ∧ n' ≤ 60 := by
  have hd40 := hD.1
  obtain ⟨U1, e1, u1, c1, -⟩ := C_begin hV h hac
  obtain ⟨M1, e2, m1, m2, m3⟩ := R_begin hV hm
  have hP : PI v 0 0 (fun _ _ => 0) (fun o _ => (v (33 + o) : Nat)) := ⟨by omega, fun k hk => by omega, fun o ho t ht => (hV.2.2.2.2.2.2 o ho).2⟩
  obtain ⟨r, U', M', n', now', ev', pl', k0, k1, k2, k3, k4, -⟩ := J_loop hV hD h hac hd hdc hN h3 h4 N 0 U1 M1 0 0 _ _ zfu zfu (by omega) ⟨u1, m1, c1, m3, hP⟩ (isMD_S hM m1 m2.1) (Nat.le_refl _) (zfu_lt (by omega)) (zfu_lt (by omega))
  refine ⟨r, U', M', n', now', ev', pl', k0, ?_, ?_, k3, by omega⟩
  · unfold gX1_follow
    rw [e1]
    show zb2 (zf2 (gX1_follow_l8 x3 dd c a) zfu (J 0) U1) _ = _
    rw [k1]
    rfl
  · unfold gX12_play
    rw [e2]
    show zb2 (zf2 (gX12_play_l6 (J N)) zfu (J 0) M1) _ = _
    rw [k2]
    rfl
/-! days by a seed -/
theorem ushr16 (z : Int32) : ∃ y, y < 65536 ∧ (z.toUInt32 >>> ((16 : Int32).toUInt32 &&& Int32.toUInt32 31)).toInt32 = J y := by
  rw [show ((16 : Int32).toUInt32 &&& Int32.toUInt32 31) = (16 : UInt32) from by decide]
  refine ⟨(z.toUInt32 >>> 16).toNat, ?_, ?_⟩
  · rw [UInt32.toNat_shiftRight, show (16 : UInt32).toNat % 32 = 16 from rfl, Nat.shiftRight_eq_div_pow]
    have := z.toUInt32.toNat_lt
    omega
  · generalize z.toUInt32 >>> 16 = u
    have h1 : (UInt32.ofNat u.toNat).toInt32 = Int32.ofNat u.toNat := UInt32.toInt32_ofNat'
    rw [UInt32.ofNat_toNat] at h1
    exact h1
theorem J_draws {U : zCS} {M : zMS} {c : Nat} (h : U.1 c 2 = M.1 49) {k : Nat} (hk : 0 < k) (hk2 : k < 1000) : ∃ y z, y < k ∧ gX1_below U c (J k) = some (J y, csI U c 2 z) ∧ gX12_draw M (J k) = some (J y, zsI M 49 z) := by
  obtain ⟨y, hy, e⟩ := ushr16 (M.1 49 * 1103515245 + 12345)
  refine ⟨y % k, M.1 49 * 1103515245 + 12345, Nat.mod_lt _ hk, ?_, ?_⟩
  · unfold gX1_below
    rw [h]
    simp only [wb1, csI_1, e]
    have h1 : ¬ J k ≤ 0 := by rw [show (0 : Int32) = J 0 from rfl, J_le (by omega) (by omega)]; omega
    have h2 : ¬ J k = 0 := by rw [show (0 : Int32) = J 0 from rfl, J_eq (by omega) (by omega)]; omega
    rw [if_neg h1]
    unfold zni
    rw [if_neg h2, wb1, J_mod (by omega) (by omega)]
  · unfold gX12_draw
    simp only [wb1, zsI_1, e]
    have h2 : ¬ J k = 0 := by rw [show (0 : Int32) = J 0 from rfl, J_eq (by omega) (by omega)]; omega
    unfold zni
    rw [if_neg h2, J_mod (by omega) (by omega)]
theorem JR_I {v : zV} {U0 U : zCS} {c : Nat} {M0 M : zMS} {n now : Nat} {ev pl : zEv} (h : JR v U0 U c M0 M n now ev pl) {z : Int32} : JR v U0 (csI U c 2 z) c M0 (zsI M 49 z) n now ev pl := by
  obtain ⟨hu, hs, ⟨c0, c1, c2, c3⟩, ⟨r0, r1, r2, r3, r4⟩, hP⟩ := h
  exact ⟨Ufr_t hu (Ufr_I (by omega)), Msame_t hs Msame_I, ⟨by rw [csI_o2 (.inr (by omega))]; exact c0, by rw [csI_o2 (.inr (by omega))]; exact c1, c2, c3⟩, ⟨isMV_I (by omega) r0, by rw [zsI_o (by omega)]; exact r1, by rw [zsI_o (by omega)]; exact r2, r3, r4⟩, hP⟩
theorem C_act : ∀ y, y < 6 → zag 6 (fun j => (zrow 1).getD j 0) (J y) = some (J (if y < 3 then y else if y < 5 then 3 else 4)) := by
  intro y hy
  rw [zag_J hy (by omega)]
  have : y = 0 ∨ y = 1 ∨ y = 2 ∨ y = 3 ∨ y = 4 ∨ y = 5 := by omega
  rcases this with rfl | rfl | rfl | rfl | rfl | rfl <;> rfl
theorem J_drawn {U : zCS} {a c : Nat} {v : zV} {M : zMS} (hV : VOK v) (h : isVal U a v) (hac : ∀ j, j ≤ 10 → ¬ (c ≤ a + j ∧ a + j ≤ c + 3)) (hm : isMV M v) (hp0 : 0 < (v 1 : Nat)) {seed : Int32} {N : Nat} (hN : N ≤ 60) : ∃ U' M1 M' n' now' ev' pl', gX1_draw U c a seed (J N) = some U' ∧ gX12_begin (zsI M 49 seed) = some M1 ∧ zf2 (gX12_drawn_l45 (J N)) zfu (J 0) M1 = some M' ∧ JR v U U' c M M' n' now' ev' pl' ∧ n' ≤ 60 := by
  have h6 := hV.2.2.1
  have hw := hV.2.1
  obtain ⟨U1, e1, u1, c1, -⟩ := C_begin hV h hac
  obtain ⟨M1, e2, m1, m2, m3⟩ := R_begin hV (isMV_I (M := M) (k := 49) (x := seed) (by omega) hm)
  have hP : PI v 0 0 (fun _ _ => 0) (fun o _ => (v (33 + o) : Nat)) := ⟨by omega, fun k hk => by omega, fun o ho t ht => (hV.2.2.2.2.2.2 o ho).2⟩
  have hJ0 : JR v U (csI U1 c 2 seed) c M M1 0 0 (fun _ _ => 0) (fun o _ => (v (33 + o) : Nat)) := by
    refine ⟨Ufr_t u1 (Ufr_I (by omega)), Msame_t Msame_I m1, ⟨by rw [csI_o2 (.inr (by omega))]; exact c1.1, by rw [csI_o2 (.inr (by omega))]; exact c1.2.1, c1.2.2.1, c1.2.2.2⟩, m3, hP⟩
  have key : ∀ (rem i : Nat) (U2 : zCS) (M2 : zMS) (n now : Nat) (ev pl : zEv) (F1 F2 : Nat), i + rem = N → JR v U U2 c M M2 n now ev pl → U2.1 c 2 = M2.1 49 → n ≤ i → rem < F1 → rem < F2 → ∃ U' M' n' now' ev' pl', zf2 (gX1_draw_l13 (J N) c a) F1 (J i) U2 = some U' ∧ zf2 (gX12_drawn_l45 (J N)) F2 (J i) M2 = some M' ∧ JR v U U' c M M' n' now' ev' pl' ∧ n' ≤ N := by
    intro rem
    induction rem with
    | zero =>
      intro i U2 M2 n now ev pl F1 F2 hi hJ hx hn hF1 hF2
      obtain ⟨G1, rfl⟩ : ∃ G, F1 = G + 1 := ⟨F1 - 1, by omega⟩
      obtain ⟨G2, rfl⟩ : ∃ G, F2 = G + 1 := ⟨F2 - 1, by omega⟩
      refine ⟨U2, M2, n, now, ev, pl, ?_, ?_, hJ, by omega⟩
      · show gX1_draw_l13 (J N) c a _ (J i) U2 = _
        unfold gX1_draw_l13
        rw [if_pos (show J N ≤ J i by rw [J_le (by omega) (by omega)]; omega)]
      · show gX12_drawn_l45 (J N) _ (J i) M2 = _
        unfold gX12_drawn_l45
        rw [if_pos (show J N ≤ J i by rw [J_le (by omega) (by omega)]; omega)]
    | succ rem ih =>
      intro i U2 M2 n now ev pl F1 F2 hi hJ hx hn hF1 hF2
      obtain ⟨G1, rfl⟩ : ∃ G, F1 = G + 1 := ⟨F1 - 1, by omega⟩
      obtain ⟨G2, rfl⟩ : ∃ G, F2 = G + 1 := ⟨F2 - 1, by omega⟩
      -- one deed
      have one : ∃ U3 M3 n3 now3 ev3 pl3, (∀ F, gX1_draw_l13 (J N) c a F (J i) U2 = F (J (i + 1)) U3) ∧ gX12_drawDeed M2 = some M3 ∧ JR v U U3 c M M3 n3 now3 ev3 pl3 ∧ U3.1 c 2 = M3.1 49 ∧ n3 ≤ i + 1 := by
        have hv2 := isVal_F hJ.1 hac h
        have hm2 := hJ.2.2.2.1.1
        obtain ⟨p, z1, hpk, a1, b1⟩ := J_draws hx (k := (v 1 : Nat)) hp0 (by omega)
        have hJ1 := JR_I hJ (z := z1)
        obtain ⟨y, z2, hyk, a2, b2⟩ := J_draws (U := csI U2 c 2 z1) (M := zsI M2 49 z1) (c := c) (by rw [csI_1, zsI_1]) (k := 6) (by omega) (by omega)
        have hJ2 := JR_I hJ1 (z := z2)
        have hx2 : (csI (csI U2 c 2 z1) c 2 z2).1 c 2 = (zsI (zsI M2 49 z1) 49 z2).1 49 := by rw [csI_1, zsI_1]
        have hv3 := isVal_F hJ2.1 hac h
        have hm3 := hJ2.2.2.2.1.1
        have cs : ∀ F, gX1_draw_l13 (J N) c a F (J i) U2 = zc1 (if J (if y < 3 then y else if y < 5 then 3 else 4) = J 4 then zb2 (gX1_below (csI (csI U2 c 2 z1) c 2 z2) c (J 9)) fun v37 U36 => zb2 (gX1_perform U36 c a (J 4) (J 1 + v37) NN) fun v40 U39 => some U39 else zb1 (if J (if y < 3 then y else if y < 5 then 3 else 4) = J 3 then some ((csI (csI U2 c 2 z1) c 2 z2).1 a 0 + J 1) else some (J 8)) fun s25 => zb2 (gX1_below (csI (csI U2 c 2 z1) c 2 z2) c s25) fun v29 U28 => zb2 (gX1_perform U28 c a (J (if y < 3 then y else if y < 5 then 3 else 4)) (J p) v29) fun v32 U31 => some U31) (fun m23 => F (J (i + 1)) m23) := by
          intro F
          unfold gX1_draw_l13
          rw [if_neg (show ¬ J N ≤ J i by rw [J_le (by omega) (by omega)]; omega), V_p hv2, a1, wb2, J_o, a2, wb2, C_act y hyk, wb1]
          rw [show J i + 1 = J (i + 1) from J_add i 1]
          rfl
        have rs : gX12_drawDeed M2 = zc1 (if J 2 < J y then (if J 5 ≤ J y then zb2 (gX12_draw (zsI (zsI M2 49 z1) 49 z2) (J 9)) fun v13 M12 => zb2 (gX12_waits M12 (J 1 + v13)) fun v16 M15 => some M15 else zb2 (gX12_draw (zsI (zsI M2 49 z1) 49 z2) ((zsI (zsI M2 49 z1) 49 z2).1 24 + J 1)) fun v21 M20 => zb2 (gX12_walks M20 (J p) v21) fun v24 M23 => some M23) else zb2 (gX12_draw (zsI (zsI M2 49 z1) 49 z2) (J 8)) fun v27 M26 => zb1 (gX12_says M26 (J p) v27 (J y)) fun M29 => some M29) (fun m9 => some m9) := by
          unfold gX12_drawDeed
          rw [R_p hm2, b1, wb2, show (6 : Int32) = J 6 from rfl, b2, wb2]
          rfl
        by_cases hy3 : y < 3
        · obtain ⟨w, z3, hwk, a3, b3⟩ := J_draws hx2 (k := 8) (by omega) (by omega)
          have hJ3 := JR_I hJ2 (z := z3)
          have hv4 := isVal_F hJ3.1 hac h
          obtain ⟨U', M', ev', s1, s2, r1, r2, r3⟩ := J_say hV h hac hJ3 hpk (w := w) (l := y) hwk hy3 (by omega)
          refine ⟨U', M', _, _, _, _, fun F => ?_, ?_, r1, by rw [r3, r2.2, csI_1, zsI_1], by omega⟩
          · rw [cs F, if_pos hy3]
            simp (disch := omega) only [wb1, wb2, wb3, wb4, wc1, wc2, zb1_ite, zb2_ite, zb3_ite, zb4_ite, zzc1_ite, zzc2_ite, J_lit, J_n1, J_n2, J_add, J_mul, J_lt, J_le, J_eq, J_eN, N_eJ, J_eN2, J_nn, J_lN, N_lJ, J_leN, N_leJ, NN_l0, NN_eN, bJ_0, bJ_1, bJ_ite, zbz_b, zbz_0, zbz_1, zag_J, zas_J, ite_true, ite_false, if_true, if_false, ite_self, reduceIte, not_true_eq_false, not_false_eq_true, J_o, Nat.reduceEqDiff, Nat.reduceAdd, Nat.reduceMul, Nat.reduceSub, Nat.reduceLT, Nat.reduceLeDiff, Nat.one_ne_zero]
            rw [if_neg (by omega), if_neg (by omega), a3]
            unfold gX1_perform
            simp (disch := omega) only [wb1, wb2, wb3, wb4, wc1, wc2, zb1_ite, zb2_ite, zb3_ite, zb4_ite, zzc1_ite, zzc2_ite, J_lit, J_n1, J_n2, J_add, J_mul, J_lt, J_le, J_eq, J_eN, N_eJ, J_eN2, J_nn, J_lN, N_lJ, J_leN, N_leJ, NN_l0, NN_eN, bJ_0, bJ_1, bJ_ite, zbz_b, zbz_0, zbz_1, zag_J, zas_J, ite_true, ite_false, if_true, if_false, ite_self, reduceIte, not_true_eq_false, not_false_eq_true, J_o, Nat.reduceEqDiff, Nat.reduceAdd, Nat.reduceMul, Nat.reduceSub, Nat.reduceLT, Nat.reduceLeDiff, Nat.one_ne_zero, C_hasPerson hv4, decide_eq_true hpk, Bool.true_eq_false]
            rw [if_neg (by omega), if_neg (by omega), s1]
            simp (disch := omega) only [wb1, wb2, wb3, wb4, wc1, wc2, zb1_ite, zb2_ite, zb3_ite, zb4_ite, zzc1_ite, zzc2_ite, J_lit, J_n1, J_n2, J_add, J_mul, J_lt, J_le, J_eq, J_eN, N_eJ, J_eN2, J_nn, J_lN, N_lJ, J_leN, N_leJ, NN_l0, NN_eN, bJ_0, bJ_1, bJ_ite, zbz_b, zbz_0, zbz_1, zag_J, zas_J, ite_true, ite_false, if_true, if_false, ite_self, reduceIte, not_true_eq_false, not_false_eq_true, J_o, Nat.reduceEqDiff, Nat.reduceAdd, Nat.reduceMul, Nat.reduceSub, Nat.reduceLT, Nat.reduceLeDiff, Nat.one_ne_zero]
          · rw [rs]
            simp (disch := omega) only [wb1, wb2, wb3, wb4, wc1, wc2, zb1_ite, zb2_ite, zb3_ite, zb4_ite, zzc1_ite, zzc2_ite, J_lit, J_n1, J_n2, J_add, J_mul, J_lt, J_le, J_eq, J_eN, N_eJ, J_eN2, J_nn, J_lN, N_lJ, J_leN, N_leJ, NN_l0, NN_eN, bJ_0, bJ_1, bJ_ite, zbz_b, zbz_0, zbz_1, zag_J, zas_J, ite_true, ite_false, if_true, if_false, ite_self, reduceIte, not_true_eq_false, not_false_eq_true, J_o, Nat.reduceEqDiff, Nat.reduceAdd, Nat.reduceMul, Nat.reduceSub, Nat.reduceLT, Nat.reduceLeDiff, Nat.one_ne_zero]
            rw [if_neg (by omega), b3]
            simp (disch := omega) only [wb1, wb2, wb3, wb4, wc1, wc2, zb1_ite, zb2_ite, zb3_ite, zb4_ite, zzc1_ite, zzc2_ite, J_lit, J_n1, J_n2, J_add, J_mul, J_lt, J_le, J_eq, J_eN, N_eJ, J_eN2, J_nn, J_lN, N_lJ, J_leN, N_leJ, NN_l0, NN_eN, bJ_0, bJ_1, bJ_ite, zbz_b, zbz_0, zbz_1, zag_J, zas_J, ite_true, ite_false, if_true, if_false, ite_self, reduceIte, not_true_eq_false, not_false_eq_true, J_o, Nat.reduceEqDiff, Nat.reduceAdd, Nat.reduceMul, Nat.reduceSub, Nat.reduceLT, Nat.reduceLeDiff, Nat.one_ne_zero, s2]
        · by_cases hy5 : y < 5
          · obtain ⟨w, z3, hwk, a3, b3⟩ := J_draws hx2 (k := (v 0 : Nat) + 1) (by omega) (by omega)
            have hJ3 := JR_I hJ2 (z := z3)
            have hv4 := isVal_F hJ3.1 hac h
            obtain ⟨r, U', M', now', pl', s1, s2, r1, r2, r3⟩ := J_walk hV h hac hJ3 hpk (b := w) (by omega)
            refine ⟨U', M', _, _, _, _, fun F => ?_, ?_, r1, by rw [r3, r2.2, csI_1, zsI_1], by omega⟩
            · rw [cs F, if_neg hy3, if_pos hy5]
              simp (disch := omega) only [wb1, wb2, wb3, wb4, wc1, wc2, zb1_ite, zb2_ite, zb3_ite, zb4_ite, zzc1_ite, zzc2_ite, J_lit, J_n1, J_n2, J_add, J_mul, J_lt, J_le, J_eq, J_eN, N_eJ, J_eN2, J_nn, J_lN, N_lJ, J_leN, N_leJ, NN_l0, NN_eN, bJ_0, bJ_1, bJ_ite, zbz_b, zbz_0, zbz_1, zag_J, zas_J, ite_true, ite_false, if_true, if_false, ite_self, reduceIte, not_true_eq_false, not_false_eq_true, J_o, Nat.reduceEqDiff, Nat.reduceAdd, Nat.reduceMul, Nat.reduceSub, Nat.reduceLT, Nat.reduceLeDiff, Nat.one_ne_zero, V_w hv3, a3]
              unfold gX1_perform
              simp (disch := omega) only [wb1, wb2, wb3, wb4, wc1, wc2, zb1_ite, zb2_ite, zb3_ite, zb4_ite, zzc1_ite, zzc2_ite, J_lit, J_n1, J_n2, J_add, J_mul, J_lt, J_le, J_eq, J_eN, N_eJ, J_eN2, J_nn, J_lN, N_lJ, J_leN, N_leJ, NN_l0, NN_eN, bJ_0, bJ_1, bJ_ite, zbz_b, zbz_0, zbz_1, zag_J, zas_J, ite_true, ite_false, if_true, if_false, ite_self, reduceIte, not_true_eq_false, not_false_eq_true, J_o, Nat.reduceEqDiff, Nat.reduceAdd, Nat.reduceMul, Nat.reduceSub, Nat.reduceLT, Nat.reduceLeDiff, Nat.one_ne_zero, C_hasPerson hv4, decide_eq_true hpk, Bool.true_eq_false, s1]
            · rw [rs]
              simp (disch := omega) only [wb1, wb2, wb3, wb4, wc1, wc2, zb1_ite, zb2_ite, zb3_ite, zb4_ite, zzc1_ite, zzc2_ite, J_lit, J_n1, J_n2, J_add, J_mul, J_lt, J_le, J_eq, J_eN, N_eJ, J_eN2, J_nn, J_lN, N_lJ, J_leN, N_leJ, NN_l0, NN_eN, bJ_0, bJ_1, bJ_ite, zbz_b, zbz_0, zbz_1, zag_J, zas_J, ite_true, ite_false, if_true, if_false, ite_self, reduceIte, not_true_eq_false, not_false_eq_true, J_o, Nat.reduceEqDiff, Nat.reduceAdd, Nat.reduceMul, Nat.reduceSub, Nat.reduceLT, Nat.reduceLeDiff, Nat.one_ne_zero, R_w hm3]
              rw [if_pos (by omega), if_neg (by omega), b3]
              simp (disch := omega) only [wb1, wb2, wb3, wb4, wc1, wc2, zb1_ite, zb2_ite, zb3_ite, zb4_ite, zzc1_ite, zzc2_ite, J_lit, J_n1, J_n2, J_add, J_mul, J_lt, J_le, J_eq, J_eN, N_eJ, J_eN2, J_nn, J_lN, N_lJ, J_leN, N_leJ, NN_l0, NN_eN, bJ_0, bJ_1, bJ_ite, zbz_b, zbz_0, zbz_1, zag_J, zas_J, ite_true, ite_false, if_true, if_false, ite_self, reduceIte, not_true_eq_false, not_false_eq_true, J_o, Nat.reduceEqDiff, Nat.reduceAdd, Nat.reduceMul, Nat.reduceSub, Nat.reduceLT, Nat.reduceLeDiff, Nat.one_ne_zero, s2]
          · obtain ⟨w, z3, hwk, a3, b3⟩ := J_draws hx2 (k := 9) (by omega) (by omega)
            have hJ3 := JR_I hJ2 (z := z3)
            obtain ⟨r, U', M', now', pl', s1, s2, r1, r2, r3⟩ := J_wait (a := a) hV hJ3 (d := 1 + w) (by omega)
            refine ⟨U', M', _, _, _, _, fun F => ?_, ?_, r1, by rw [r3, r2.2, csI_1, zsI_1], by omega⟩
            · rw [cs F, if_neg hy3, if_neg hy5]
              simp (disch := omega) only [wb1, wb2, wb3, wb4, wc1, wc2, zb1_ite, zb2_ite, zb3_ite, zb4_ite, zzc1_ite, zzc2_ite, J_lit, J_n1, J_n2, J_add, J_mul, J_lt, J_le, J_eq, J_eN, N_eJ, J_eN2, J_nn, J_lN, N_lJ, J_leN, N_leJ, NN_l0, NN_eN, bJ_0, bJ_1, bJ_ite, zbz_b, zbz_0, zbz_1, zag_J, zas_J, ite_true, ite_false, if_true, if_false, ite_self, reduceIte, not_true_eq_false, not_false_eq_true, J_o, Nat.reduceEqDiff, Nat.reduceAdd, Nat.reduceMul, Nat.reduceSub, Nat.reduceLT, Nat.reduceLeDiff, Nat.one_ne_zero, a3]
              unfold gX1_perform
              simp (disch := omega) only [wb1, wb2, wb3, wb4, wc1, wc2, zb1_ite, zb2_ite, zb3_ite, zb4_ite, zzc1_ite, zzc2_ite, J_lit, J_n1, J_n2, J_add, J_mul, J_lt, J_le, J_eq, J_eN, N_eJ, J_eN2, J_nn, J_lN, N_lJ, J_leN, N_leJ, NN_l0, NN_eN, bJ_0, bJ_1, bJ_ite, zbz_b, zbz_0, zbz_1, zag_J, zas_J, ite_true, ite_false, if_true, if_false, ite_self, reduceIte, not_true_eq_false, not_false_eq_true, J_o, Nat.reduceEqDiff, Nat.reduceAdd, Nat.reduceMul, Nat.reduceSub, Nat.reduceLT, Nat.reduceLeDiff, Nat.one_ne_zero, s1]
            · rw [rs]
              simp (disch := omega) only [wb1, wb2, wb3, wb4, wc1, wc2, zb1_ite, zb2_ite, zb3_ite, zb4_ite, zzc1_ite, zzc2_ite, J_lit, J_n1, J_n2, J_add, J_mul, J_lt, J_le, J_eq, J_eN, N_eJ, J_eN2, J_nn, J_lN, N_lJ, J_leN, N_leJ, NN_l0, NN_eN, bJ_0, bJ_1, bJ_ite, zbz_b, zbz_0, zbz_1, zag_J, zas_J, ite_true, ite_false, if_true, if_false, ite_self, reduceIte, not_true_eq_false, not_false_eq_true, J_o, Nat.reduceEqDiff, Nat.reduceAdd, Nat.reduceMul, Nat.reduceSub, Nat.reduceLT, Nat.reduceLeDiff, Nat.one_ne_zero]
              rw [if_pos (by omega), if_pos (by omega), b3]
              simp (disch := omega) only [wb1, wb2, wb3, wb4, wc1, wc2, zb1_ite, zb2_ite, zb3_ite, zb4_ite, zzc1_ite, zzc2_ite, J_lit, J_n1, J_n2, J_add, J_mul, J_lt, J_le, J_eq, J_eN, N_eJ, J_eN2, J_nn, J_lN, N_lJ, J_leN, N_leJ, NN_l0, NN_eN, bJ_0, bJ_1, bJ_ite, zbz_b, zbz_0, zbz_1, zag_J, zas_J, ite_true, ite_false, if_true, if_false, ite_self, reduceIte, not_true_eq_false, not_false_eq_true, J_o, Nat.reduceEqDiff, Nat.reduceAdd, Nat.reduceMul, Nat.reduceSub, Nat.reduceLT, Nat.reduceLeDiff, Nat.one_ne_zero, s2]
      obtain ⟨U3, M3, n3, now3, ev3, pl3, o1, o2, o3, o4, o5⟩ := one
      obtain ⟨U', M', n', now', ev', pl', k1, k2, k3, k4⟩ := ih (i + 1) U3 M3 n3 now3 ev3 pl3 G1 G2 (by omega) o3 o4 o5 (by omega) (by omega)
      refine ⟨U', M', n', now', ev', pl', ?_, ?_, k3, k4⟩
      · show gX1_draw_l13 (J N) c a _ (J i) U2 = _
        rw [o1]; exact k1
      · show gX12_drawn_l45 (J N) _ (J i) M2 = _
        unfold gX12_drawn_l45
        rw [if_neg (show ¬ J N ≤ J i by rw [J_le (by omega) (by omega)]; omega), o2, wb1, show J i + 1 = J (i + 1) from J_add i 1]
        exact k2
  obtain ⟨U', M', n', now', ev', pl', k1, k2, k3, k4⟩ := key N 0 _ M1 0 0 _ _ zfu zfu (by omega) hJ0 (by rw [csI_1, m2.2, zsI_1]) (Nat.le_refl _) (zfu_lt (by omega)) (zfu_lt (by omega))
  refine ⟨U', M1, M', n', now', ev', pl', ?_, e2, k2, k3, by omega⟩
  unfold gX1_draw
  rw [e1]
  show zb1 (zf2 (gX1_draw_l13 (J N) c a) zfu (J 0) (csI U1 c 2 seed)) _ = _
  rw [k1]
  rfl
