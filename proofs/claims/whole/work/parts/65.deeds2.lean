theorem C_speak {U : zCS} {a c : Nat} {v : zV} (hV : VOK v) (h : isVal U a v) (hac : ∀ j, j ≤ 10 → ¬ (c ≤ a + j ∧ a + j ≤ c + 3)) {n now p w l : Nat} {ev pl : zEv} (hP : PI v n now ev pl) (hp : p < (v 1 : Nat)) (hw : w < 8) (hl : l < 3) (hC : CSr v U c n now ev pl) (hn : n < 1000) : ∃ U', gX1_speak U c a (J p) (J w) (J l) = some U' ∧ Ufr U U' (fun q => c ≤ q ∧ q ≤ c + 3) ∧ CSr v U' c (n + 1) now (addE ev n (nE p w l now pl)) pl ∧ U'.1 c 2 = U.1 c 2 := by
  have h6 := hV.2.2.1
  obtain ⟨c0, c1, c2, c3⟩ := hC
  have hst : Ufr U (csI U c 1 (J (n + 1))) (fun q => c ≤ q ∧ q ≤ c + 3) := Ufr_I (by omega)
  have inn : ∀ b m, b < 3 → Ufr U m (fun q => c ≤ q ∧ q ≤ c + 3) → CSp v m c n now b 0 ev (addE ev n (nE p w l now pl)) pl → m.1 c 2 = U.1 c 2 → ∃ m', zf2 (gX1_speak_l22 a (J b) (J p) c (J w) (J l)) zfu (J 0) m = some m' ∧ Ufr U m' (fun q => c ≤ q ∧ q ≤ c + 3) ∧ CSp v m' c n now (b + 1) 0 ev (addE ev n (nE p w l now pl)) pl ∧ m'.1 c 2 = U.1 c 2 := by
    intro b m hb hm hC hx
    refine zf2_inv (f := gX1_speak_l22 a (J b) (J p) c (J w) (J l)) (v 1) (fun i x m => x = J i ∧ Ufr U m (fun q => c ≤ q ∧ q ≤ c + 3) ∧ CSp v m c n now b i ev (addE ev n (nE p w l now pl)) pl ∧ m.1 c 2 = U.1 c 2) (fun m => Ufr U m (fun q => c ≤ q ∧ q ≤ c + 3) ∧ CSp v m c n now (b + 1) 0 ev (addE ev n (nE p w l now pl)) pl ∧ m.1 c 2 = U.1 c 2) ?_ ?_ (zfu_lt (n := (v 1 : Nat)) (by omega)) (x0 := J 0) (x1 := m) ⟨rfl, hm, hC, hx⟩
    · intro i x m hi hQ F
      obtain ⟨rfl, hm, hC, hx⟩ := hQ
      obtain ⟨m', e1, r1, r2, r3⟩ := C_speak_st hV h hac hP hp hw hl hb hi hm hC F
      exact ⟨J (i + 1), m', e1, rfl, r1, r2, r3.trans hx⟩
    · intro x m hQ F
      obtain ⟨rfl, hm, hC, hx⟩ := hQ
      have hv := isVal_F hm hac h
      refine ⟨m, ?_, hm, ⟨hC.1, hC.2.1, hC.2.2.1, fun q hq t ht => ?_⟩, hx⟩
      · simp (disch := omega) only [gX1_speak_l22, wb1, wb2, wb3, wb4, wc1, wc2, zb1_ite, zb2_ite, zb3_ite, zb4_ite, zzc1_ite, zzc2_ite, J_lit, J_n1, J_n2, J_add, J_mul, J_lt, J_le, J_eq, J_eN, N_eJ, J_eN2, J_nn, J_lN, N_lJ, J_leN, N_leJ, NN_l0, NN_eN, bJ_0, bJ_1, bJ_ite, zbz_b, zbz_0, zbz_1, zag_J, zas_J, ite_true, ite_false, if_true, if_false, ite_self, reduceIte, not_true_eq_false, not_false_eq_true, J_o, Nat.reduceEqDiff, Nat.reduceAdd, Nat.reduceMul, Nat.reduceSub, Nat.reduceLT, Nat.reduceLeDiff, Nat.one_ne_zero, V_p hv]
        rw [if_pos (Nat.le_refl _)]
      · have := hC.2.2.2 q hq t ht
        rw [if_pos hq] at this
        rw [if_neg (by omega)]
        exact this
  unfold gX1_speak
  rw [c1]
  obtain ⟨m', e1, r1, r2, r3⟩ := zf2_inv (f := gX1_speak_l13 a (J p) c (J w) (J l)) 3 (fun i x m => x = J i ∧ Ufr U m (fun q => c ≤ q ∧ q ≤ c + 3) ∧ CSp v m c n now i 0 ev (addE ev n (nE p w l now pl)) pl ∧ m.1 c 2 = U.1 c 2) (fun m => Ufr U m (fun q => c ≤ q ∧ q ≤ c + 3) ∧ CSp v m c n now 3 0 ev (addE ev n (nE p w l now pl)) pl ∧ m.1 c 2 = U.1 c 2) (by
    intro i x m hi hQ F
    obtain ⟨rfl, hm, hC, hx⟩ := hQ
    obtain ⟨m', e1, r1⟩ := inn i m hi hm hC hx
    refine ⟨J (i + 1), m', ?_, rfl, r1⟩
    simp (disch := omega) only [gX1_speak_l13, wb1, wb2, wb3, wb4, wc1, wc2, zb1_ite, zb2_ite, zb3_ite, zb4_ite, zzc1_ite, zzc2_ite, J_lit, J_n1, J_n2, J_add, J_mul, J_lt, J_le, J_eq, J_eN, N_eJ, J_eN2, J_nn, J_lN, N_lJ, J_leN, N_leJ, NN_l0, NN_eN, bJ_0, bJ_1, bJ_ite, zbz_b, zbz_0, zbz_1, zag_J, zas_J, ite_true, ite_false, if_true, if_false, ite_self, reduceIte, not_true_eq_false, not_false_eq_true, J_o, Nat.reduceEqDiff, Nat.reduceAdd, Nat.reduceMul, Nat.reduceSub, Nat.reduceLT, Nat.reduceLeDiff, Nat.one_ne_zero, e1]
    rw [if_neg (by omega)]) (by
    intro x m hQ F
    obtain ⟨rfl, hm, hC, hx⟩ := hQ
    refine ⟨m, ?_, hm, hC, hx⟩
    simp (disch := omega) only [gX1_speak_l13, wb1, wb2, wb3, wb4, wc1, wc2, zb1_ite, zb2_ite, zb3_ite, zb4_ite, zzc1_ite, zzc2_ite, J_lit, J_n1, J_n2, J_add, J_mul, J_lt, J_le, J_eq, J_eN, N_eJ, J_eN2, J_nn, J_lN, N_lJ, J_leN, N_leJ, NN_l0, NN_eN, bJ_0, bJ_1, bJ_ite, zbz_b, zbz_0, zbz_1, zag_J, zas_J, ite_true, ite_false, if_true, if_false, ite_self, reduceIte, not_true_eq_false, not_false_eq_true, J_o, Nat.reduceEqDiff, Nat.reduceAdd, Nat.reduceMul, Nat.reduceSub, Nat.reduceLT, Nat.reduceLeDiff, Nat.one_ne_zero]) (zfu_lt (n := 3) (by omega)) (x0 := J 0) (x1 := csI U c 1 (J (n + 1))) ⟨rfl, hst, ⟨by rw [csI_o2 (.inr (by omega))]; exact c0, csI_1, c2, fun q hq t ht => by
      have := c3 q hq t ht
      rw [if_neg (by omega)]
      exact ⟨by rw [csI_a, this.1]; show _ = J (_ ||| 0); rw [Nat.or_zero], this.2⟩⟩, csI_o2 (.inr (by omega))⟩
  refine ⟨m', ?_, r1, ⟨r2.1, r2.2.1, r2.2.2.1, fun q hq t ht => ?_⟩, r3⟩
  · simp (disch := omega) only [wb1, wb2, wb3, wb4, wc1, wc2, zb1_ite, zb2_ite, zb3_ite, zb4_ite, zzc1_ite, zzc2_ite, J_lit, J_n1, J_n2, J_add, J_mul, J_lt, J_le, J_eq, J_eN, N_eJ, J_eN2, J_nn, J_lN, N_lJ, J_leN, N_leJ, NN_l0, NN_eN, bJ_0, bJ_1, bJ_ite, zbz_b, zbz_0, zbz_1, zag_J, zas_J, ite_true, ite_false, if_true, if_false, ite_self, reduceIte, not_true_eq_false, not_false_eq_true, J_o, Nat.reduceEqDiff, Nat.reduceAdd, Nat.reduceMul, Nat.reduceSub, Nat.reduceLT, Nat.reduceLeDiff, Nat.one_ne_zero, e1]
  · have := r2.2.2.2 q hq t ht
    rw [if_neg (by omega)] at this
    have hc : ∀ k, k < n → (∀ j, addE ev n (nE p w l now pl) k j = ev k j) ∧ pl q (ev k 3) = pl q (ev k 3) := fun k hk => ⟨fun j => addE_o (by omega), rfl⟩
    rw [wds_s, hrs_s, wds_c hc, hrs_c hc]
    exact this
theorem C_hasPlace {U : zCS} {a : Nat} {v : zV} (h : isVal U a v) {b : Nat} (hb : b < 1000) : gX9_hasPlace U a (J b) = some (bJ (decide (b ≤ (v 0 : Nat)))) := by
  unfold gX9_hasPlace
  simp (disch := omega) only [wb1, wb2, wb3, wb4, wc1, wc2, zb1_ite, zb2_ite, zb3_ite, zb4_ite, zzc1_ite, zzc2_ite, J_lit, J_n1, J_n2, J_add, J_mul, J_lt, J_le, J_eq, J_eN, N_eJ, J_eN2, J_nn, J_lN, N_lJ, J_leN, N_leJ, NN_l0, NN_eN, bJ_0, bJ_1, bJ_ite, zbz_b, zbz_0, zbz_1, zag_J, zas_J, ite_true, ite_false, if_true, if_false, ite_self, reduceIte, not_true_eq_false, not_false_eq_true, J_o, Nat.reduceEqDiff, Nat.reduceAdd, Nat.reduceMul, Nat.reduceSub, Nat.reduceLT, Nat.reduceLeDiff, Nat.one_ne_zero, V_w h]
  by_cases hc : b ≤ (v 0 : Nat)
  · simp [hc, Nat.not_lt.mpr hc, bJ]
  · simp [hc, Nat.not_le.mp hc, bJ]
theorem C_hasPerson {U : zCS} {a : Nat} {v : zV} (h : isVal U a v) {p : Nat} (hp : p < 1000) : gX9_hasPerson U a (J p) = some (bJ (decide (p < (v 1 : Nat)))) := by
  unfold gX9_hasPerson
  simp (disch := omega) only [wb1, wb2, wb3, wb4, wc1, wc2, zb1_ite, zb2_ite, zb3_ite, zb4_ite, zzc1_ite, zzc2_ite, J_lit, J_n1, J_n2, J_add, J_mul, J_lt, J_le, J_eq, J_eN, N_eJ, J_eN2, J_nn, J_lN, N_lJ, J_leN, N_leJ, NN_l0, NN_eN, bJ_0, bJ_1, bJ_ite, zbz_b, zbz_0, zbz_1, zag_J, zas_J, ite_true, ite_false, if_true, if_false, ite_self, reduceIte, not_true_eq_false, not_false_eq_true, J_o, Nat.reduceEqDiff, Nat.reduceAdd, Nat.reduceMul, Nat.reduceSub, Nat.reduceLT, Nat.reduceLeDiff, Nat.one_ne_zero, V_p h]
  by_cases hc : p < (v 1 : Nat)
  · simp [hc, Nat.not_le.mpr hc, bJ]
  · simp [hc, Nat.not_lt.mp hc, bJ]
theorem CSr_c {v : zV} {U : zCS} {c n now now' : Nat} {ev pl pl' : zEv} (h : CSr v U c n now ev pl) (hP : PI v n now ev pl) (h1 : ∀ o, o < (v 1 : Nat) → ∀ t, t ≤ now → pl' o t = pl o t) {U' : zCS} (hn : U'.1 c 0 = J now') (hm : U'.1 c 1 = U.1 c 1) (hp : ∀ o, o < (v 1 : Nat) → U'.2.1 (c + 1) o = J (pl' o now')) (h2 : U'.2.1 (c + 2) = U.2.1 (c + 2)) (h3 : U'.2.1 (c + 3) = U.2.1 (c + 3)) : CSr v U' c n now' ev pl' := by
  refine ⟨hn, by rw [hm]; exact h.2.1, hp, fun p hp2 t ht => ?_⟩
  have hc : ∀ k, k < n → (∀ j, ev k j = ev k j) ∧ pl' p (ev k 3) = pl p (ev k 3) := fun k hk => ⟨fun _ => rfl, h1 p hp2 _ (hP.2.1 k hk).2.2.2.1⟩
  rw [h2, h3, wds_c hc, hrs_c hc]
  exact h.2.2.2 p hp2 t ht
/-- both sides in step -/
def JR (v : zV) (U0 U : zCS) (c : Nat) (M0 M : zMS) (n now : Nat) (ev pl : zEv) : Prop := Ufr U0 U (fun q => c ≤ q ∧ q ≤ c + 3) ∧ Msame M0 M ∧ CSr v U c n now ev pl ∧ RS v M n now ev pl ∧ PI v n now ev pl
theorem J_wait {U0 U : zCS} {a c : Nat} {v : zV} {M0 M : zMS} (hV : VOK v) {n now d : Nat} {ev pl : zEv} (h : JR v U0 U c M0 M n now ev pl) (hd : d < 1000) : ∃ r U' M' now' pl', gX1_pass U c (J d) = some (bJ r, U') ∧ gX12_waits M (J d) = some (bJ r, M') ∧ JR v U0 U' c M0 M' n now' ev pl' ∧ (M'.1 26 = M.1 26 ∧ M'.1 49 = M.1 49) ∧ U'.1 c 2 = U.1 c 2 := by
  obtain ⟨hu, hs, hC, hR, hP⟩ := h
  obtain ⟨M', e2, q1, q2, q3⟩ := R_waits hV hR hP hs hd
  have e1 := C_pass hC.1 (by have := hP.1; omega) (show d < 10000 by omega)
  by_cases hc : now + d ≤ 99
  · rw [if_pos hc] at q3 e1
    have hP' : PI v n (now + d) ev (fun o t => if t ≤ now then pl o t else pl o now) := ⟨hc, fun k hk => by have := hP.2.1 k hk; omega, fun o ho t ht => by
      simp only
      split
      · exact hP.2.2 o ho t (by omega)
      · exact hP.2.2 o ho now (Nat.le_refl _)⟩
    refine ⟨_, _, M', _, _, e1, e2, ⟨Ufr_t hu (Ufr_I (by omega)), q1, ?_, q3, hP'⟩, q2, csI_o2 (.inr (by omega))⟩
    refine CSr_c hC hP (fun o ho t ht => if_pos ht) csI_1 (csI_o2 (.inr (by omega))) (fun o ho => ?_) rfl rfl
    have := hC.2.2.1 o ho
    show U.2.1 (c + 1) o = J (if now + d ≤ now then pl o (now + d) else pl o now)
    by_cases hd0 : now + d ≤ now
    · rw [if_pos hd0, show now + d = now by omega]; exact this
    · rw [if_neg hd0]; exact this
  · rw [if_neg hc] at q3 e1
    exact ⟨_, _, M', _, _, e1, e2, ⟨hu, q1, hC, q3, hP⟩, q2, rfl⟩
theorem J_walk {U0 U : zCS} {a c : Nat} {v : zV} {M0 M : zMS} (hV : VOK v) (h : isVal U0 a v) (hac : ∀ j, j ≤ 10 → ¬ (c ≤ a + j ∧ a + j ≤ c + 3)) {n now p b : Nat} {ev pl : zEv} (hJ : JR v U0 U c M0 M n now ev pl) (hp : p < (v 1 : Nat)) (hb : b < 1000) : ∃ r U' M' now' pl', gX1_walk U c a (J p) (J b) = some (bJ r, U') ∧ gX12_walks M (J p) (J b) = some (bJ r, M') ∧ JR v U0 U' c M0 M' n now' ev pl' ∧ (M'.1 26 = M.1 26 ∧ M'.1 49 = M.1 49) ∧ U'.1 c 2 = U.1 c 2 := by
  obtain ⟨hu, hs, hC, hR, hP⟩ := hJ
  have h6 := hV.2.2.1
  have hnow := hP.1
  have hv := isVal_F hu hac h
  have hpp := hP.2.2 p hp now (Nat.le_refl _)
  have hw := hV.2.1
  have hdl : dist (pl p now) b < 2000 := by unfold dist; omega
  obtain ⟨M', now', pl', e2, q1, q2, q3, q4, q5, q6, q7⟩ := R_walks hV hR hP hs hp hb
  have ep := hC.2.2.1 p hp
  have e1 := C_pass (d := dist (pl p now) b) hC.1 (by omega) (by omega)
  by_cases hc1 : b ≤ (v 0 : Nat)
  · by_cases hc2 : now + dist (pl p now) b ≤ 99
    · rw [if_pos ⟨hc1, hc2⟩] at q7
      rw [decide_eq_true ⟨hc1, hc2⟩] at e2
      rw [if_pos hc2, decide_eq_true hc2] at e1
      obtain ⟨rfl, q8⟩ := q7
      refine ⟨true, csA (csI U c 0 (J (now + dist (pl p now) b))) (c + 1) (upd (U.2.1 (c + 1)) p (J b)), M', _, pl', ?_, e2, ⟨Ufr_t hu (Ufr_t (Ufr_I (by omega)) (Ufr_A (by omega))), q1, ?_, q3, q4⟩, q2, csI_o2 (.inr (by omega))⟩
      · unfold gX1_walk
        rw [C_hasPlace hv hb, decide_eq_true hc1]
        simp (disch := omega) only [wb1, wb2, wb3, wb4, wc1, wc2, zb1_ite, zb2_ite, zb3_ite, zb4_ite, zzc1_ite, zzc2_ite, J_lit, J_n1, J_n2, J_add, J_mul, J_lt, J_le, J_eq, J_eN, N_eJ, J_eN2, J_nn, J_lN, N_lJ, J_leN, N_leJ, NN_l0, NN_eN, bJ_0, bJ_1, bJ_ite, zbz_b, zbz_0, zbz_1, zag_J, zas_J, ite_true, ite_false, if_true, if_false, ite_self, reduceIte, not_true_eq_false, not_false_eq_true, J_o, Nat.reduceEqDiff, Nat.reduceAdd, Nat.reduceMul, Nat.reduceSub, Nat.reduceLT, Nat.reduceLeDiff, Nat.one_ne_zero, Bool.true_eq_false, ep, abs_J, e1, csI_a]
        rfl
      · refine CSr_c hC hP q5 csI_1 (csI_o2 (.inr (by omega))) (fun o ho => ?_) ?_ ?_
        · rw [csA_1, q8 o ho]
          by_cases hop : o = p
          · subst hop; rw [upd_1, if_pos rfl]
          · rw [upd_o hop, if_neg hop]; exact hC.2.2.1 o ho
        · rw [csA_o2 (by omega)]; rfl
        · rw [csA_o2 (by omega)]; rfl
    · rw [if_neg (fun z => hc2 z.2)] at q7
      rw [decide_eq_false (fun z => hc2 z.2)] at e2
      rw [if_neg hc2, decide_eq_false hc2] at e1
      obtain ⟨rfl, rfl⟩ := q7
      refine ⟨false, U, M', _, pl', ?_, e2, ⟨hu, q1, hC, q3, q4⟩, q2, rfl⟩
      unfold gX1_walk
      rw [C_hasPlace hv hb, decide_eq_true hc1]
      simp (disch := omega) only [wb1, wb2, wb3, wb4, wc1, wc2, zb1_ite, zb2_ite, zb3_ite, zb4_ite, zzc1_ite, zzc2_ite, J_lit, J_n1, J_n2, J_add, J_mul, J_lt, J_le, J_eq, J_eN, N_eJ, J_eN2, J_nn, J_lN, N_lJ, J_leN, N_leJ, NN_l0, NN_eN, bJ_0, bJ_1, bJ_ite, zbz_b, zbz_0, zbz_1, zag_J, zas_J, ite_true, ite_false, if_true, if_false, ite_self, reduceIte, not_true_eq_false, not_false_eq_true, J_o, Nat.reduceEqDiff, Nat.reduceAdd, Nat.reduceMul, Nat.reduceSub, Nat.reduceLT, Nat.reduceLeDiff, Nat.one_ne_zero, Bool.true_eq_false, ep, abs_J, e1]
      rfl
  · rw [if_neg (fun z => hc1 z.1)] at q7
    rw [decide_eq_false (fun z => hc1 z.1)] at e2
    obtain ⟨rfl, rfl⟩ := q7
    refine ⟨false, U, M', _, pl', ?_, e2, ⟨hu, q1, hC, q3, q4⟩, q2, rfl⟩
    unfold gX1_walk
    rw [C_hasPlace hv hb, decide_eq_false hc1]
    simp (disch := omega) only [wb1, wb2, wb3, wb4, wc1, wc2, zb1_ite, zb2_ite, zb3_ite, zb4_ite, zzc1_ite, zzc2_ite, J_lit, J_n1, J_n2, J_add, J_mul, J_lt, J_le, J_eq, J_eN, N_eJ, J_eN2, J_nn, J_lN, N_lJ, J_leN, N_leJ, NN_l0, NN_eN, bJ_0, bJ_1, bJ_ite, zbz_b, zbz_0, zbz_1, zag_J, zas_J, ite_true, ite_false, if_true, if_false, ite_self, reduceIte, not_true_eq_false, not_false_eq_true, J_o, Nat.reduceEqDiff, Nat.reduceAdd, Nat.reduceMul, Nat.reduceSub, Nat.reduceLT, Nat.reduceLeDiff, Nat.one_ne_zero]
    rfl
theorem J_say {U0 U : zCS} {a c : Nat} {v : zV} {M0 M : zMS} (hV : VOK v) (h : isVal U0 a v) (hac : ∀ j, j ≤ 10 → ¬ (c ≤ a + j ∧ a + j ≤ c + 3)) {n now p w l : Nat} {ev pl : zEv} (hJ : JR v U0 U c M0 M n now ev pl) (hp : p < (v 1 : Nat)) (hw : w < 8) (hl : l < 3) (hn : n < 60) : ∃ U' M' ev', gX1_speak U c a (J p) (J w) (J l) = some U' ∧ gX12_says M (J p) (J w) (J l) = some M' ∧ JR v U0 U' c M0 M' (n + 1) now ev' pl ∧ (M'.1 26 = M.1 26 ∧ M'.1 49 = M.1 49) ∧ U'.1 c 2 = U.1 c 2 := by
  obtain ⟨hu, hs, hC, hR, hP⟩ := hJ
  have hv := isVal_F hu hac h
  obtain ⟨U', e1, r1, r2, r3⟩ := C_speak hV hv hac hP hp hw hl hC (by omega)
  obtain ⟨M', e2, q1, q2, q3⟩ := R_says (w := w) (l := l) hV hR hP hs hp hn
  exact ⟨U', M', _, e1, e2, ⟨Ufr_t hu r1, q1, r2, q3, PI_add hP hp hw hl⟩, q2, r3⟩
