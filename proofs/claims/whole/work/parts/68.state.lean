/-! what the reference finds heard -/
theorem J_clash0 : ∀ w, w < 256 → decide ((J w &&& (J w - 1)) = 0) = decide (pop8 w ≤ 1) := by decide +kernel
theorem J_clash {w : Nat} (hw : w < 256) : ((J w &&& (J w - J 1)) = J 0) ↔ pop8 w ≤ 1 := by
  have := J_clash0 w hw
  rw [decide_eq_decide] at this
  exact this
def fcq (v : zV) (ev pl : zEv) (n t p : Nat) : Option (Nat × Nat) := match fcl v ev pl n t with
  | some y => some y
  | none => (fstI (fun q => cls v ev pl n q t) p).map (fun q => (t, q))
theorem fcl_s {v : zV} {ev pl : zEv} {n t : Nat} : fcl v ev pl n (t + 1) = fcq v ev pl n t (v 1) := by
  unfold fcq
  have e : fcl v ev pl n (t + 1) = match fstI (fun t => (fstI (fun p => cls v ev pl n p t) (v 1)).isSome) (t + 1) with
    | none => none
    | some t => (fstI (fun p => cls v ev pl n p t) (v 1)).map (fun p => (t, p)) := rfl
  rw [e, fstI_S]
  unfold fcl
  cases hf : fstI (fun t => (fstI (fun p => cls v ev pl n p t) (v 1)).isSome) t with
  | none =>
    cases hg : fstI (fun p => cls v ev pl n p t) (v 1) with
    | none => simp [hg]
    | some p => simp [hg]
  | some t0 =>
    have := (fstI_s hf).2.1
    cases hg : fstI (fun p => cls v ev pl n p t0) (v 1) with
    | none => rw [hg] at this; cases this
    | some p => simp [hg]
/-- how far the reference is, at minute t and person p -/
def isFH (v : zV) (M : zMS) (n : Nat) (ev pl : zEv) (t p : Nat) : Prop := (∀ q, q < (v 1 : Nat) → M.2.2 31 q = J (wal2 v ev pl n q (if q < p then t + 1 else t)) ∧ M.2.2 32 q = J (oft v ev pl n q (if q < p then t + 1 else t)) ∧ M.2.2 33 q = oJ (fstI (hrd2 v ev pl n q) (if q < p then t + 1 else t))) ∧ M.1 34 = J (cs2 (fun t q => cls v ev pl n q t) (v 1) t + cnt (fun q => cls v ev pl n q t) p) ∧ M.1 35 = oJ ((fcq v ev pl n t p).map (·.1)) ∧ M.1 36 = oJ ((fcq v ev pl n t p).map (·.2)) ∧ (cs2 (fun t q => cls v ev pl n q t) (v 1) t + cnt (fun q => cls v ev pl n q t) p = 0 ↔ fcq v ev pl n t p = none)
theorem fcq_s {v : zV} {ev pl : zEv} {n t p : Nat} : fcq v ev pl n t (p + 1) = match fcq v ev pl n t p with
    | some y => some y
    | none => if cls v ev pl n p t then some (t, p) else none := by
  unfold fcq
  cases hf : fcl v ev pl n t with
  | some y => rfl
  | none =>
    rw [fstI_S]
    cases hg : fstI (fun q => cls v ev pl n q t) p with
    | some q => rfl
    | none => cases hc : cls v ev pl n p t <;> simp [hc]
theorem R_heard_p {M M0 : zMS} {v : zV} (hV : VOK v) {n now t p : Nat} {ev pl : zEv} (h : RS v M n now ev pl) (hP : PI v n now ev pl) (hs : Msame M0 M) (hp : p < (v 1 : Nat)) (hn : n ≤ 60) (ht : t < 100) (hF : isFH v M n ev pl t p) (F : Int32 → zMS → Option zMS) : ∃ M', gX12_findHeard_l62 (J t) F (J p) M = F (J (p + 1)) M' ∧ RS v M' n now ev pl ∧ Msame M0 M' ∧ isFH v M' n ev pl t (p + 1) := by
  have h6 := hV.2.2.1
  obtain ⟨f1, f2, f3, f4, f5⟩ := hF
  obtain ⟨a1, a2, a3⟩ := f1 p hp
  rw [if_neg (by omega)] at a1 a2 a3
  have hW := wds_lt hV (p := p) (t := t) (pl := pl) (N := n) (fun k hk => (hP.2.1 k hk).2.1) n (Nat.le_refl _)
  -- the sayings one by one
  obtain ⟨r, hr, q1, q2, q3, q4, q5⟩ := zf3_inv (f := gX12_findHeard_l75 (J p) (J t)) n (fun k s y m => s = J (wds v ev pl p t k) ∧ y = J k ∧ RS v m n now ev pl ∧ Msame M0 m ∧ Mof M m p ∧ m.2.2 32 p = J (oft v ev pl n p t + hrs v ev pl p t k)) (fun r => r.1 = J (wds v ev pl p t n) ∧ RS v r.2 n now ev pl ∧ Msame M0 r.2 ∧ Mof M r.2 p ∧ r.2.2.2 32 p = J (oft v ev pl n p t + hrs v ev pl p t n)) (by
    intro k s y m hk hQ G
    obtain ⟨rfl, rfl, hR, hms, hmo, hmx⟩ := hQ
    obtain ⟨m2, e1, r1, r2, r3, r4⟩ := R_hears hV hR hP hms hp hk hn ht hmx
    refine ⟨J (wds v ev pl p t (k + 1)), J (k + 1), m2, ?_, rfl, rfl, r1, r2, ⟨r3.1.trans hmo.1, fun j hj => (r3.2.1 j hj).trans (hmo.2.1 j hj), fun q hq => (r3.2.2 q hq).trans (hmo.2.2 q hq)⟩, by rw [r4, hrs_s, Nat.add_assoc]⟩
    unfold gX12_findHeard_l75
    rw [hR.2.1]
    simp (disch := omega) only [wb1, wb2, wb3, wb4, wc1, wc2, zb1_ite, zb2_ite, zb3_ite, zb4_ite, zzc1_ite, zzc2_ite, J_lit, J_n1, J_n2, J_add, J_mul, J_lt, J_le, J_eq, J_eN, N_eJ, J_eN2, J_nn, J_lN, N_lJ, J_leN, N_leJ, NN_l0, NN_eN, bJ_0, bJ_1, bJ_ite, zbz_b, zbz_0, zbz_1, zag_J, zas_J, ite_true, ite_false, if_true, if_false, ite_self, reduceIte, not_true_eq_false, not_false_eq_true, J_o, Nat.reduceEqDiff, Nat.reduceAdd, Nat.reduceMul, Nat.reduceSub, Nat.reduceLT, Nat.reduceLeDiff, Nat.one_ne_zero, e1, J_or]
    rw [if_neg (by omega)]
    rfl) (by
    intro s y m hQ G
    obtain ⟨rfl, rfl, hR, hQ⟩ := hQ
    unfold gX12_findHeard_l75
    rw [hR.2.1]
    simp (disch := omega) only [wb1, wb2, wb3, wb4, wc1, wc2, zb1_ite, zb2_ite, zb3_ite, zb4_ite, zzc1_ite, zzc2_ite, J_lit, J_n1, J_n2, J_add, J_mul, J_lt, J_le, J_eq, J_eN, N_eJ, J_eN2, J_nn, J_lN, N_lJ, J_leN, N_leJ, NN_l0, NN_eN, bJ_0, bJ_1, bJ_ite, zbz_b, zbz_0, zbz_1, zag_J, zas_J, ite_true, ite_false, if_true, if_false, ite_self, reduceIte, not_true_eq_false, not_false_eq_true, J_o, Nat.reduceEqDiff, Nat.reduceAdd, Nat.reduceMul, Nat.reduceSub, Nat.reduceLT, Nat.reduceLeDiff, Nat.one_ne_zero]
    rw [if_pos (Nat.le_refl _)]
    exact ⟨(J (wds v ev pl p t n), m), rfl, rfl, hR, hQ⟩) (zfu_lt (n := n) (by omega)) (x0 := J 0) (x1 := J 0) (x2 := M) ⟨rfl, rfl, h, hs, ⟨rfl, fun _ _ => rfl, fun _ _ => rfl⟩, by rw [a2]; rfl⟩
  obtain ⟨r1, m⟩ := r
  simp only at q1 q2 q3 q4 q5
  rw [q1] at hr
  have b1 : m.2.2 31 p = J (wal2 v ev pl n p t) := by rw [q4.2.1 31 (by omega)]; exact a1
  have b3 : m.2.2 33 p = oJ (fstI (hrd2 v ev pl n p) t) := by rw [q4.2.1 33 (by omega)]; exact a3
  have b34 : m.1 34 = J (cs2 (fun t q => cls v ev pl n q t) (v 1) t + cnt (fun q => cls v ev pl n q t) p) := by rw [q4.1]; exact f2
  have b35 : m.1 35 = oJ ((fcq v ev pl n t p).map (·.1)) := by rw [q4.1]; exact f3
  have b36 : m.1 36 = oJ ((fcq v ev pl n t p).map (·.2)) := by rw [q4.1]; exact f4
  have hcb : cs2 (fun t q => cls v ev pl n q t) (v 1) t + cnt (fun q => cls v ev pl n q t) p < 10000 := by
    have c1 := cs2_le (f := fun t q => cls v ev pl n q t) (B := (v 1 : Nat)) t
    have c2 := cnt_le (p := fun q => cls v ev pl n q t) p
    have : (v 1 : Nat) * t ≤ 6 * t := Nat.mul_le_mul_right t h6
    omega
  have hh : hrd2 v ev pl n p t = decide (¬ wds v ev pl p t n = 0) := by
    unfold hrd2
    rw [decide_eq_decide, wds_0]; omega
  have hcl : cls v ev pl n p t = decide (¬ pop8 (wds v ev pl p t n) ≤ 1) := by
    unfold cls
    rw [decide_eq_decide]; omega
  -- the new values
  obtain ⟨x1, hx1⟩ : ∃ x1, x1 = oJ (fstI (hrd2 v ev pl n p) (t + 1)) := ⟨_, rfl⟩
  obtain ⟨x35, hx35⟩ : ∃ x, x = oJ ((fcq v ev pl n t (p + 1)).map (·.1)) := ⟨_, rfl⟩
  obtain ⟨x36, hx36⟩ : ∃ x, x = oJ ((fcq v ev pl n t (p + 1)).map (·.2)) := ⟨_, rfl⟩
  refine ⟨zsI (zsI (zsI (zsA (zsA m 31 (upd (m.2.2 31) p (J (wal2 v ev pl n p (t + 1))))) 33 (upd (m.2.2 33) p x1)) 35 x35) 36 x36) 34 (J (cs2 (fun t q => cls v ev pl n q t) (v 1) t + cnt (fun q => cls v ev pl n q t) (p + 1))), ?_, RS_I (by omega) (RS_I (by omega) (RS_I (by omega) (RS_A (by omega) (RS_A (by omega) q2)))), Msame_t q3 (Msame_t (Msame_t (Msame_t (Msame_t (Msame_A (by omega)) (Msame_A (by omega))) Msame_I) Msame_I) Msame_I), ?_, zsI_1, ?_, ?_, ?_⟩
  · have e33 : (zsA m 31 (upd (m.2.2 31) p (J (wal2 v ev pl n p (t + 1))))).2.2 33 = m.2.2 33 := zsA_o (by omega)
    have eF : (if oJ (fstI (hrd2 v ev pl n p) t) = NN then if wds v ev pl p t n ≤ 0 then oJ (fstI (hrd2 v ev pl n p) t) else J t else oJ (fstI (hrd2 v ev pl n p) t)) = x1 := by
      rw [hx1, fstI_S, hh]
      cases hf : fstI (hrd2 v ev pl n p) t with
      | none =>
        rw [oJ_n, if_pos rfl]
        by_cases hw0 : wds v ev pl p t n = 0
        · rw [if_pos (by omega), decide_eq_false (fun z => z hw0)]; rfl
        · rw [if_neg (by omega), decide_eq_true hw0]; rfl
      | some k =>
        have := (fstI_s hf).1
        rw [oJ_s, if_neg (by rw [J_eN (by omega)]; exact id)]
    unfold gX12_findHeard_l62
    rw [R_p h.1, if_neg (show ¬ J (v 1) ≤ J p by rw [J_le (by omega) (by omega)]; omega)]
    show zb2 (zf3 (gX12_findHeard_l75 (J p) (J t)) zfu (J 0) (J 0) M) _ = _
    rw [hr]
    unfold gX12_findHeard_b134 gX12_findHeard_b173 gX12_findHeard_b197
    have ew : wal2 v ev pl n p t ||| wds v ev pl p t n = wal2 v ev pl n p (t + 1) := rfl
    simp (disch := omega) only [wb1, wb2, wb3, wb4, wc1, wc2, some_ite, J_lit, J_n1, J_n2, J_add, J_mul, J_lt, J_le, J_eq, J_eN, N_eJ, J_eN2, J_nn, J_lN, N_lJ, J_leN, N_leJ, NN_l0, NN_eN, bJ_0, bJ_1, bJ_ite, zbz_b, zbz_0, zbz_1, zag_J, zas_J, ite_true, ite_false, if_true, if_false, ite_self, reduceIte, not_true_eq_false, not_false_eq_true, J_o, Nat.reduceEqDiff, Nat.reduceAdd, Nat.reduceMul, Nat.reduceSub, Nat.reduceLT, Nat.reduceLeDiff, Nat.one_ne_zero, b1, J_or, J_clash, ew, zsA_o, b3, zsA_i, b34, b35, b36, zsI_o, eF]
    by_cases hc : pop8 (wds v ev pl p t n) ≤ 1
    · have hcf : cls v ev pl n p t = false := by rw [hcl]; exact decide_eq_false (fun z => z hc)
      have ef : fcq v ev pl n t (p + 1) = fcq v ev pl n t p := by rw [fcq_s, hcf]; cases fcq v ev pl n t p <;> rfl
      rw [cnt_s, hcf, hx35, hx36, ef]
      simp (disch := omega) only [wb1, wb2, wb3, wb4, wc1, wc2, some_ite, J_lit, J_n1, J_n2, J_add, J_mul, J_lt, J_le, J_eq, J_eN, N_eJ, J_eN2, J_nn, J_lN, N_lJ, J_leN, N_leJ, NN_l0, NN_eN, bJ_0, bJ_1, bJ_ite, zbz_b, zbz_0, zbz_1, zag_J, zas_J, ite_true, ite_false, if_true, if_false, ite_self, reduceIte, not_true_eq_false, not_false_eq_true, J_o, Nat.reduceEqDiff, Nat.reduceAdd, Nat.reduceMul, Nat.reduceSub, Nat.reduceLT, Nat.reduceLeDiff, Nat.one_ne_zero, eq_true hc, zsI_o, zsA_i, b36, b34, b35, Bool.false_eq_true]
      rfl
    · have hct : cls v ev pl n p t = true := by rw [hcl]; exact decide_eq_true hc
      rw [cnt_s, hct]
      cases hq : fcq v ev pl n t p with
      | none =>
        have h0 := f5.mpr hq
        have ef : fcq v ev pl n t (p + 1) = some (t, p) := by rw [fcq_s, hq, hct]; rfl
        rw [hx35, hx36, ef]
        simp (disch := omega) only [wb1, wb2, wb3, wb4, wc1, wc2, some_ite, J_lit, J_n1, J_n2, J_add, J_mul, J_lt, J_le, J_eq, J_eN, N_eJ, J_eN2, J_nn, J_lN, N_lJ, J_leN, N_leJ, NN_l0, NN_eN, bJ_0, bJ_1, bJ_ite, zbz_b, zbz_0, zbz_1, zag_J, zas_J, ite_true, ite_false, if_true, if_false, ite_self, reduceIte, not_true_eq_false, not_false_eq_true, J_o, Nat.reduceEqDiff, Nat.reduceAdd, Nat.reduceMul, Nat.reduceSub, Nat.reduceLT, Nat.reduceLeDiff, Nat.one_ne_zero, eq_false hc, zsI_o, zsA_i, b36, b34, b35, h0]
        rw [show cs2 (fun t q => cls v ev pl n q t) (v 1) t + (cnt (fun q => cls v ev pl n q t) p + 1) = 1 by omega]
        rfl
      | some y0 =>
        have h0 : ¬ cs2 (fun t q => cls v ev pl n q t) (v 1) t + cnt (fun q => cls v ev pl n q t) p = 0 := fun z => by rw [f5.mp z] at hq; cases hq
        have ef : fcq v ev pl n t (p + 1) = some y0 := by rw [fcq_s, hq]
        rw [hx35, hx36, ef]
        simp (disch := omega) only [wb1, wb2, wb3, wb4, wc1, wc2, some_ite, J_lit, J_n1, J_n2, J_add, J_mul, J_lt, J_le, J_eq, J_eN, N_eJ, J_eN2, J_nn, J_lN, N_lJ, J_leN, N_leJ, NN_l0, NN_eN, bJ_0, bJ_1, bJ_ite, zbz_b, zbz_0, zbz_1, zag_J, zas_J, ite_true, ite_false, if_true, if_false, ite_self, reduceIte, not_true_eq_false, not_false_eq_true, J_o, Nat.reduceEqDiff, Nat.reduceAdd, Nat.reduceMul, Nat.reduceSub, Nat.reduceLT, Nat.reduceLeDiff, Nat.one_ne_zero, eq_false hc, zsI_o, zsA_i, b36, b34, b35, eq_false h0, hq]
        rfl
  · intro q hq
    obtain ⟨g1, g2, g3⟩ := f1 q hq
    rw [zsI_a, zsI_a, zsI_a, zsA_o (show 31 ≠ 33 by omega), zsA_1, zsA_o (show 32 ≠ 33 by omega), zsA_o (show 32 ≠ 31 by omega), zsA_1]
    by_cases hqp : q = p
    · subst hqp
      rw [upd_1, upd_1, if_pos (by omega), q5, hx1]
      exact ⟨rfl, rfl, rfl⟩
    · rw [upd_o hqp, upd_o hqp, q4.2.1 31 (by omega), q4.2.1 33 (by omega), q4.2.2 q hqp, g1, g2, g3]
      by_cases hlt : q < p
      · rw [if_pos hlt, if_pos (by omega)]; exact ⟨rfl, rfl, rfl⟩
      · rw [if_neg hlt, if_neg (by omega)]; exact ⟨rfl, rfl, rfl⟩
  · rw [zsI_o (by omega), zsI_o (by omega), zsI_1]; exact hx35
  · rw [zsI_o (by omega), zsI_1]; exact hx36
  · rw [cnt_s, fcq_s]
    cases hq : fcq v ev pl n t p with
    | none =>
      have := f5.mpr hq
      cases hc : cls v ev pl n p t
      · simp; omega
      · simp
    | some y0 =>
      have h0 : ¬ cs2 (fun t q => cls v ev pl n q t) (v 1) t + cnt (fun q => cls v ev pl n q t) p = 0 := fun z => by rw [f5.mp z] at hq; cases hq
      simp; omega
theorem isFH_t {v : zV} {M : zMS} {n t : Nat} {ev pl : zEv} (h : isFH v M n ev pl t (v 1)) : isFH v M n ev pl (t + 1) 0 := by
  obtain ⟨f1, f2, f3, f4, f5⟩ := h
  have e1 : fcq v ev pl n (t + 1) 0 = fcq v ev pl n t (v 1) := by
    rw [← fcl_s]
    unfold fcq
    cases fcl v ev pl n (t + 1) <;> rfl
  refine ⟨fun q hq => ?_, by rw [f2]; rfl, by rw [e1]; exact f3, by rw [e1]; exact f4, by rw [e1]; exact f5⟩
  have := f1 q hq
  rw [if_pos hq] at this
  rw [if_neg (by omega)]
  exact this
theorem R_findHeard {M : zMS} {v : zV} (hV : VOK v) {n now : Nat} {ev pl : zEv} (h : RS v M n now ev pl) (hP : PI v n now ev pl) (hn : n ≤ 60) : ∃ M', gX12_findHeard M = some M' ∧ RS v M' n now ev pl ∧ Msame M M' ∧ isFH v M' n ev pl (now + 1) 0 := by
  have h6 := hV.2.2.1
  have hnow := hP.1
  unfold gX12_findHeard
  obtain ⟨m1, e1, q1, q2, q3⟩ := zf2_inv (f := gX12_findHeard_l2) 6 (fun i x m => x = J i ∧ RS v m n now ev pl ∧ Msame M m ∧ ∀ q, q < i → m.2.2 31 q = J 0 ∧ m.2.2 32 q = J 0 ∧ m.2.2 33 q = NN) (fun m => RS v m n now ev pl ∧ Msame M m ∧ ∀ q, q < 6 → m.2.2 31 q = J 0 ∧ m.2.2 32 q = J 0 ∧ m.2.2 33 q = NN) (by
    intro i x m hi hQ F
    obtain ⟨rfl, hR, hms, hz⟩ := hQ
    refine ⟨J (i + 1), zsA (zsA (zsA m 31 (upd (m.2.2 31) i (J 0))) 32 (upd (m.2.2 32) i (J 0))) 33 (upd (m.2.2 33) i NN), ?_, rfl, RS_A (by omega) (RS_A (by omega) (RS_A (by omega) hR)), Msame_t hms (Msame_t (Msame_t (Msame_A (by omega)) (Msame_A (by omega))) (Msame_A (by omega))), fun q hq => ?_⟩
    · simp (disch := omega) only [gX12_findHeard_l2, wb1, wb2, wb3, wb4, wc1, wc2, zb1_ite, zb2_ite, zb3_ite, zb4_ite, zzc1_ite, zzc2_ite, J_lit, J_n1, J_n2, J_add, J_mul, J_lt, J_le, J_eq, J_eN, N_eJ, J_eN2, J_nn, J_lN, N_lJ, J_leN, N_leJ, NN_l0, NN_eN, bJ_0, bJ_1, bJ_ite, zbz_b, zbz_0, zbz_1, zag_J, zas_J, ite_true, ite_false, if_true, if_false, ite_self, reduceIte, not_true_eq_false, not_false_eq_true, J_o, Nat.reduceEqDiff, Nat.reduceAdd, Nat.reduceMul, Nat.reduceSub, Nat.reduceLT, Nat.reduceLeDiff, Nat.one_ne_zero, zsA_o]
      rw [if_neg (by omega)]
    · rw [zsA_o (show 31 ≠ 33 by omega), zsA_o (show 31 ≠ 32 by omega), zsA_1, zsA_o (show 32 ≠ 33 by omega), zsA_1, zsA_1]
      by_cases hqi : q = i
      · subst hqi; rw [upd_1, upd_1, upd_1]; exact ⟨rfl, rfl, rfl⟩
      · rw [upd_o hqi, upd_o hqi, upd_o hqi]; exact hz q (by omega)) (by
    intro x m hQ F
    obtain ⟨rfl, hQ⟩ := hQ
    simp (disch := omega) only [gX12_findHeard_l2, wb1, wb2, wb3, wb4, wc1, wc2, zb1_ite, zb2_ite, zb3_ite, zb4_ite, zzc1_ite, zzc2_ite, J_lit, J_n1, J_n2, J_add, J_mul, J_lt, J_le, J_eq, J_eN, N_eJ, J_eN2, J_nn, J_lN, N_lJ, J_leN, N_leJ, NN_l0, NN_eN, bJ_0, bJ_1, bJ_ite, zbz_b, zbz_0, zbz_1, zag_J, zas_J, ite_true, ite_false, if_true, if_false, ite_self, reduceIte, not_true_eq_false, not_false_eq_true, J_o, Nat.reduceEqDiff, Nat.reduceAdd, Nat.reduceMul, Nat.reduceSub, Nat.reduceLT, Nat.reduceLeDiff, Nat.one_ne_zero]
    exact ⟨m, rfl, hQ⟩) (zfu_lt (n := 6) (by omega)) (x0 := J 0) (x1 := M) ⟨rfl, h, Msame_r, fun q hq => by omega⟩
  have hF0 : isFH v (zsI (zsI (zsI m1 34 (J 0)) 35 NN) 36 NN) n ev pl 0 0 := by
    refine ⟨fun q hq => ?_, ?_, ?_, ?_, ?_⟩
    · rw [if_neg (by omega)]; exact q3 q (by omega)
    · rw [zsI_o (by omega), zsI_o (by omega), zsI_1]; rfl
    · rw [zsI_o (by omega), zsI_1]; rfl
    · rw [zsI_1]; rfl
    · exact ⟨fun _ => rfl, fun _ => rfl⟩
  obtain ⟨m2, e2, r1, r2, r3⟩ := zf2_inv (f := gX12_findHeard_l52) (now + 1) (fun i x m => x = J i ∧ RS v m n now ev pl ∧ Msame M m ∧ isFH v m n ev pl i 0) (fun m => RS v m n now ev pl ∧ Msame M m ∧ isFH v m n ev pl (now + 1) 0) (by
    intro i x m hi hQ F
    obtain ⟨rfl, hR, hms, hf⟩ := hQ
    obtain ⟨m2, e3, s1, s2, s3⟩ := zf2_inv (f := gX12_findHeard_l62 (J i)) (v 1) (fun p x m => x = J p ∧ RS v m n now ev pl ∧ Msame M m ∧ isFH v m n ev pl i p) (fun m => RS v m n now ev pl ∧ Msame M m ∧ isFH v m n ev pl (i + 1) 0) (by
      intro p x m hp hQ G
      obtain ⟨rfl, hR, hms, hf⟩ := hQ
      obtain ⟨m3, e4, t1, t2, t3⟩ := R_heard_p hV hR hP hms hp hn (by omega) hf G
      exact ⟨J (p + 1), m3, e4, rfl, t1, t2, t3⟩) (by
      intro x m hQ G
      obtain ⟨rfl, hR, hms, hf⟩ := hQ
      refine ⟨m, ?_, hR, hms, isFH_t hf⟩
      unfold gX12_findHeard_l62
      rw [R_p hR.1, if_pos (show J (v 1) ≤ J (v 1) by rw [J_le (by omega) (by omega)]; omega)]) (zfu_lt (n := (v 1 : Nat)) (by omega)) (x0 := J 0) (x1 := m) ⟨rfl, hR, hms, hf⟩
    refine ⟨J (i + 1), m2, ?_, rfl, s1, s2, s3⟩
    unfold gX12_findHeard_l52
    rw [hR.2.2.1]
    simp (disch := omega) only [wb1, wb2, wb3, wb4, wc1, wc2, zb1_ite, zb2_ite, zb3_ite, zb4_ite, zzc1_ite, zzc2_ite, J_lit, J_n1, J_n2, J_add, J_mul, J_lt, J_le, J_eq, J_eN, N_eJ, J_eN2, J_nn, J_lN, N_lJ, J_leN, N_leJ, NN_l0, NN_eN, bJ_0, bJ_1, bJ_ite, zbz_b, zbz_0, zbz_1, zag_J, zas_J, ite_true, ite_false, if_true, if_false, ite_self, reduceIte, not_true_eq_false, not_false_eq_true, J_o, Nat.reduceEqDiff, Nat.reduceAdd, Nat.reduceMul, Nat.reduceSub, Nat.reduceLT, Nat.reduceLeDiff, Nat.one_ne_zero, e3]
    rw [if_neg (by omega)]) (by
    intro x m hQ F
    obtain ⟨rfl, hR, hQ⟩ := hQ
    unfold gX12_findHeard_l52
    rw [hR.2.2.1]
    simp (disch := omega) only [wb1, wb2, wb3, wb4, wc1, wc2, zb1_ite, zb2_ite, zb3_ite, zb4_ite, zzc1_ite, zzc2_ite, J_lit, J_n1, J_n2, J_add, J_mul, J_lt, J_le, J_eq, J_eN, N_eJ, J_eN2, J_nn, J_lN, N_lJ, J_leN, N_leJ, NN_l0, NN_eN, bJ_0, bJ_1, bJ_ite, zbz_b, zbz_0, zbz_1, zag_J, zas_J, ite_true, ite_false, if_true, if_false, ite_self, reduceIte, not_true_eq_false, not_false_eq_true, J_o, Nat.reduceEqDiff, Nat.reduceAdd, Nat.reduceMul, Nat.reduceSub, Nat.reduceLT, Nat.reduceLeDiff, Nat.one_ne_zero]
    rw [if_pos (by omega)]
    exact ⟨m, rfl, hR, hQ⟩) (zfu_lt (n := now + 1) (by omega)) (x0 := J 0) (x1 := zsI (zsI (zsI m1 34 (J 0)) 35 NN) 36 NN) ⟨rfl, RS_I (by omega) (RS_I (by omega) (RS_I (by omega) q1)), Msame_t q2 (Msame_t Msame_I (Msame_t Msame_I Msame_I)), hF0⟩
  refine ⟨m2, ?_, r1, r2, r3⟩
  refine (congrArg (zb1 · _) e1).trans ?_
  show zb1 (zf2 gX12_findHeard_l52 zfu (J 0) (zsI (zsI (zsI m1 34 (J 0)) 35 NN) 36 NN)) _ = _
  rw [e2]
  rfl
