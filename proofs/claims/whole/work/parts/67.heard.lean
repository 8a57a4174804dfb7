/-! who has heard what: the class -/
theorem evb_0 {v : zV} {ev pl : zEv} {k p t : Nat} : ∀ j, evb v ev pl k p t j = 0 ↔ evc v ev pl k p t j = 0
  | 0 => Iff.rfl
  | j + 1 => by
    rw [evb_s, evc_s, Nat.or_eq_zero_iff, evb_0 j]
    cases h : hbt v ev pl k p t j with
    | none => simp [b2]
    | some x =>
      have : 2 ^ x ≠ 0 := Nat.pos_iff_ne_zero.mp (Nat.two_pow_pos x)
      simp [b2, this]
theorem wds_0 {v : zV} {ev pl : zEv} {p t : Nat} : ∀ n, wds v ev pl p t n = 0 ↔ hrs v ev pl p t n = 0
  | 0 => Iff.rfl
  | n + 1 => by
    rw [wds_s, hrs_s, Nat.or_eq_zero_iff, wds_0 n, evb_0 3]
    omega
/-- the sums -/
def wal2 (v : zV) (ev pl : zEv) (n p : Nat) : Nat → Nat := itr (fun t x => x ||| wds v ev pl p t n) 0
def oft (v : zV) (ev pl : zEv) (n p : Nat) : Nat → Nat := itr (fun t x => x + hrs v ev pl p t n) 0
def cls (v : zV) (ev pl : zEv) (n p t : Nat) : Bool := decide (1 < pop8 (wds v ev pl p t n))
def hrd2 (v : zV) (ev pl : zEv) (n p t : Nat) : Bool := decide (0 < hrs v ev pl p t n)
def cs2 (f : Nat → Nat → Bool) (B : Nat) : Nat → Nat := itr (fun p x => x + cnt (f p) B) 0
theorem cs2_s {f : Nat → Nat → Bool} {B A : Nat} : cs2 f B (A + 1) = cs2 f B A + cnt (f A) B := rfl
theorem cs2_le {f : Nat → Nat → Bool} {B : Nat} : ∀ A, cs2 f B A ≤ B * A
  | 0 => Nat.zero_le _
  | A + 1 => by have := cs2_le (f := f) (B := B) A; have := cnt_le (p := f A) B; rw [cs2_s, Nat.mul_succ]; omega
theorem cs2_B {f : Nat → Nat → Bool} {B : Nat} : ∀ A, cs2 f (B + 1) A = cs2 f B A + cnt (fun p => f p B) A
  | 0 => rfl
  | A + 1 => by rw [cs2_s, cs2_s, cs2_B A, cnt_s (n := B), cnt_s (n := A)]; omega
theorem cs2_0 {f : Nat → Nat → Bool} : ∀ A, cs2 f 0 A = 0
  | 0 => rfl
  | A + 1 => by rw [cs2_s, cs2_0 A]; rfl
theorem cs2_sw {f : Nat → Nat → Bool} {A : Nat} : ∀ B, cs2 f B A = cs2 (fun t p => f p t) A B
  | 0 => cs2_0 A
  | B + 1 => by rw [cs2_B, cs2_sw B, cs2_s]
theorem C_isClash {v : zV} {U : zCS} {c n now p t : Nat} {ev pl : zEv} (hV : VOK v) (h : CSr v U c n now ev pl) (hP : PI v n now ev pl) (hp : p < (v 1 : Nat)) (ht : t < 100) : gX1_isClash U c (J p) (J t) = some (bJ (cls v ev pl n p t)) := by
  have h6 := hV.2.2.1
  have hw := wds_lt hV (p := p) (t := t) (pl := pl) (N := n) (fun k hk => (hP.2.1 k hk).2.1) n (Nat.le_refl _)
  have e := (h.2.2.2 p hp t ht).1
  rw [Nat.mul_comm] at e
  unfold gX1_isClash cls
  have hp8 : pop8 (wds v ev pl p t n) ≤ 8 := cnt_le 8
  simp (disch := omega) only [wb1, wb2, wb3, wb4, wc1, wc2, zb1_ite, zb2_ite, zb3_ite, zb4_ite, zzc1_ite, zzc2_ite, J_lit, J_n1, J_n2, J_add, J_mul, J_lt, J_le, J_eq, J_eN, N_eJ, J_eN2, J_nn, J_lN, N_lJ, J_leN, N_leJ, NN_l0, NN_eN, bJ_0, bJ_1, bJ_ite, zbz_b, zbz_0, zbz_1, zag_J, zas_J, ite_true, ite_false, if_true, if_false, ite_self, reduceIte, not_true_eq_false, not_false_eq_true, J_o, Nat.reduceEqDiff, Nat.reduceAdd, Nat.reduceMul, Nat.reduceSub, Nat.reduceLT, Nat.reduceLeDiff, Nat.one_ne_zero, e, C_bitCount]
  by_cases hc : 1 < pop8 (wds v ev pl p t n)
  · simp [hc, Nat.not_le.mpr hc, bJ]
  · simp [hc, Nat.not_lt.mp hc, bJ]
theorem C_clashes {v : zV} {U : zCS} {a c n now : Nat} {ev pl : zEv} (hV : VOK v) (hv : isVal U a v) (h : CSr v U c n now ev pl) (hP : PI v n now ev pl) : gX1_clashes U c a = some (J (cs2 (cls v ev pl n) (now + 1) (v 1))) := by
  have h6 := hV.2.2.1
  have hnow := hP.1
  have inn : ∀ p acc, p < (v 1 : Nat) → zf2 (gX1_clashes_l15 U c (J p)) zfu (J acc) (J 0) = some (J (acc + cnt (cls v ev pl n p) (now + 1))) := fun p acc hp =>
    zf2_run (f := gX1_clashes_l15 U c (J p)) (now + 1) (fun i => J (acc + cnt (cls v ev pl n p) i)) J (by
      intro i hi F
      rw [cnt_s]
      unfold gX1_clashes_l15
      rw [h.1]
      simp (disch := omega) only [wb1, wb2, wb3, wb4, wc1, wc2, zb1_ite, zb2_ite, zb3_ite, zb4_ite, zzc1_ite, zzc2_ite, J_lit, J_n1, J_n2, J_add, J_mul, J_lt, J_le, J_eq, J_eN, N_eJ, J_eN2, J_nn, J_lN, N_lJ, J_leN, N_leJ, NN_l0, NN_eN, bJ_0, bJ_1, bJ_ite, zbz_b, zbz_0, zbz_1, zag_J, zas_J, ite_true, ite_false, if_true, if_false, ite_self, reduceIte, not_true_eq_false, not_false_eq_true, J_o, Nat.reduceEqDiff, Nat.reduceAdd, Nat.reduceMul, Nat.reduceSub, Nat.reduceLT, Nat.reduceLeDiff, Nat.one_ne_zero, C_isClash hV h hP]
      rw [if_neg (by omega)]
      cases cls v ev pl n p i <;> simp [Nat.add_assoc]) (by
      intro F
      unfold gX1_clashes_l15
      rw [h.1]
      simp (disch := omega) only [wb1, wb2, wb3, wb4, wc1, wc2, zb1_ite, zb2_ite, zb3_ite, zb4_ite, zzc1_ite, zzc2_ite, J_lit, J_n1, J_n2, J_add, J_mul, J_lt, J_le, J_eq, J_eN, N_eJ, J_eN2, J_nn, J_lN, N_lJ, J_leN, N_leJ, NN_l0, NN_eN, bJ_0, bJ_1, bJ_ite, zbz_b, zbz_0, zbz_1, zag_J, zas_J, ite_true, ite_false, if_true, if_false, ite_self, reduceIte, not_true_eq_false, not_false_eq_true, J_o, Nat.reduceEqDiff, Nat.reduceAdd, Nat.reduceMul, Nat.reduceSub, Nat.reduceLT, Nat.reduceLeDiff, Nat.one_ne_zero]
      rw [if_pos (by omega)]) (zfu_lt (by omega))
  unfold gX1_clashes
  have hze := zf2_run (f := gX1_clashes_l4 U a c) (r := some (J (cs2 (cls v ev pl n) (now + 1) (v 1)))) (v 1) (fun i => J (cs2 (cls v ev pl n) (now + 1) i)) J (by
    intro i hi F
    simp (disch := omega) only [gX1_clashes_l4, wb1, wb2, wb3, wb4, wc1, wc2, zb1_ite, zb2_ite, zb3_ite, zb4_ite, zzc1_ite, zzc2_ite, J_lit, J_n1, J_n2, J_add, J_mul, J_lt, J_le, J_eq, J_eN, N_eJ, J_eN2, J_nn, J_lN, N_lJ, J_leN, N_leJ, NN_l0, NN_eN, bJ_0, bJ_1, bJ_ite, zbz_b, zbz_0, zbz_1, zag_J, zas_J, ite_true, ite_false, if_true, if_false, ite_self, reduceIte, not_true_eq_false, not_false_eq_true, J_o, Nat.reduceEqDiff, Nat.reduceAdd, Nat.reduceMul, Nat.reduceSub, Nat.reduceLT, Nat.reduceLeDiff, Nat.one_ne_zero, V_p hv, inn i _ hi]
    rw [if_neg (by omega)]
    rfl) (by
    intro F
    simp (disch := omega) only [gX1_clashes_l4, wb1, wb2, wb3, wb4, wc1, wc2, zb1_ite, zb2_ite, zb3_ite, zb4_ite, zzc1_ite, zzc2_ite, J_lit, J_n1, J_n2, J_add, J_mul, J_lt, J_le, J_eq, J_eN, N_eJ, J_eN2, J_nn, J_lN, N_lJ, J_leN, N_leJ, NN_l0, NN_eN, bJ_0, bJ_1, bJ_ite, zbz_b, zbz_0, zbz_1, zag_J, zas_J, ite_true, ite_false, if_true, if_false, ite_self, reduceIte, not_true_eq_false, not_false_eq_true, J_o, Nat.reduceEqDiff, Nat.reduceAdd, Nat.reduceMul, Nat.reduceSub, Nat.reduceLT, Nat.reduceLeDiff, Nat.one_ne_zero, V_p hv]
    simp) (zfu_lt (by omega))
  exact (congrArg (zb1 · fun x => some x) hze)
/-- the first clash -/
def fcl (v : zV) (ev pl : zEv) (n T : Nat) : Option (Nat × Nat) := match fstI (fun t => (fstI (fun p => cls v ev pl n p t) (v 1)).isSome) T with
  | none => none
  | some t => (fstI (fun p => cls v ev pl n p t) (v 1)).map (fun p => (t, p))
theorem C_firstClash {v : zV} {U : zCS} {a c n now w : Nat} {ev pl : zEv} (hV : VOK v) (hv : isVal U a v) (h : CSr v U c n now ev pl) (hP : PI v n now ev pl) (hw : w < 2) : gX1_firstClash U c a (J w) = some (oJ ((fcl v ev pl n (now + 1)).map (fun q => if w = 0 then q.2 else q.1))) := by
  have h6 := hV.2.2.1
  have hnow := hP.1
  have inn : ∀ t F, t < 100 → zf1 (gX1_firstClash_l13 U a F (J t) c (J w)) zfu (J 0) = match fstI (fun p => cls v ev pl n p t) (v 1) with
      | some p => some (J (if w = 0 then p else t))
      | none => F (J (t + 1)) := fun t F ht =>
    zf1_find (f := gX1_firstClash_l13 U a F (J t) c (J w)) (v 1) (fun p => cls v ev pl n p t) _ _ (by omega) (by
      intro i hi hq G
      simp (disch := omega) only [gX1_firstClash_l13, wb1, wb2, wb3, wb4, wc1, wc2, zb1_ite, zb2_ite, zb3_ite, zb4_ite, zzc1_ite, zzc2_ite, J_lit, J_n1, J_n2, J_add, J_mul, J_lt, J_le, J_eq, J_eN, N_eJ, J_eN2, J_nn, J_lN, N_lJ, J_leN, N_leJ, NN_l0, NN_eN, bJ_0, bJ_1, bJ_ite, zbz_b, zbz_0, zbz_1, zag_J, zas_J, ite_true, ite_false, if_true, if_false, ite_self, reduceIte, not_true_eq_false, not_false_eq_true, J_o, Nat.reduceEqDiff, Nat.reduceAdd, Nat.reduceMul, Nat.reduceSub, Nat.reduceLT, Nat.reduceLeDiff, Nat.one_ne_zero, V_p hv, C_isClash hV h hP, hq]
      rw [if_neg (by omega)]) (by
      intro i hi hq G
      simp (disch := omega) only [gX1_firstClash_l13, wb1, wb2, wb3, wb4, wc1, wc2, zb1_ite, zb2_ite, zb3_ite, zb4_ite, zzc1_ite, zzc2_ite, J_lit, J_n1, J_n2, J_add, J_mul, J_lt, J_le, J_eq, J_eN, N_eJ, J_eN2, J_nn, J_lN, N_lJ, J_leN, N_leJ, NN_l0, NN_eN, bJ_0, bJ_1, bJ_ite, zbz_b, zbz_0, zbz_1, zag_J, zas_J, ite_true, ite_false, if_true, if_false, ite_self, reduceIte, not_true_eq_false, not_false_eq_true, J_o, Nat.reduceEqDiff, Nat.reduceAdd, Nat.reduceMul, Nat.reduceSub, Nat.reduceLT, Nat.reduceLeDiff, Nat.one_ne_zero, V_p hv, C_isClash hV h hP, hq]
      rw [if_neg (by omega)]
      by_cases hw0 : w = 0 <;> simp [hw0]) (by
      intro G
      simp (disch := omega) only [gX1_firstClash_l13, wb1, wb2, wb3, wb4, wc1, wc2, zb1_ite, zb2_ite, zb3_ite, zb4_ite, zzc1_ite, zzc2_ite, J_lit, J_n1, J_n2, J_add, J_mul, J_lt, J_le, J_eq, J_eN, N_eJ, J_eN2, J_nn, J_lN, N_lJ, J_leN, N_leJ, NN_l0, NN_eN, bJ_0, bJ_1, bJ_ite, zbz_b, zbz_0, zbz_1, zag_J, zas_J, ite_true, ite_false, if_true, if_false, ite_self, reduceIte, not_true_eq_false, not_false_eq_true, J_o, Nat.reduceEqDiff, Nat.reduceAdd, Nat.reduceMul, Nat.reduceSub, Nat.reduceLT, Nat.reduceLeDiff, Nat.one_ne_zero, V_p hv]
      simp)
  unfold gX1_firstClash fcl
  refine (zf1_find (f := gX1_firstClash_l2 U c a (J w)) (now + 1) (fun t => (fstI (fun p => cls v ev pl n p t) (v 1)).isSome) (fun t => match fstI (fun p => cls v ev pl n p t) (v 1) with | some p => some (J (if w = 0 then p else t)) | none => none) (some NN) (by omega) ?_ ?_ ?_).trans ?_
  · intro i hi hq F
    unfold gX1_firstClash_l2
    rw [h.1]
    simp (disch := omega) only [wb1, wb2, wb3, wb4, wc1, wc2, zb1_ite, zb2_ite, zb3_ite, zb4_ite, zzc1_ite, zzc2_ite, J_lit, J_n1, J_n2, J_add, J_mul, J_lt, J_le, J_eq, J_eN, N_eJ, J_eN2, J_nn, J_lN, N_lJ, J_leN, N_leJ, NN_l0, NN_eN, bJ_0, bJ_1, bJ_ite, zbz_b, zbz_0, zbz_1, zag_J, zas_J, ite_true, ite_false, if_true, if_false, ite_self, reduceIte, not_true_eq_false, not_false_eq_true, J_o, Nat.reduceEqDiff, Nat.reduceAdd, Nat.reduceMul, Nat.reduceSub, Nat.reduceLT, Nat.reduceLeDiff, Nat.one_ne_zero, inn i F (by omega)]
    rw [if_neg (by omega)]
    cases hf : fstI (fun p => cls v ev pl n p i) (v 1) with
    | none => rfl
    | some p => rw [hf] at hq; cases hq
  · intro i hi hq F
    unfold gX1_firstClash_l2
    rw [h.1]
    simp (disch := omega) only [wb1, wb2, wb3, wb4, wc1, wc2, zb1_ite, zb2_ite, zb3_ite, zb4_ite, zzc1_ite, zzc2_ite, J_lit, J_n1, J_n2, J_add, J_mul, J_lt, J_le, J_eq, J_eN, N_eJ, J_eN2, J_nn, J_lN, N_lJ, J_leN, N_leJ, NN_l0, NN_eN, bJ_0, bJ_1, bJ_ite, zbz_b, zbz_0, zbz_1, zag_J, zas_J, ite_true, ite_false, if_true, if_false, ite_self, reduceIte, not_true_eq_false, not_false_eq_true, J_o, Nat.reduceEqDiff, Nat.reduceAdd, Nat.reduceMul, Nat.reduceSub, Nat.reduceLT, Nat.reduceLeDiff, Nat.one_ne_zero, inn i F (by omega)]
    rw [if_neg (by omega)]
    cases hf : fstI (fun p => cls v ev pl n p i) (v 1) with
    | none => rw [hf] at hq; cases hq
    | some p => rfl
  · intro F
    unfold gX1_firstClash_l2
    rw [h.1]
    simp (disch := omega) only [wb1, wb2, wb3, wb4, wc1, wc2, zb1_ite, zb2_ite, zb3_ite, zb4_ite, zzc1_ite, zzc2_ite, J_lit, J_n1, J_n2, J_add, J_mul, J_lt, J_le, J_eq, J_eN, N_eJ, J_eN2, J_nn, J_lN, N_lJ, J_leN, N_leJ, NN_l0, NN_eN, bJ_0, bJ_1, bJ_ite, zbz_b, zbz_0, zbz_1, zag_J, zas_J, ite_true, ite_false, if_true, if_false, ite_self, reduceIte, not_true_eq_false, not_false_eq_true, J_o, Nat.reduceEqDiff, Nat.reduceAdd, Nat.reduceMul, Nat.reduceSub, Nat.reduceLT, Nat.reduceLeDiff, Nat.one_ne_zero]
    rw [if_pos (by omega)]
  · cases hf : fstI (fun t => (fstI (fun p => cls v ev pl n p t) (v 1)).isSome) (now + 1) with
    | none => rfl
    | some t =>
      have := (fstI_s hf).2.1
      cases hg : fstI (fun p => cls v ev pl n p t) (v 1) with
      | none => rw [hg] at this; cases this
      | some p => simp [hg, oJ]
theorem wal2_lt {v : zV} (hV : VOK v) {ev pl : zEv} {n now p : Nat} (hP : PI v n now ev pl) : ∀ i, wal2 v ev pl n p i < 256 := itr_i (P := fun _ x => x < 256) (by omega) (fun i x hx => or_256 hx (wds_lt hV (N := n) (fun k hk => (hP.2.1 k hk).2.1) n (Nat.le_refl _)))
theorem oft_le {v : zV} {ev pl : zEv} {n p : Nat} : ∀ i, oft v ev pl n p i ≤ 3 * n * i
  | 0 => Nat.zero_le _
  | i + 1 => by
    have h1 := oft_le (v := v) (ev := ev) (pl := pl) (n := n) (p := p) i
    have h2 := hrs_le (v := v) (ev := ev) (pl := pl) (p := p) (t := i) n
    show oft v ev pl n p i + hrs v ev pl p i n ≤ _
    rw [Nat.mul_succ]; omega
theorem C_wordsHeard {v : zV} {U : zCS} {c n now p : Nat} {ev pl : zEv} (hV : VOK v) (h : CSr v U c n now ev pl) (hP : PI v n now ev pl) (hp : p < (v 1 : Nat)) : gX1_wordsHeard U c (J p) = some (J (wal2 v ev pl n p (now + 1))) := by
  have h6 := hV.2.2.1
  have hnow := hP.1
  unfold gX1_wordsHeard
  have hze := zf2_run (f := gX1_wordsHeard_l4 U c (J p)) (r := some (J (wal2 v ev pl n p (now + 1)))) (now + 1) (fun i => J (wal2 v ev pl n p i)) J (by
    intro i hi F
    have e := (h.2.2.2 p hp i (by omega)).1
    rw [Nat.mul_comm] at e
    unfold gX1_wordsHeard_l4
    rw [h.1]
    simp (disch := omega) only [wb1, wb2, wb3, wb4, wc1, wc2, zb1_ite, zb2_ite, zb3_ite, zb4_ite, zzc1_ite, zzc2_ite, J_lit, J_n1, J_n2, J_add, J_mul, J_lt, J_le, J_eq, J_eN, N_eJ, J_eN2, J_nn, J_lN, N_lJ, J_leN, N_leJ, NN_l0, NN_eN, bJ_0, bJ_1, bJ_ite, zbz_b, zbz_0, zbz_1, zag_J, zas_J, ite_true, ite_false, if_true, if_false, ite_self, reduceIte, not_true_eq_false, not_false_eq_true, J_o, Nat.reduceEqDiff, Nat.reduceAdd, Nat.reduceMul, Nat.reduceSub, Nat.reduceLT, Nat.reduceLeDiff, Nat.one_ne_zero, e, J_or]
    rw [if_neg (by omega)]
    rfl) (by
    intro F
    unfold gX1_wordsHeard_l4
    rw [h.1]
    simp (disch := omega) only [wb1, wb2, wb3, wb4, wc1, wc2, zb1_ite, zb2_ite, zb3_ite, zb4_ite, zzc1_ite, zzc2_ite, J_lit, J_n1, J_n2, J_add, J_mul, J_lt, J_le, J_eq, J_eN, N_eJ, J_eN2, J_nn, J_lN, N_lJ, J_leN, N_leJ, NN_l0, NN_eN, bJ_0, bJ_1, bJ_ite, zbz_b, zbz_0, zbz_1, zag_J, zas_J, ite_true, ite_false, if_true, if_false, ite_self, reduceIte, not_true_eq_false, not_false_eq_true, J_o, Nat.reduceEqDiff, Nat.reduceAdd, Nat.reduceMul, Nat.reduceSub, Nat.reduceLT, Nat.reduceLeDiff, Nat.one_ne_zero]
    rw [if_pos (by omega)]) (zfu_lt (by omega))
  exact (congrArg (zb1 · fun x => some x) hze)
theorem C_howOften {v : zV} {U : zCS} {c n now p : Nat} {ev pl : zEv} (hV : VOK v) (h : CSr v U c n now ev pl) (hP : PI v n now ev pl) (hp : p < (v 1 : Nat)) : gX1_howOften U c (J p) = some (J (oft v ev pl n p (now + 1))) := by
  have h6 := hV.2.2.1
  have hnow := hP.1
  unfold gX1_howOften
  have hze := zf2_run (f := gX1_howOften_l4 U c (J p)) (r := some (J (oft v ev pl n p (now + 1)))) (now + 1) (fun i => J (oft v ev pl n p i)) J (by
    intro i hi F
    have e := (h.2.2.2 p hp i (by omega)).2
    rw [Nat.mul_comm] at e
    unfold gX1_howOften_l4
    rw [h.1]
    simp (disch := omega) only [wb1, wb2, wb3, wb4, wc1, wc2, zb1_ite, zb2_ite, zb3_ite, zb4_ite, zzc1_ite, zzc2_ite, J_lit, J_n1, J_n2, J_add, J_mul, J_lt, J_le, J_eq, J_eN, N_eJ, J_eN2, J_nn, J_lN, N_lJ, J_leN, N_leJ, NN_l0, NN_eN, bJ_0, bJ_1, bJ_ite, zbz_b, zbz_0, zbz_1, zag_J, zas_J, ite_true, ite_false, if_true, if_false, ite_self, reduceIte, not_true_eq_false, not_false_eq_true, J_o, Nat.reduceEqDiff, Nat.reduceAdd, Nat.reduceMul, Nat.reduceSub, Nat.reduceLT, Nat.reduceLeDiff, Nat.one_ne_zero, e]
    rw [if_neg (by omega)]
    rfl) (by
    intro F
    unfold gX1_howOften_l4
    rw [h.1]
    simp (disch := omega) only [wb1, wb2, wb3, wb4, wc1, wc2, zb1_ite, zb2_ite, zb3_ite, zb4_ite, zzc1_ite, zzc2_ite, J_lit, J_n1, J_n2, J_add, J_mul, J_lt, J_le, J_eq, J_eN, N_eJ, J_eN2, J_nn, J_lN, N_lJ, J_leN, N_leJ, NN_l0, NN_eN, bJ_0, bJ_1, bJ_ite, zbz_b, zbz_0, zbz_1, zag_J, zas_J, ite_true, ite_false, if_true, if_false, ite_self, reduceIte, not_true_eq_false, not_false_eq_true, J_o, Nat.reduceEqDiff, Nat.reduceAdd, Nat.reduceMul, Nat.reduceSub, Nat.reduceLT, Nat.reduceLeDiff, Nat.one_ne_zero]
    rw [if_pos (by omega)]) (zfu_lt (by omega))
  exact (congrArg (zb1 · fun x => some x) hze)
theorem C_firstHearing {v : zV} {U : zCS} {c n now p : Nat} {ev pl : zEv} (hV : VOK v) (h : CSr v U c n now ev pl) (hP : PI v n now ev pl) (hp : p < (v 1 : Nat)) (hn : n ≤ 60) : gX1_firstHearing U c (J p) = some (oJ (fstI (hrd2 v ev pl n p) (now + 1))) := by
  have h6 := hV.2.2.1
  have hnow := hP.1
  unfold gX1_firstHearing
  have stp : ∀ i F, i < now + 1 → gX1_firstHearing_l2 U c (J p) F (J i) = if hrd2 v ev pl n p i = true then some (J i) else F (J (i + 1)) := by
    intro i F hi
    have e := (h.2.2.2 p hp i (by omega)).2
    have hl := hrs_le (v := v) (ev := ev) (pl := pl) (p := p) (t := i) n
    rw [Nat.mul_comm] at e
    unfold gX1_firstHearing_l2 hrd2
    rw [h.1]
    simp (disch := omega) only [wb1, wb2, wb3, wb4, wc1, wc2, zb1_ite, zb2_ite, zb3_ite, zb4_ite, zzc1_ite, zzc2_ite, J_lit, J_n1, J_n2, J_add, J_mul, J_lt, J_le, J_eq, J_eN, N_eJ, J_eN2, J_nn, J_lN, N_lJ, J_leN, N_leJ, NN_l0, NN_eN, bJ_0, bJ_1, bJ_ite, zbz_b, zbz_0, zbz_1, zag_J, zas_J, ite_true, ite_false, if_true, if_false, ite_self, reduceIte, not_true_eq_false, not_false_eq_true, J_o, Nat.reduceEqDiff, Nat.reduceAdd, Nat.reduceMul, Nat.reduceSub, Nat.reduceLT, Nat.reduceLeDiff, Nat.one_ne_zero, e]
    rw [if_neg (by omega)]
    by_cases hc : 0 < hrs v ev pl p i n
    · rw [if_neg (by omega), if_pos (decide_eq_true hc)]
    · rw [if_pos (by omega), if_neg (by rw [decide_eq_false hc]; exact Bool.false_ne_true)]
  refine (zf1_find (f := gX1_firstHearing_l2 U c (J p)) (now + 1) (hrd2 v ev pl n p) (fun i => some (J i)) (some NN) (by omega) (fun i hi hq F => by rw [stp i F hi, if_neg (by rw [hq]; exact Bool.false_ne_true)]) (fun i hi hq F => by rw [stp i F hi, if_pos hq]) ?_).trans ?_
  · intro F
    unfold gX1_firstHearing_l2
    rw [h.1]
    simp (disch := omega) only [wb1, wb2, wb3, wb4, wc1, wc2, zb1_ite, zb2_ite, zb3_ite, zb4_ite, zzc1_ite, zzc2_ite, J_lit, J_n1, J_n2, J_add, J_mul, J_lt, J_le, J_eq, J_eN, N_eJ, J_eN2, J_nn, J_lN, N_lJ, J_leN, N_leJ, NN_l0, NN_eN, bJ_0, bJ_1, bJ_ite, zbz_b, zbz_0, zbz_1, zag_J, zas_J, ite_true, ite_false, if_true, if_false, ite_self, reduceIte, not_true_eq_false, not_false_eq_true, J_o, Nat.reduceEqDiff, Nat.reduceAdd, Nat.reduceMul, Nat.reduceSub, Nat.reduceLT, Nat.reduceLeDiff, Nat.one_ne_zero]
    rw [if_pos (by omega)]
  · cases fstI (hrd2 v ev pl n p) (now + 1) <;> rfl
/-! the reference -/
theorem RS_A {v : zV} {M : zMS} {n now k : Nat} {ev pl : zEv} {g : Nat → Int32} (hk : k ≠ 6 ∧ k ≠ 27 ∧ k ≠ 28) (h : RS v M n now ev pl) : RS v (zsA M k g) n now ev pl :=
  ⟨isMV_A hk.1 h.1, h.2.1, h.2.2.1, by rw [zsA_o (Ne.symm hk.2.2)]; exact h.2.2.2.1, by rw [zsA_o (Ne.symm hk.2.1)]; exact h.2.2.2.2⟩
theorem RS_I {v : zV} {M : zMS} {n now k : Nat} {ev pl : zEv} {x : Int32} (hk : k ≠ 23 ∧ k ≠ 24 ∧ k ≠ 25 ∧ k ≠ 29 ∧ k ≠ 30) (h : RS v M n now ev pl) : RS v (zsI M k x) n now ev pl :=
  ⟨isMV_I ⟨hk.1, hk.2.1, hk.2.2.1⟩ h.1, by rw [zsI_o (Ne.symm hk.2.2.2.1)]; exact h.2.1, by rw [zsI_o (Ne.symm hk.2.2.2.2)]; exact h.2.2.1, h.2.2.2.1, h.2.2.2.2⟩
/-- all but how often one has heard -/
def Mof (m m' : zMS) (p : Nat) : Prop := m'.1 = m.1 ∧ (∀ j, j ≠ 32 → m'.2.2 j = m.2.2 j) ∧ ∀ q, q ≠ p → m'.2.2 32 q = m.2.2 32 q
theorem wby_v {v : zV} {w m : Nat} : wby v w m 0 = some w := by
  unfold wby mute
  have := @jdg_le v m
  simp
  omega
theorem R_hears {M M0 : zMS} {v : zV} (hV : VOK v) {n now p t k : Nat} {ev pl : zEv} (h : RS v M n now ev pl) (hP : PI v n now ev pl) (hs : Msame M0 M) (hp : p < (v 1 : Nat)) (hk : k < n) (hn : n ≤ 60) (ht : t < 100) {x : Nat} (hx : M.2.2 32 p = J x) : ∃ M', gX12_hears M (J p) (J t) (J k) = some (J (evb v ev pl k p t 3), M') ∧ RS v M' n now ev pl ∧ Msame M0 M' ∧ Mof M M' p ∧ M'.2.2 32 p = J (x + evc v ev pl k p t 3) := by
  have h6 := hV.2.2.1
  have hnow := hP.1
  obtain ⟨g0, g1, g2, g3, g4⟩ := hP.2.1 k hk
  have hpl := hP.2.2 p hp (ev k 3) g3
  have e28 := h.2.2.2.1 k hk
  have e27 := h.2.2.2.2 p hp (ev k 3) g3
  unfold gX12_hears
  simp (disch := omega) only [wb1, wb2, wb3, wb4, wc1, wc2, zb1_ite, zb2_ite, zb3_ite, zb4_ite, zzc1_ite, zzc2_ite, J_lit, J_n1, J_n2, J_add, J_mul, J_lt, J_le, J_eq, J_eN, N_eJ, J_eN2, J_nn, J_lN, N_lJ, J_leN, N_leJ, NN_l0, NN_eN, bJ_0, bJ_1, bJ_ite, zbz_b, zbz_0, zbz_1, zag_J, zas_J, ite_true, ite_false, if_true, if_false, ite_self, reduceIte, not_true_eq_false, not_false_eq_true, J_o, Nat.reduceEqDiff, Nat.reduceAdd, Nat.reduceMul, Nat.reduceSub, Nat.reduceLT, Nat.reduceLeDiff, Nat.one_ne_zero, e28 3 (by omega), e27]
  obtain ⟨r, hr, q1, q2, q3, q4, q5⟩ := zf3_inv (f := gX12_hears_l32 (J k) (J p) (J (ev k 3)) (J (pl p (ev k 3))) (J t)) 3 (fun b s y m => s = J (evb v ev pl k p t b) ∧ y = J b ∧ RS v m n now ev pl ∧ Msame M0 m ∧ Mof M m p ∧ m.2.2 32 p = J (x + evc v ev pl k p t b)) (fun r => r.1 = J (evb v ev pl k p t 3) ∧ RS v r.2 n now ev pl ∧ Msame M0 r.2 ∧ Mof M r.2 p ∧ r.2.2.2 32 p = J (x + evc v ev pl k p t 3)) (by
    intro b s y m hb hQ F
    obtain ⟨rfl, rfl, hR, hms, hmo, hmx⟩ := hQ
    have m28 := hR.2.2.2.1 k hk
    have he : hbt v ev pl k p t b = if b = 0 ∧ ev k 4 = p then none else if arr v (ev k 0) (ev k 1) (ev k 2) (ev k 3) (pl p (ev k 3)) b = some t then wby v (ev k 1) (ev k 3) b else none := rfl
    have m28' : m.2.2 28 (5 * k) = J (ev k 0) := by have := m28 0 (by omega); rwa [Nat.add_zero] at this
    by_cases hown : b = 0 ∧ ev k 4 = p
    · refine ⟨J (evb v ev pl k p t (b + 1)), J (b + 1), m, ?_, rfl, rfl, hR, hms, hmo, ?_⟩
      · rw [evb_s, he, if_pos hown]
        simp (disch := omega) only [gX12_hears_l32, gX12_hears_b61, wb1, wb2, wb3, wb4, wc1, wc2, zb1_ite, zb2_ite, zb3_ite, zb4_ite, zzc1_ite, zzc2_ite, J_lit, J_n1, J_n2, J_add, J_mul, J_lt, J_le, J_eq, J_eN, N_eJ, J_eN2, J_nn, J_lN, N_lJ, J_leN, N_leJ, NN_l0, NN_eN, bJ_0, bJ_1, bJ_ite, zbz_b, zbz_0, zbz_1, zag_J, zas_J, ite_true, ite_false, if_true, if_false, ite_self, reduceIte, not_true_eq_false, not_false_eq_true, J_o, Nat.reduceEqDiff, Nat.reduceAdd, Nat.reduceMul, Nat.reduceSub, Nat.reduceLT, Nat.reduceLeDiff, Nat.one_ne_zero, m28 4 (by omega)]
        rw [if_neg (by omega), if_pos hown.1, if_pos hown.2]
        show F (J _) _ _ = F (J (_ ||| 0)) _ _
        rw [Nat.or_zero]
      · rw [evc_s, he, if_pos hown]; exact hmx
    · have hcond : ∀ (A B : Option (Int32 × zMS)), (if b = 0 then (if ev k 4 = p then A else B) else B) = B := fun A B => by
        by_cases hb0 : b = 0
        · rw [if_pos hb0, if_neg (fun z => hown ⟨hb0, z⟩)]
        · rw [if_neg hb0]
      cases hA : arr v (ev k 0) (ev k 1) (ev k 2) (ev k 3) (pl p (ev k 3)) b with
      | none =>
        refine ⟨J (evb v ev pl k p t (b + 1)), J (b + 1), m, ?_, rfl, rfl, hR, hms, hmo, ?_⟩
        · rw [evb_s, he, if_neg hown, hA]
          simp (disch := omega) only [gX12_hears_l32, gX12_hears_b61, wb1, wb2, wb3, wb4, wc1, wc2, zb1_ite, zb2_ite, zb3_ite, zb4_ite, zzc1_ite, zzc2_ite, J_lit, J_n1, J_n2, J_add, J_mul, J_lt, J_le, J_eq, J_eN, N_eJ, J_eN2, J_nn, J_lN, N_lJ, J_leN, N_leJ, NN_l0, NN_eN, bJ_0, bJ_1, bJ_ite, zbz_b, zbz_0, zbz_1, zag_J, zas_J, ite_true, ite_false, if_true, if_false, ite_self, reduceIte, not_true_eq_false, not_false_eq_true, J_o, Nat.reduceEqDiff, Nat.reduceAdd, Nat.reduceMul, Nat.reduceSub, Nat.reduceLT, Nat.reduceLeDiff, Nat.one_ne_zero, m28 4 (by omega), m28', m28 1 (by omega), m28 2 (by omega), R_comes hR.1 hV, hA, oJ_n]
          rw [if_neg (by omega)]
          try rw [hcond]
          show F (J _) _ _ = F (J (_ ||| 0)) _ _
          rw [Nat.or_zero]
        · rw [evc_s, he, if_neg hown, hA]; exact hmx
      | some t0 =>
        have ht0 := arr_le hV g0 hpl g1 (by omega) hA
        by_cases htt : t0 = t
        · subst htt
          obtain ⟨y, hy⟩ := arr_wby hA
          have hy8 := wby_lt hV g1 hy
          refine ⟨J (evb v ev pl k p t0 (b + 1)), J (b + 1), zsA m 32 (upd (m.2.2 32) p (J (x + evc v ev pl k p t0 b + 1))), ?_, rfl, rfl, RS_A (by omega) hR, Msame_t hms (Msame_A (by omega)), ⟨hmo.1, fun j hj => by rw [zsA_o hj]; exact hmo.2.1 j hj, fun q hq => by rw [zsA_1, upd_o hq]; exact hmo.2.2 q hq⟩, ?_⟩
          · rw [evb_s, he, if_neg hown, hA, if_pos rfl, hy]
            by_cases hb0 : b = 0
            · subst hb0
              rw [wby_v] at hy
              obtain rfl := Option.some.inj hy
              simp (disch := omega) only [gX12_hears_l32, gX12_hears_b61, wb1, wb2, wb3, wb4, wc1, wc2, zb1_ite, zb2_ite, zb3_ite, zb4_ite, zzc1_ite, zzc2_ite, J_lit, J_n1, J_n2, J_add, J_mul, J_lt, J_le, J_eq, J_eN, N_eJ, J_eN2, J_nn, J_lN, N_lJ, J_leN, N_leJ, NN_l0, NN_eN, bJ_0, bJ_1, bJ_ite, zbz_b, zbz_0, zbz_1, zag_J, zas_J, ite_true, ite_false, if_true, if_false, ite_self, reduceIte, not_true_eq_false, not_false_eq_true, J_o, Nat.reduceEqDiff, Nat.reduceAdd, Nat.reduceMul, Nat.reduceSub, Nat.reduceLT, Nat.reduceLeDiff, Nat.one_ne_zero, m28 4 (by omega), m28', m28 1 (by omega), m28 2 (by omega), R_comes hR.1 hV, hA, oJ_s, hmx, J_shl, J_or]
              rw [if_neg (fun z => hown ⟨rfl, z⟩)]
              rfl
            · simp (disch := omega) only [gX12_hears_l32, gX12_hears_b61, wb1, wb2, wb3, wb4, wc1, wc2, zb1_ite, zb2_ite, zb3_ite, zb4_ite, zzc1_ite, zzc2_ite, J_lit, J_n1, J_n2, J_add, J_mul, J_lt, J_le, J_eq, J_eN, N_eJ, J_eN2, J_nn, J_lN, N_lJ, J_leN, N_leJ, NN_l0, NN_eN, bJ_0, bJ_1, bJ_ite, zbz_b, zbz_0, zbz_1, zag_J, zas_J, ite_true, ite_false, if_true, if_false, ite_self, reduceIte, not_true_eq_false, not_false_eq_true, J_o, Nat.reduceEqDiff, Nat.reduceAdd, Nat.reduceMul, Nat.reduceSub, Nat.reduceLT, Nat.reduceLeDiff, Nat.one_ne_zero, m28', m28 1 (by omega), m28 2 (by omega), R_comes hR.1 hV, R_given hR.1 hV, hA, hy, oJ_s, hmx, J_shl, J_or, eq_false hb0]
              rw [if_neg (by omega)]
              rfl
          · rw [zsA_1, upd_1, evc_s, he, if_neg hown, hA, if_pos rfl, hy]
            show J (_ + _ + 1) = J (_ + (_ + 1))
            rw [Nat.add_assoc]
        · refine ⟨J (evb v ev pl k p t (b + 1)), J (b + 1), m, ?_, rfl, rfl, hR, hms, hmo, ?_⟩
          · rw [evb_s, he, if_neg hown, hA, if_neg (fun z => htt (Option.some.inj z))]
            simp (disch := omega) only [gX12_hears_l32, gX12_hears_b61, wb1, wb2, wb3, wb4, wc1, wc2, zb1_ite, zb2_ite, zb3_ite, zb4_ite, zzc1_ite, zzc2_ite, J_lit, J_n1, J_n2, J_add, J_mul, J_lt, J_le, J_eq, J_eN, N_eJ, J_eN2, J_nn, J_lN, N_lJ, J_leN, N_leJ, NN_l0, NN_eN, bJ_0, bJ_1, bJ_ite, zbz_b, zbz_0, zbz_1, zag_J, zas_J, ite_true, ite_false, if_true, if_false, ite_self, reduceIte, not_true_eq_false, not_false_eq_true, J_o, Nat.reduceEqDiff, Nat.reduceAdd, Nat.reduceMul, Nat.reduceSub, Nat.reduceLT, Nat.reduceLeDiff, Nat.one_ne_zero, m28 4 (by omega), m28', m28 1 (by omega), m28 2 (by omega), R_comes hR.1 hV, hA, oJ_s, eq_false htt]
            rw [if_neg (by omega)]
            try rw [hcond]
            show F (J _) _ _ = F (J (_ ||| 0)) _ _
            rw [Nat.or_zero]
          · rw [evc_s, he, if_neg hown, hA, if_neg (fun z => htt (Option.some.inj z))]; exact hmx) (by
    intro s y m hQ F
    obtain ⟨rfl, rfl, hQ⟩ := hQ
    simp (disch := omega) only [gX12_hears_l32, wb1, wb2, wb3, wb4, wc1, wc2, zb1_ite, zb2_ite, zb3_ite, zb4_ite, zzc1_ite, zzc2_ite, J_lit, J_n1, J_n2, J_add, J_mul, J_lt, J_le, J_eq, J_eN, N_eJ, J_eN2, J_nn, J_lN, N_lJ, J_leN, N_leJ, NN_l0, NN_eN, bJ_0, bJ_1, bJ_ite, zbz_b, zbz_0, zbz_1, zag_J, zas_J, ite_true, ite_false, if_true, if_false, ite_self, reduceIte, not_true_eq_false, not_false_eq_true, J_o, Nat.reduceEqDiff, Nat.reduceAdd, Nat.reduceMul, Nat.reduceSub, Nat.reduceLT, Nat.reduceLeDiff, Nat.one_ne_zero]
    exact ⟨(J (evb v ev pl k p t 3), m), rfl, rfl, hQ⟩) (zfu_lt (n := 3) (by omega)) (x0 := J 0) (x1 := J 0) (x2 := M) ⟨rfl, rfl, h, hs, ⟨rfl, fun _ _ => rfl, fun _ _ => rfl⟩, hx⟩
  obtain ⟨r1, r2⟩ := r
  simp only at q1 q2 q3 q4 q5
  rw [hr, q1]
  exact ⟨r2, by simp (disch := omega) only [wb1, wb2, wb3, wb4, wc1, wc2, zb1_ite, zb2_ite, zb3_ite, zb4_ite, zzc1_ite, zzc2_ite, J_lit, J_n1, J_n2, J_add, J_mul, J_lt, J_le, J_eq, J_eN, N_eJ, J_eN2, J_nn, J_lN, N_lJ, J_leN, N_leJ, NN_l0, NN_eN, bJ_0, bJ_1, bJ_ite, zbz_b, zbz_0, zbz_1, zag_J, zas_J, ite_true, ite_false, if_true, if_false, ite_self, reduceIte, not_true_eq_false, not_false_eq_true, J_o, Nat.reduceEqDiff, Nat.reduceAdd, Nat.reduceMul, Nat.reduceSub, Nat.reduceLT, Nat.reduceLeDiff, Nat.one_ne_zero], q2, q3, q4, q5⟩
