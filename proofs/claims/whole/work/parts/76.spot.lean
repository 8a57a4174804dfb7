/-! where to listen: the class -/
def Gq (v s : zV) (q y u : Nat) : Nat := if y ≤ (v 0 : Nat) then Lq v s y u q else 0
theorem Gq_s {v s : zV} {q y u : Nat} : Gq v s (q + 1) y u = Gq v s q y u + if y ≤ (v 0 : Nat) then inq v s q y u else 0 := by
  unfold Gq
  split
  · exact Lq_s
  · rfl
def lsf (v s : zV) (x : Nat) : Nat := max (Lq v s (x / 100) (x % 100) (100 * ((v 0 : Nat) + 1))) (Bq v s (100 * ((v 0 : Nat) + 1)) - Lq v s (x / 100) (x % 100) (100 * ((v 0 : Nat) + 1)))
theorem lsf_le {v s : zV} {x : Nat} : lsf v s x ≤ Bq v s (100 * ((v 0 : Nat) + 1)) := by
  have := Lq_le (v := v) (s := s) (x := x / 100) (t := x % 100) (100 * ((v 0 : Nat) + 1))
  unfold lsf
  omega
theorem C_whereToListen {U : zCS} {a sa e : Nat} {v s : zV} (h : isVal U a v) (hs : isSi U sa s) (hV : VOK v) (hS : SOK s) (hI : SIN v s) (hae : ∀ j, j ≤ 10 → ¬ (e ≤ a + j ∧ a + j ≤ e + 2)) (hse : ∀ j, j ≤ 4 → ¬ (e ≤ sa + j ∧ sa + j ≤ e + 2)) : ∃ U', gX5_whereToListen U e a sa = some (if Bq v s (100 * ((v 0 : Nat) + 1)) = 0 then NN else J (amin (lsf v s) (100 * ((v 0 : Nat) + 1) - 1)), U') ∧ Ufr U U' (fun q => e ≤ q ∧ q ≤ e + 2) := by
  have hw := hV.2.1
  obtain ⟨U4, e1, u1, z1⟩ := C_fill (U := U) (n := 3100) (a := e + 1) (x := J 0) (by omega)
  have f1 : Ufr U U4 (fun q => e ≤ q ∧ q ≤ e + 2) := Ufr_U u1 (fun q hq => by omega)
  have r1 : hrow U4 e (Gq v s 0) := fun x hx t ht => by
    rw [z1 _ (by omega)]
    unfold Gq
    split <;> rfl
  have inn : ∀ c m, c ≤ (v 0 : Nat) → Ufr U m (fun q => e ≤ q ∧ q ≤ e + 2) → hrow m e (Gq v s (100 * c)) → ∃ m', zf3 (gX5_whereToListen_l25 a sa (J c) e) zfu (J (Bq v s (100 * c))) (J 0) m = some (J (Bq v s (100 * c + 100)), m') ∧ Ufr U m' (fun q => e ≤ q ∧ q ≤ e + 2) ∧ hrow m' e (Gq v s (100 * c + 100)) := by
    intro c m hc hm hr
    obtain ⟨r, er, q1, q2, q3⟩ := zf3_inv (f := gX5_whereToListen_l25 a sa (J c) e) 100 (fun i x y m => x = J (Bq v s (100 * c + i)) ∧ y = J i ∧ Ufr U m (fun q => e ≤ q ∧ q ≤ e + 2) ∧ hrow m e (Gq v s (100 * c + i))) (fun r => r.1 = J (Bq v s (100 * c + 100)) ∧ Ufr U r.2 (fun q => e ≤ q ∧ q ≤ e + 2) ∧ hrow r.2 e (Gq v s (100 * c + 100))) (by
      intro i x y m hi hP F
      obtain ⟨rfl, rfl, hm, hr⟩ := hP
      have hv := isVal_F hm hae h
      have hss := isSi_F hm hse hs
      obtain ⟨m2, e2, u2, r2⟩ := C_hitByWords (s := s) hv hV hae hc hi hr
      refine ⟨J (Bq v s (100 * c + (i + 1))), J (i + 1), m2, ?_, rfl, rfl, Ufr_t hm u2, hrow_c r2 (fun y _ u _ => Gq_s.symm)⟩
      unfold gX5_whereToListen_l25
      rw [if_neg (show ¬ (100 : Int32) ≤ J i by rw [show (100 : Int32) = J 100 from rfl, J_le (by omega) (by omega)]; omega), C_mb hv hss hV hS hI hc hi, wb1, C_bitCount bts_256, bts_pop, wb1, e2, wb1, J_add]
      show F _ (J i + J 1) m2 = _
      rw [J_add]
      rfl) (by
      intro x y m hP F
      obtain ⟨rfl, rfl, hP⟩ := hP
      refine ⟨(J (Bq v s (100 * c + 100)), m), ?_, rfl, hP⟩
      unfold gX5_whereToListen_l25
      rw [if_pos (show (100 : Int32) ≤ J 100 by decide)]) (zfu_lt (n := 100) (by omega)) (x0 := J (Bq v s (100 * c))) (x1 := J 0) (x2 := m) ⟨rfl, rfl, hm, hr⟩
    obtain ⟨ra, rb⟩ := r
    simp only at q1 q2 q3
    exact ⟨rb, by rw [er, q1], q2, q3⟩
  obtain ⟨r, er, q1, q2, q3⟩ := zf3_inv (f := gX5_whereToListen_l13 a sa e) ((v 0 : Nat) + 1) (fun i x y m => x = J (Bq v s (100 * i)) ∧ y = J i ∧ Ufr U m (fun q => e ≤ q ∧ q ≤ e + 2) ∧ hrow m e (Gq v s (100 * i))) (fun r => r.1 = J (Bq v s (100 * ((v 0 : Nat) + 1))) ∧ Ufr U r.2 (fun q => e ≤ q ∧ q ≤ e + 2) ∧ hrow r.2 e (Gq v s (100 * ((v 0 : Nat) + 1)))) (by
    intro i x y m hi hP F
    obtain ⟨rfl, rfl, hm, hr⟩ := hP
    have hv := isVal_F hm hae h
    obtain ⟨m2, e2, u2, r2⟩ := inn i m (by omega) hm hr
    refine ⟨J (Bq v s (100 * (i + 1))), J (i + 1), m2, ?_, rfl, rfl, u2, by rw [show 100 * (i + 1) = 100 * i + 100 by omega]; exact r2⟩
    unfold gX5_whereToListen_l13
    rw [V_w hv, if_neg (show ¬ J (v 0) < J i by rw [J_lt (by omega) (by omega)]; omega)]
    show zb2 (zf3 (gX5_whereToListen_l25 a sa (J i) e) zfu (J (Bq v s (100 * i))) (J 0) m) _ = _
    rw [e2, wb2, show 100 * (i + 1) = 100 * i + 100 by omega]
    show F _ (J i + J 1) m2 = _
    rw [J_add]) (by
    intro x y m hP F
    obtain ⟨rfl, rfl, hm, hr⟩ := hP
    have hv := isVal_F hm hae h
    refine ⟨(J (Bq v s (100 * ((v 0 : Nat) + 1))), m), ?_, rfl, hm, hr⟩
    unfold gX5_whereToListen_l13
    rw [V_w hv, if_pos (show J (v 0) < J ((v 0 : Nat) + 1) by rw [J_lt (by omega) (by omega)]; omega)]) (zfu_lt (n := (v 0 : Nat) + 1) (by omega)) (x0 := J 0) (x1 := J 0) (x2 := U4) ⟨rfl, rfl, f1, r1⟩
  obtain ⟨ra, m11⟩ := r
  simp only at q1 q2 q3
  rw [q1] at er
  have hv := isVal_F q2 hae h
  have hB := Bq_le (v := v) (s := s) (100 * ((v 0 : Nat) + 1))
  have hrow_at : ∀ i, i < 100 * ((v 0 : Nat) + 1) → m11.2.1 (e + 1) i = J (Lq v s (i / 100) (i % 100) (100 * ((v 0 : Nat) + 1))) := fun i hi => by
    have := q3 (i / 100) (by omega) (i % 100) (by omega)
    rw [show 100 * (i / 100) + i % 100 = i by omega] at this
    rw [this]
    unfold Gq
    rw [if_pos (by omega)]
  refine ⟨m11, ?_, q2⟩
  unfold gX5_whereToListen
  rw [show (0 : Int32) = J 0 from rfl, e1, wb1, er, wb2]
  show zb1 (zf3 (gX5_whereToListen_l83 m11 a (J (Bq v s (100 * ((v 0 : Nat) + 1)))) e) zfu NN (J (Bq v s (100 * ((v 0 : Nat) + 1)))) (J 0)) _ = _
  by_cases h0 : Bq v s (100 * ((v 0 : Nat) + 1)) = 0
  · rw [if_pos h0, h0]
    have hze := zf3_run (f := gX5_whereToListen_l83 m11 a (J 0) e) (r := some NN) 0 (fun _ => NN) (fun _ => J 0) J (by intro i hi; omega) (by
      intro F
      unfold gX5_whereToListen_l83
      rw [V_w hv]
      simp (disch := omega) only [wb1, wb2, wb3, wb4, wc1, wc2, zb1_ite, zb2_ite, zb3_ite, zb4_ite, zzc1_ite, zzc2_ite, J_lit, J_n1, J_n2, J_add, J_mul, J_lt, J_le, J_eq, J_eN, N_eJ, J_eN2, J_nn, J_lN, N_lJ, J_leN, N_leJ, NN_l0, NN_eN, bJ_0, bJ_1, bJ_ite, zbz_b, zbz_0, zbz_1, zag_J, zas_J, ite_true, ite_false, if_true, if_false, ite_self, reduceIte, not_true_eq_false, not_false_eq_true, J_o, Nat.reduceEqDiff, Nat.reduceAdd, Nat.reduceMul, Nat.reduceSub, Nat.reduceLT, Nat.reduceLeDiff, Nat.one_ne_zero]
      try (split <;> rfl)) (zfu_lt (by omega))
    rw [hze, wb1]
  · rw [if_neg h0]
    have hze := zf3_run (f := gX5_whereToListen_l83 m11 a (J (Bq v s (100 * ((v 0 : Nat) + 1)))) e) (r := some (J (amin (lsf v s) (100 * ((v 0 : Nat) + 1) - 1)))) (100 * ((v 0 : Nat) + 1)) (fun i => if i = 0 then NN else J (amin (lsf v s) (i - 1))) (fun i => if i = 0 then J (Bq v s (100 * ((v 0 : Nat) + 1))) else J (lsf v s (amin (lsf v s) (i - 1)))) J (by
      intro i hi F
      have hL := Lq_le (v := v) (s := s) (x := i / 100) (t := i % 100) (100 * ((v 0 : Nat) + 1))
      have l1 := @lsf_le v s i
      have l2 := @lsf_le v s (amin (lsf v s) (i - 1))
      have hl : max (Lq v s (i / 100) (i % 100) (100 * ((v 0 : Nat) + 1))) (Bq v s (100 * ((v 0 : Nat) + 1)) - Lq v s (i / 100) (i % 100) (100 * ((v 0 : Nat) + 1))) = lsf v s i := rfl
      rw [if_neg (Nat.succ_ne_zero i), if_neg (Nat.succ_ne_zero i), Nat.add_sub_cancel]
      unfold gX5_whereToListen_l83
      rw [V_w hv]
      cases i with
      | zero =>
        rw [if_pos rfl, if_pos rfl]
        simp (disch := omega) only [wb1, wb2, wb3, wb4, wc1, wc2, zb1_ite, zb2_ite, zb3_ite, zb4_ite, zzc1_ite, zzc2_ite, J_lit, J_n1, J_n2, J_add, J_mul, J_lt, J_le, J_eq, J_eN, N_eJ, J_eN2, J_nn, J_lN, N_lJ, J_leN, N_leJ, NN_l0, NN_eN, bJ_0, bJ_1, bJ_ite, zbz_b, zbz_0, zbz_1, zag_J, zas_J, ite_true, ite_false, if_true, if_false, ite_self, reduceIte, not_true_eq_false, not_false_eq_true, J_o, Nat.reduceEqDiff, Nat.reduceAdd, Nat.reduceMul, Nat.reduceSub, Nat.reduceLT, Nat.reduceLeDiff, Nat.one_ne_zero, hrow_at 0 (by omega), J_sub, max_ite, hl]
        rw [if_neg (by omega), if_neg (by omega)]
        rfl
      | succ k =>
        rw [if_neg (Nat.succ_ne_zero k), if_neg (Nat.succ_ne_zero k)]
        simp only [Nat.add_sub_cancel] at l2 ⊢
        have la := amin_le (f := lsf v s) k
        simp (disch := omega) only [wb1, wb2, wb3, wb4, wc1, wc2, zb1_ite, zb2_ite, zb3_ite, zb4_ite, zzc1_ite, zzc2_ite, J_lit, J_n1, J_n2, J_add, J_mul, J_lt, J_le, J_eq, J_eN, N_eJ, J_eN2, J_nn, J_lN, N_lJ, J_leN, N_leJ, NN_l0, NN_eN, bJ_0, bJ_1, bJ_ite, zbz_b, zbz_0, zbz_1, zag_J, zas_J, ite_true, ite_false, if_true, if_false, ite_self, reduceIte, not_true_eq_false, not_false_eq_true, J_o, Nat.reduceEqDiff, Nat.reduceAdd, Nat.reduceMul, Nat.reduceSub, Nat.reduceLT, Nat.reduceLeDiff, Nat.one_ne_zero, hrow_at (k + 1) hi, J_sub, max_ite, hl, amin]
        rw [if_neg (by omega), if_neg (by omega)]
        by_cases hq : lsf v s (k + 1) < lsf v s (amin (lsf v s) k)
        · simp [hq, Nat.not_le.mpr hq]
        · simp [hq, Nat.not_lt.mp hq]) (by
      intro F
      rw [if_neg (show ¬ 100 * ((v 0 : Nat) + 1) = 0 by omega)]
      unfold gX5_whereToListen_l83
      rw [V_w hv]
      simp (disch := omega) only [wb1, wb2, wb3, wb4, wc1, wc2, zb1_ite, zb2_ite, zb3_ite, zb4_ite, zzc1_ite, zzc2_ite, J_lit, J_n1, J_n2, J_add, J_mul, J_lt, J_le, J_eq, J_eN, N_eJ, J_eN2, J_nn, J_lN, N_lJ, J_leN, N_leJ, NN_l0, NN_eN, bJ_0, bJ_1, bJ_ite, zbz_b, zbz_0, zbz_1, zag_J, zas_J, ite_true, ite_false, if_true, if_false, ite_self, reduceIte, not_true_eq_false, not_false_eq_true, J_o, Nat.reduceEqDiff, Nat.reduceAdd, Nat.reduceMul, Nat.reduceSub, Nat.reduceLT, Nat.reduceLeDiff, Nat.one_ne_zero]
      rw [if_pos (by omega)]) (zfu_lt (by omega))
    rw [if_pos rfl, if_pos rfl] at hze
    rw [hze, wb1]
/-! the reference -/
def mrow (M : zMS) (G : Nat → Nat → Nat) : Prop := ∀ x, x < 31 → ∀ t, t < 100 → M.2.2 47 (100 * x + t) = J (G x t)
theorem mrow_c {M : zMS} {G H : Nat → Nat → Nat} (h : mrow M G) (hG : ∀ x, x < 31 → ∀ t, t < 100 → G x t = H x t) : mrow M H := fun x hx t ht => by rw [h x hx t ht, hG x hx t ht]
theorem mrow_u {M : zMS} {G : Nat → Nat → Nat} (h : mrow M G) {x t n : Nat} (hx : x < 31) (ht : t < 100) : mrow (zsA M 47 (upd (M.2.2 47) (100 * x + t) (J (G x t + n)))) (fun y u => G y u + if y = x ∧ u = t then n else 0) := fun y hy u hu => by
  rw [zsA_1]
  by_cases hc : y = x ∧ u = t
  · obtain ⟨rfl, rfl⟩ := hc
    rw [upd_1]; simp
  · rw [upd_o (by omega)]
    simp only [if_neg hc, Nat.add_zero]
    exact h y hy u hu
def okO (o : Option Nat) : Bool := match o with
  | some t => decide (t ≤ 99)
  | none => false
def ixO (o : Option Nat) : Nat := match o with
  | some t => if t ≤ 99 then t else 0
  | none => 0
theorem ixO_lt {o : Option Nat} : ixO o < 100 := by
  cases o with
  | none => show 0 < 100; omega
  | some t => show (if t ≤ 99 then t else 0) < 100; split <;> omega
theorem R_inO {o : Option Nat} (h : ∀ t, o = some t → t < 10000) : gX12_in (oJ o) 0 99 = some (bJ (okO o)) := by
  rw [R_in]
  cases o with
  | none => rw [oJ_n]; rfl
  | some t =>
    have := h t rfl
    rw [oJ_s, show (0 : Int32) = J 0 from rfl, show (99 : Int32) = J 99 from rfl]
    congr 2
    show _ = decide (t ≤ 99)
    rw [decide_eq_decide, J_lt (by omega) (by omega), J_lt (by omega) (by omega)]
    omega
theorem R_listens_st {M : zMS} {v : zV} (hm : isMV M v) (hV : VOK v) {c mi w x : Nat} (hc : c ≤ (v 0 : Nat)) (hmi : mi < 100) (hw : w < 8) (hx : x ≤ (v 0 : Nat)) {G : Nat → Nat → Nat} (hr : mrow M G) (F : Int32 → zMS → Option zMS) : ∃ M', gX12_listens_l3 (J c) (J w) (J mi) F (J x) M = F (J (x + 1)) M' ∧ isMV M' v ∧ Msame M M' ∧ (∀ j, M'.1 j = M.1 j) ∧ mrow M' (fun y u => G y u + if y = x ∧ hrt v c mi w x u = true then 1 else 0) := by
  have hw0 := hV.2.1
  have hx31 : x < 31 := by omega
  have bnd : ∀ b t, arr v c w 2 mi x b = some t → t < 10000 := fun b t ht => by have := arr_le hV hc hx hw hmi ht; omega
  obtain ⟨a0, ha0⟩ : ∃ a0, arr v c w 2 mi x 0 = some a0 := by
    have w0 := way_le (b := 0) hV hc hx
    unfold arr
    rw [if_neg (show ¬ rng 2 < way v c x 0 by show ¬ 99 < _; omega), if_neg (by unfold mute; simp)]
    exact ⟨_, rfl⟩
  have ha := bnd 0 a0 ha0
  obtain ⟨B, hB⟩ : ∃ B, B = arr v c w 2 mi x 1 := ⟨_, rfl⟩
  obtain ⟨C, hC⟩ : ∃ C, C = arr v c w 2 mi x 2 := ⟨_, rfl⟩
  have bB : ∀ t, B = some t → t < 10000 := fun t ht => bnd 1 t (hB ▸ ht)
  have bC : ∀ t, C = some t → t < 10000 := fun t ht => bnd 2 t (hC ▸ ht)
  have eqO : ∀ (P Q : Option Nat), (∀ t, P = some t → t < 10000) → (∀ t, Q = some t → t < 10000) → ((oJ P = oJ Q) ↔ P = Q) := fun P Q hP hQ => by
    cases P with
    | none => cases Q with
      | none => simp
      | some t => have := hQ t rfl; rw [oJ_n, oJ_s, N_eJ (by omega)]; simp
    | some t => cases Q with
      | none => have := hP t rfl; rw [oJ_n, oJ_s, J_eN (by omega)]; simp
      | some u => have := hP t rfl; have := hQ u rfl; rw [oJ_s, oJ_s, J_eq (by omega) (by omega)]; simp
  have r1 := mrow_u hr (n := if 99 < a0 then 0 else 1) hx31 (show min a0 99 < 100 by omega)
  have r2 := mrow_u r1 (n := if okO B = true ∧ B ≠ some a0 then 1 else 0) hx31 (ixO_lt (o := B))
  have r3 := mrow_u r2 (n := if okO C = true ∧ C ≠ some a0 ∧ C ≠ B then 1 else 0) hx31 (ixO_lt (o := C))
  refine ⟨_, ?_, isMV_A (by omega) (isMV_A (by omega) (isMV_A (k := 47) (by omega) hm)), Msame_t (Msame_t (Msame_A (by omega)) (Msame_A (by omega))) (Msame_A (by omega)), fun j => rfl, mrow_c r3 (fun y _ u hu => ?_)⟩
  · unfold gX12_listens_l3 gX12_listens_b135
    have e0 : gX12_comes M (J c) (J w) 2 (J mi) (J x) 0 = some (J a0) := by
      have := R_comes (b := 0) hm hV hc hw (show 2 < 3 by omega) hmi hx (by omega)
      rw [ha0] at this; exact this
    have e1 : gX12_comes M (J c) (J w) 2 (J mi) (J x) 1 = some (oJ B) := by
      have := R_comes (b := 1) hm hV hc hw (show 2 < 3 by omega) hmi hx (by omega)
      rw [← hB] at this; exact this
    have e2 : gX12_comes M (J c) (J w) 2 (J mi) (J x) 2 = some (oJ C) := by
      have := R_comes (b := 2) hm hV hc hw (show 2 < 3 by omega) hmi hx (by omega)
      rw [← hC] at this; exact this
    rw [R_w hm, if_neg (show ¬ J (v 0) < J x by rw [J_lt (by omega) (by omega)]; omega), e0, wb1, e1, wb1, e2, wb1]
    have eL : gX12_lesser (J a0) 99 = some (J (min a0 99)) := R_lesser (b := 99) (by omega) (by omega)
    rw [eL, wb1, R_inO bB, R_inO bC]
    have i1 : (100 : Int32) * J x + J (min a0 99) = J (100 * x + min a0 99) := by rw [show (100 : Int32) = J 100 from rfl, J_mul, J_add]
    have ib : ∀ o, (if bJ (okO o) = (0 : Int32) then some (0 : Int32) else some (oJ o) : Option Int32) = some (J (ixO o)) := fun o => by
      cases o with
      | none => rfl
      | some t =>
        show (if bJ (decide (t ≤ 99)) = J 0 then some (J 0) else some (J t)) = some (J (if t ≤ 99 then t else 0))
        by_cases h9 : t ≤ 99
        · rw [decide_eq_true h9, if_pos h9]; rfl
        · rw [decide_eq_false h9, if_neg h9]; rfl
    have ix : ∀ o, (100 : Int32) * J x + J (ixO o) = J (100 * x + ixO o) := fun o => by rw [show (100 : Int32) = J 100 from rfl, J_mul, J_add]
    rw [i1, zag_J (by omega) (by omega), wb1, hr x hx31 (min a0 99) (by omega)]
    have s21 : (if (99 : Int32) < J a0 then some (0 : Int32) else some 1 : Option Int32) = some (J (if 99 < a0 then 0 else 1)) := by
      show (if J 99 < J a0 then some (J 0) else some (J 1)) = _
      simp only [J_lt (show 99 < 2147483648 by omega) (show a0 < 2147483648 by omega)]
      split <;> rfl
    rw [s21, wb1, J_add, zas_J (by omega) (by omega), wb1, wb1, wb1, ib B, wb1, ix B]
    have lB := ixO_lt (o := B)
    have lC := ixO_lt (o := C)
    have g1 := r1 x hx31 (ixO B) lB
    rw [zag_J (by omega) (by omega), wb1, wb1, g1]
    have s35 : (if bJ (okO B) = (0 : Int32) then some (0 : Int32) else if oJ B = J a0 then some 0 else some 1 : Option Int32) = some (J (if okO B = true ∧ B ≠ some a0 then 1 else 0)) := by
      have := eqO B (some a0) bB (fun t ht => by cases ht; exact ha)
      rw [oJ_s] at this
      show (if bJ (okO B) = J 0 then some (J 0) else if oJ B = J a0 then some (J 0) else some (J 1)) = _
      simp only [bJ_0, this]
      cases okO B
      · simp
      · by_cases hq : B = some a0
        · simp [hq]
        · simp [hq]
    rw [s35, wb1, J_add, zas_J (by omega) (by omega), wb1, wb1, wb1, ib C, wb1, ix C]
    have g2 := r2 x hx31 (ixO C) lC
    rw [zag_J (by omega) (by omega), wb1, wb1, g2]
    have s50 : (if bJ (okO C) = (0 : Int32) then some (0 : Int32) else if oJ C = J a0 then some 0 else if oJ C = oJ B then some 0 else some 1 : Option Int32) = some (J (if okO C = true ∧ C ≠ some a0 ∧ C ≠ B then 1 else 0)) := by
      have h1 := eqO C (some a0) bC (fun t ht => by cases ht; exact ha)
      have h2 := eqO C B bC bB
      rw [oJ_s] at h1
      show (if bJ (okO C) = J 0 then some (J 0) else if oJ C = J a0 then some (J 0) else if oJ C = oJ B then some (J 0) else some (J 1)) = _
      simp only [bJ_0, h1, h2]
      cases okO C
      · simp
      · by_cases hq : C = some a0
        · simp [hq]
        · by_cases hq2 : C = B
          · simp [hq, hq2]
          · simp [hq, hq2]
    rw [s50, wb1, J_add, zas_J (by omega) (by omega), wb1, wb1]
    show F (J x + J 1) _ = _
    rw [J_add, zsA_1, zsA_1]
  · by_cases hy : y = x
    · subst hy
      simp only [true_and]
      have eh : hrt v c mi w y u = (decide (a0 = u) || decide (B = some u) || decide (C = some u)) := by
        unfold hrt
        rw [rng3, ha0, ← hB, ← hC]
        simp
      have kO : ∀ o : Option Nat, (u = ixO o ∧ okO o = true) ↔ o = some u := fun o => by
        cases o with
        | none => simp [okO]
        | some t =>
          show (u = (if t ≤ 99 then t else 0) ∧ decide (t ≤ 99) = true) ↔ _
          by_cases h9 : t ≤ 99
          · simp [h9]; exact ⟨fun z => z.symm, fun z => z.symm⟩
          · simp [h9]; omega
      have p1 : (if u = min a0 99 then (if 99 < a0 then 0 else 1) else 0) = if a0 = u then 1 else 0 := by
        by_cases h9 : 99 < a0
        · rw [if_pos h9, ite_self, if_neg (by omega)]
        · rw [if_neg h9, show min a0 99 = a0 by omega]
          by_cases hua : u = a0
          · rw [if_pos hua, if_pos hua.symm]
          · rw [if_neg hua, if_neg (fun z => hua z.symm)]
      have p2 : (if u = ixO B then (if okO B = true ∧ B ≠ some a0 then 1 else 0) else 0) = if B = some u ∧ a0 ≠ u then 1 else 0 := by
        by_cases hb2 : B = some u ∧ a0 ≠ u
        · have := (kO B).mpr hb2.1
          rw [if_pos hb2, if_pos this.1, if_pos ⟨this.2, fun z => hb2.2 (by rw [hb2.1] at z; exact (Option.some.inj z).symm)⟩]
        · rw [if_neg hb2]
          by_cases hu2 : u = ixO B
          · rw [if_pos hu2, if_neg (fun z => hb2 ⟨(kO B).mp ⟨hu2, z.1⟩, fun zz => z.2 (by rw [(kO B).mp ⟨hu2, z.1⟩, zz])⟩)]
          · rw [if_neg hu2]
      have p3 : (if u = ixO C then (if okO C = true ∧ C ≠ some a0 ∧ C ≠ B then 1 else 0) else 0) = if C = some u ∧ a0 ≠ u ∧ B ≠ some u then 1 else 0 := by
        by_cases hb2 : C = some u ∧ a0 ≠ u ∧ B ≠ some u
        · have := (kO C).mpr hb2.1
          rw [if_pos hb2, if_pos this.1, if_pos ⟨this.2, fun z => hb2.2.1 (by rw [hb2.1] at z; exact (Option.some.inj z).symm), fun z => hb2.2.2 (by rw [← z]; exact hb2.1)⟩]
        · rw [if_neg hb2]
          by_cases hu2 : u = ixO C
          · rw [if_pos hu2, if_neg (fun z => hb2 ⟨(kO C).mp ⟨hu2, z.1⟩, fun zz => z.2.1 (by rw [(kO C).mp ⟨hu2, z.1⟩, zz]), fun zz => z.2.2 (by rw [(kO C).mp ⟨hu2, z.1⟩, zz])⟩)]
          · rw [if_neg hu2]
      rw [p1, p2, p3, eh]
      by_cases q1 : a0 = u
      · simp [q1]
      · by_cases q2 : B = some u
        · simp [q1, q2]
        · by_cases q3 : C = some u
          · simp [q1, q2, q3]
          · simp [q1, q2, q3]
    · simp only [hy, false_and, if_false, Nat.add_zero]
