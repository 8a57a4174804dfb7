/-! where to listen: the reference's table -/
def sobh (v s : zV) (x t : Nat) (i : Nat) : Bool := sob v s i && hrt v (i / 1000) (i / 10 % 100) (i % 10) x t
theorem sobh_b {v s : zV} {x t q j : Nat} (hj : j ≤ 8) : cnt (sobh v s x t) (10 * q + j) = cnt (sobh v s x t) (10 * q) + cnt (fun w => swd v s q w && hrt v (q / 100) (q % 100) w x t) j := by
  induction j with
  | zero => rfl
  | succ j ih =>
    rw [show 10 * q + (j + 1) = 10 * q + j + 1 by omega, cnt_s, ih (by omega), cnt_s]
    have hze : sobh v s x t (10 * q + j) = (swd v s q j && hrt v (q / 100) (q % 100) j x t) := by
      unfold sobh sob
      rw [show (10 * q + j) % 10 = j by omega, show (10 * q + j) / 10 = q by omega, show (10 * q + j) / 1000 = q / 100 by omega, decide_eq_true (show j < 8 by omega)]
      rfl
    rw [hze]; omega
theorem sobh_L {v s : zV} {x t : Nat} : ∀ q, cnt (sobh v s x t) (10 * q) = Lq v s x t q
  | 0 => rfl
  | q + 1 => by
    have e8 : sobh v s x t (10 * q + 8) = false := by unfold sobh sob; rw [show (10 * q + 8) % 10 = 8 by omega]; rfl
    have e9 : sobh v s x t (10 * q + 9) = false := by unfold sobh sob; rw [show (10 * q + 9) % 10 = 9 by omega]; rfl
    rw [show 10 * (q + 1) = 10 * q + 8 + 1 + 1 by omega, cnt_s, show 10 * q + 8 + 1 = 10 * q + 9 by omega, e9, show 10 * q + 9 = 10 * q + 8 + 1 by omega, cnt_s, e8, sobh_b (Nat.le_refl 8), sobh_L q, Lq_s]
    simp [inq]
theorem isMS_T {M m : zMS} {s : zV} (h : isMS M s) (h1 : Msame M m) (h2 : ∀ j, m.1 j = M.1 j) : isMS m s := by
  obtain ⟨t, h3, h4, h5, h6⟩ := h
  have h9 := h1 9 (Or.inl (by omega))
  exact ⟨t, h3, by rw [h2]; exact h4, by rw [h9]; exact h5, fun k hk j hj => by rw [h9]; exact h6 k hk j hj⟩
theorem R_listens {M : zMS} {v : zV} (hm : isMV M v) (hV : VOK v) {c mi w : Nat} (hc : c ≤ (v 0 : Nat)) (hmi : mi < 100) (hw : w < 8) {G : Nat → Nat → Nat} (hr : mrow M G) : ∃ M', gX12_listens M (J c) (J mi) (J w) = some M' ∧ isMV M' v ∧ Msame M M' ∧ (∀ j, M'.1 j = M.1 j) ∧ mrow M' (fun y u => G y u + if y ≤ (v 0 : Nat) ∧ hrt v c mi w y u = true then 1 else 0) := by
  have hw0 := hV.2.1
  obtain ⟨r, er, q1, q2, q3, q4⟩ := zf2_inv (f := gX12_listens_l3 (J c) (J w) (J mi)) ((v 0 : Nat) + 1) (fun i x m => x = J i ∧ isMV m v ∧ Msame M m ∧ (∀ j, m.1 j = M.1 j) ∧ mrow m (fun y u => G y u + if y < i ∧ hrt v c mi w y u = true then 1 else 0)) (fun m => isMV m v ∧ Msame M m ∧ (∀ j, m.1 j = M.1 j) ∧ mrow m (fun y u => G y u + if y < (v 0 : Nat) + 1 ∧ hrt v c mi w y u = true then 1 else 0)) (by
    intro i x m hi hP F
    obtain ⟨rfl, hm1, hs1, hj1, hr1⟩ := hP
    obtain ⟨m', e1, hm2, hs2, hj2, hr2⟩ := R_listens_st hm1 hV hc hmi hw (show i ≤ (v 0 : Nat) by omega) hr1 F
    refine ⟨J (i + 1), m', e1, rfl, hm2, Msame_t hs1 hs2, fun j => (hj2 j).trans (hj1 j), mrow_c hr2 (fun y _ u _ => ?_)⟩
    rw [Nat.add_assoc]
    congr 1
    by_cases hh : hrt v c mi w y u = true
    · by_cases h1 : y < i
      · simp [hh, h1, show y < i + 1 by omega, show ¬ y = i by omega]
      · by_cases h2 : y = i
        · subst h2; simp [hh]
        · simp [h1, h2, show ¬ y < i + 1 by omega]
    · by_cases h2 : y = i
      · subst h2; simp [hh]
      · simp [hh, h2]) (by
    intro x m hP F
    obtain ⟨rfl, hP⟩ := hP
    refine ⟨m, ?_, hP⟩
    unfold gX12_listens_l3
    rw [R_w hP.1, if_pos (show J (v 0) < J ((v 0 : Nat) + 1) by rw [J_lt (by omega) (by omega)]; omega)]) (zfu_lt (n := (v 0 : Nat) + 1) (by omega)) (x0 := J 0) (x1 := M) ⟨rfl, hm, Msame_r, fun _ => rfl, mrow_c hr (fun y _ u _ => by simp)⟩
  refine ⟨r, ?_, q1, q2, q3, mrow_c q4 (fun y _ u _ => ?_)⟩
  · unfold gX12_listens
    rw [show (0 : Int32) = J 0 from rfl, er]
    rfl
  · congr 1
    simp only [Nat.lt_succ_iff]
theorem R_spotL {M : zMS} {v s : zV} (hm : isMV M v) (hs : isMS M s) (hV : VOK v) (hS : SOK s) (hI : SIN v s) : ∃ M', (zb1 (zf2 gX12_spot_l55 zfu 0 M : Option zMS) fun (m13 : zMS) =>
  zb1 (zf2 gX12_spot_l80 zfu 0 m13 : Option (zMS)) fun (m24 : zMS) =>
  zb1 (zf2 (gX12_spot_l166 m24 (J (Bq v s (100 * ((v 0 : Nat) + 1))))) zfu 0 1 : Option (Int32)) fun (x5_39 : Int32) =>
  some (x5_39, m24)) = some (J (amin (lsf v s) (100 * ((v 0 : Nat) + 1) - 1)), M') ∧ Msame M M' ∧ ∀ j, M'.1 j = M.1 j := by
  have hw := hV.2.1
  obtain ⟨m1, e1, i1, k1, f1, z1⟩ := zf2_inv (f := gX12_spot_l55) 3100 (fun i x m => x = J i ∧ isMV m v ∧ Msame M m ∧ (∀ j, m.1 j = M.1 j) ∧ ∀ k, k < i → m.2.2 47 k = J 0) (fun m => isMV m v ∧ Msame M m ∧ (∀ j, m.1 j = M.1 j) ∧ ∀ k, k < 3100 → m.2.2 47 k = J 0) (by
    intro i x m hi hP F
    obtain ⟨rfl, hm1, hs1, hj1, hz1⟩ := hP
    refine ⟨J (i + 1), zsA m 47 (upd (m.2.2 47) i (J 0)), ?_, rfl, isMV_A (by omega) hm1, Msame_t hs1 (Msame_A (by omega)), hj1, fun k hk => ?_⟩
    · unfold gX12_spot_l55
      rw [if_neg (show ¬ (3100 : Int32) ≤ J i by rw [show (3100 : Int32) = J 3100 from rfl, J_le (by omega) (by omega)]; omega), zas_J (by omega) (by omega), wb1, wb1]
      show F (J i + J 1) _ = _
      rw [J_add]
      rfl
    · rw [zsA_1]
      by_cases hki : k = i
      · subst hki; rw [upd_1]
      · rw [upd_o (by omega)]; exact hz1 k (by omega)) (by
    intro x m hP F
    obtain ⟨rfl, hP⟩ := hP
    refine ⟨m, ?_, hP⟩
    unfold gX12_spot_l55
    rw [if_pos (show (3100 : Int32) ≤ J 3100 by decide)]) (zfu_lt (n := 3100) (by omega)) (x0 := J 0) (x1 := M) ⟨rfl, hm, Msame_r, fun _ => rfl, fun k hk => by omega⟩
  obtain ⟨m2, e2, i2, k2, f2, z2⟩ := zf2_inv (f := gX12_spot_l80) (1000 * ((v 0 : Nat) + 1)) (fun i x m => x = J i ∧ isMV m v ∧ Msame M m ∧ (∀ j, m.1 j = M.1 j) ∧ mrow m (fun y u => if y ≤ (v 0 : Nat) then cnt (sobh v s y u) i else 0)) (fun m => isMV m v ∧ Msame M m ∧ (∀ j, m.1 j = M.1 j) ∧ mrow m (fun y u => if y ≤ (v 0 : Nat) then cnt (sobh v s y u) (1000 * ((v 0 : Nat) + 1)) else 0)) (by
    intro i x m hi hP F
    obtain ⟨rfl, hm1, hs1, hj1, hr1⟩ := hP
    have hms := isMS_T hs hs1 hj1
    have hmod : i - i / 10 * 10 = i % 10 := by omega
    have hmod2 : i / 10 - i / 10 / 100 * 100 = i / 10 % 100 := by omega
    have hze : sob v s i = (decide (i % 10 < 8) && so v s (i / 1000) (i / 10 % 100) (i % 10) (s 0)) := by
      unfold sob swd
      rw [show i / 10 / 100 = i / 1000 by omega]
    by_cases hb : sob v s i = true
    · have h8 : i % 10 < 8 := by
        rw [hze, Bool.and_eq_true] at hb
        exact of_decide_eq_true hb.1
      have hso : so v s (i / 1000) (i / 10 % 100) (i % 10) (s 0) = true := by
        rw [hze, Bool.and_eq_true] at hb
        exact hb.2
      obtain ⟨m', e3, hm2, hs2, hj2, hr2⟩ := R_listens hm1 hV (c := i / 1000) (mi := i / 10 % 100) (w := i % 10) (by omega) (by omega) h8 hr1
      refine ⟨J (i + 1), m', ?_, rfl, hm2, Msame_t hs1 hs2, fun j => (hj2 j).trans (hj1 j), mrow_c hr2 (fun y _ u _ => ?_)⟩
      · unfold gX12_spot_l80
        rw [R_w hm1]
        simp (disch := omega) only [wb1, wb2, wb3, wb4, wc1, wc2, zb1_ite, zb2_ite, zb3_ite, zb4_ite, zzc1_ite, zzc2_ite, J_lit, J_n1, J_n2, J_add, J_mul, J_lt, J_le, J_eq, J_eN, N_eJ, J_eN2, J_nn, J_lN, N_lJ, J_leN, N_leJ, NN_l0, NN_eN, bJ_0, bJ_1, bJ_ite, zbz_b, zbz_0, zbz_1, zag_J, zas_J, ite_true, ite_false, if_true, if_false, ite_self, reduceIte, not_true_eq_false, not_false_eq_true, J_o, Nat.reduceEqDiff, Nat.reduceAdd, Nat.reduceMul, Nat.reduceSub, Nat.reduceLT, Nat.reduceLeDiff, Nat.one_ne_zero, J_div, J_sub, hmod, hmod2]
        rw [if_neg (by omega), if_neg (by omega), R_isSo hm1 hms hV hS hI (by omega) (by omega) h8, hso, e3]
        rfl
      · by_cases hy : y ≤ (v 0 : Nat)
        · simp only [if_pos hy, cnt_s]
          congr 1
          unfold sobh
          rw [hb]
          simp [hy]
        · simp [hy]
    · have hb' : sob v s i = false := by simpa using hb
      refine ⟨J (i + 1), m, ?_, rfl, hm1, hs1, hj1, mrow_c hr1 (fun y _ u _ => ?_)⟩
      · unfold gX12_spot_l80
        rw [R_w hm1]
        simp (disch := omega) only [wb1, wb2, wb3, wb4, wc1, wc2, zb1_ite, zb2_ite, zb3_ite, zb4_ite, zzc1_ite, zzc2_ite, J_lit, J_n1, J_n2, J_add, J_mul, J_lt, J_le, J_eq, J_eN, N_eJ, J_eN2, J_nn, J_lN, N_lJ, J_leN, N_leJ, NN_l0, NN_eN, bJ_0, bJ_1, bJ_ite, zbz_b, zbz_0, zbz_1, zag_J, zas_J, ite_true, ite_false, if_true, if_false, ite_self, reduceIte, not_true_eq_false, not_false_eq_true, J_o, Nat.reduceEqDiff, Nat.reduceAdd, Nat.reduceMul, Nat.reduceSub, Nat.reduceLT, Nat.reduceLeDiff, Nat.one_ne_zero, J_div, J_sub, hmod, hmod2]
        rw [if_neg (by omega)]
        by_cases h8 : i % 10 < 8
        · rw [decide_eq_true h8, Bool.true_and, hb'] at hze
          rw [if_neg (by omega), R_isSo hm1 hms hV hS hI (by omega) (by omega) h8, ← hze]
          rfl
        · rw [if_pos (by omega)]
      · by_cases hy : y ≤ (v 0 : Nat)
        · simp only [if_pos hy, cnt_s]
          unfold sobh
          rw [hb']
          simp
        · simp [hy]) (by
    intro x m hP F
    obtain ⟨rfl, hP⟩ := hP
    refine ⟨m, ?_, hP⟩
    unfold gX12_spot_l80
    rw [R_w hP.1]
    simp (disch := omega) only [wb1, wb2, wb3, wb4, wc1, wc2, zb1_ite, zb2_ite, zb3_ite, zb4_ite, zzc1_ite, zzc2_ite, J_lit, J_n1, J_n2, J_add, J_mul, J_lt, J_le, J_eq, J_eN, N_eJ, J_eN2, J_nn, J_lN, N_lJ, J_leN, N_leJ, NN_l0, NN_eN, bJ_0, bJ_1, bJ_ite, zbz_b, zbz_0, zbz_1, zag_J, zas_J, ite_true, ite_false, if_true, if_false, ite_self, reduceIte, not_true_eq_false, not_false_eq_true, J_o, Nat.reduceEqDiff, Nat.reduceAdd, Nat.reduceMul, Nat.reduceSub, Nat.reduceLT, Nat.reduceLeDiff, Nat.one_ne_zero]
    rw [if_pos (Nat.le_refl _)]) (zfu_lt (n := 1000 * ((v 0 : Nat) + 1)) (by omega)) (x0 := J 0) (x1 := m1) ⟨rfl, i1, k1, f1, fun x hx t ht => by
      rw [z1 _ (by omega)]
      show J 0 = J (if x ≤ (v 0 : Nat) then 0 else 0)
      rw [ite_self]⟩
  have hB := Bq_le (v := v) (s := s) (100 * ((v 0 : Nat) + 1))
  have row_at : ∀ i, i < 100 * ((v 0 : Nat) + 1) → m2.2.2 47 i = J (Lq v s (i / 100) (i % 100) (100 * ((v 0 : Nat) + 1))) := fun i hi => by
    have := z2 (i / 100) (by omega) (i % 100) (by omega)
    simp only at this
    rw [show 100 * (i / 100) + i % 100 = i by omega, if_pos (by omega), show 1000 * ((v 0 : Nat) + 1) = 10 * (100 * ((v 0 : Nat) + 1)) by omega, sobh_L] at this
    exact this
  have hze := zf2_run (f := gX12_spot_l166 m2 (J (Bq v s (100 * ((v 0 : Nat) + 1))))) (r := some (J (amin (lsf v s) (100 * ((v 0 : Nat) + 1) - 1)))) (100 * ((v 0 : Nat) + 1) - 1) (fun i => J (amin (lsf v s) i)) (fun i => J (i + 1)) (by
    intro i hi F
    have la := amin_le (f := lsf v s) i
    have r1 := row_at (i + 1) (by omega)
    have r2 := row_at (amin (lsf v s) i) (by omega)
    have l1 := Lq_le (v := v) (s := s) (x := (i + 1) / 100) (t := (i + 1) % 100) (100 * ((v 0 : Nat) + 1))
    have l2 := Lq_le (v := v) (s := s) (x := amin (lsf v s) i / 100) (t := amin (lsf v s) i % 100) (100 * ((v 0 : Nat) + 1))
    have n1 := @lsf_le v s (i + 1)
    have n2 := @lsf_le v s (amin (lsf v s) i)
    unfold gX12_spot_l166
    rw [R_w i2]
    simp (disch := omega) only [wb1, wb2, wb3, wb4, wc1, wc2, zb1_ite, zb2_ite, zb3_ite, zb4_ite, zzc1_ite, zzc2_ite, J_lit, J_n1, J_n2, J_add, J_mul, J_lt, J_le, J_eq, J_eN, N_eJ, J_eN2, J_nn, J_lN, N_lJ, J_leN, N_leJ, NN_l0, NN_eN, bJ_0, bJ_1, bJ_ite, zbz_b, zbz_0, zbz_1, zag_J, zas_J, ite_true, ite_false, if_true, if_false, ite_self, reduceIte, not_true_eq_false, not_false_eq_true, J_o, Nat.reduceEqDiff, Nat.reduceAdd, Nat.reduceMul, Nat.reduceSub, Nat.reduceLT, Nat.reduceLeDiff, Nat.one_ne_zero]
    rw [if_neg (by omega), r1, r2]
    simp (disch := omega) only [wb1, wb2, wb3, wb4, wc1, wc2, zb1_ite, zb2_ite, zb3_ite, zb4_ite, zzc1_ite, zzc2_ite, J_lit, J_n1, J_n2, J_add, J_mul, J_lt, J_le, J_eq, J_eN, N_eJ, J_eN2, J_nn, J_lN, N_lJ, J_leN, N_leJ, NN_l0, NN_eN, bJ_0, bJ_1, bJ_ite, zbz_b, zbz_0, zbz_1, zag_J, zas_J, ite_true, ite_false, if_true, if_false, ite_self, reduceIte, not_true_eq_false, not_false_eq_true, J_o, Nat.reduceEqDiff, Nat.reduceAdd, Nat.reduceMul, Nat.reduceSub, Nat.reduceLT, Nat.reduceLeDiff, Nat.one_ne_zero, J_sub]
    rw [R_greater (by omega) (by omega), wb1, R_greater (by omega) (by omega), wb1]
    show (if J (lsf v s (amin (lsf v s) i)) ≤ J (lsf v s (i + 1)) then F (J (amin (lsf v s) i)) (J (i + 1 + 1)) else F (J (i + 1)) (J (i + 1 + 1))) = _
    rw [show amin (lsf v s) (i + 1) = if lsf v s (i + 1) < lsf v s (amin (lsf v s) i) then i + 1 else amin (lsf v s) i from rfl]
    by_cases hq : lsf v s (i + 1) < lsf v s (amin (lsf v s) i)
    · rw [if_neg (by rw [J_le (by omega) (by omega)]; omega), if_pos hq]
    · rw [if_pos (by rw [J_le (by omega) (by omega)]; omega), if_neg hq]) (by
    intro F
    unfold gX12_spot_l166
    rw [R_w i2]
    simp (disch := omega) only [wb1, wb2, wb3, wb4, wc1, wc2, zb1_ite, zb2_ite, zb3_ite, zb4_ite, zzc1_ite, zzc2_ite, J_lit, J_n1, J_n2, J_add, J_mul, J_lt, J_le, J_eq, J_eN, N_eJ, J_eN2, J_nn, J_lN, N_lJ, J_leN, N_leJ, NN_l0, NN_eN, bJ_0, bJ_1, bJ_ite, zbz_b, zbz_0, zbz_1, zag_J, zas_J, ite_true, ite_false, if_true, if_false, ite_self, reduceIte, not_true_eq_false, not_false_eq_true, J_o, Nat.reduceEqDiff, Nat.reduceAdd, Nat.reduceMul, Nat.reduceSub, Nat.reduceLT, Nat.reduceLeDiff, Nat.one_ne_zero]
    rw [if_pos (by omega)]) (zfu_lt (by omega))
  refine ⟨m2, ?_, k2, f2⟩
  rw [show (0 : Int32) = J 0 from rfl, e1, wb1, e2, wb1]
  show zb1 (zf2 (gX12_spot_l166 m2 (J (Bq v s (100 * ((v 0 : Nat) + 1))))) zfu (J 0) (J 1)) _ = _
  rw [show amin (lsf v s) 0 = 0 from rfl] at hze
  rw [hze, wb1]
