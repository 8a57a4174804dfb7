/-- a new saying -/
def nE (p w l now : Nat) (pl : zEv) : Nat → Nat := fun j => match j with
  | 0 => pl p now
  | 1 => w
  | 2 => l
  | 3 => now
  | _ => p
def addE (ev : zEv) (n : Nat) (e : Nat → Nat) : zEv := fun k j => if k = n then e j else ev k j
theorem addE_n {ev : zEv} {n : Nat} {e : Nat → Nat} {j : Nat} : addE ev n e n j = e j := if_pos rfl
theorem addE_o {ev : zEv} {n k : Nat} {e : Nat → Nat} {j : Nat} (h : k ≠ n) : addE ev n e k j = ev k j := if_neg h
theorem PI_add {v : zV} {n now p w l : Nat} {ev pl : zEv} (h : PI v n now ev pl) (hp : p < (v 1 : Nat)) (hw : w < 8) (hl : l < 3) : PI v (n + 1) now (addE ev n (nE p w l now pl)) pl := by
  refine ⟨h.1, fun k hk => ?_, h.2.2⟩
  by_cases hkn : k = n
  · subst hkn
    rw [addE_n, addE_n, addE_n, addE_n, addE_n]
    exact ⟨h.2.2 p hp now (Nat.le_refl _), hw, hl, Nat.le_refl _, hp⟩
  · rw [addE_o hkn, addE_o hkn, addE_o hkn, addE_o hkn, addE_o hkn]
    exact h.2.1 k (by omega)
theorem R_says {M M0 : zMS} {v : zV} (hV : VOK v) {n now p w l : Nat} {ev pl : zEv} (h : RS v M n now ev pl) (hP : PI v n now ev pl) (hs : Msame M0 M) (hp : p < (v 1 : Nat)) (hn : n < 60) : ∃ M', gX12_says M (J p) (J w) (J l) = some M' ∧ Msame M0 M' ∧ (M'.1 26 = M.1 26 ∧ M'.1 49 = M.1 49) ∧ RS v M' (n + 1) now (addE ev n (nE p w l now pl)) pl := by
  obtain ⟨hm, h29, h30, h28, h27⟩ := h
  have h6 := hV.2.2.1
  have hnow := hP.1
  have e27 := h27 p hp now (Nat.le_refl _)
  refine ⟨zsI (zsA (zsA (zsA (zsA (zsA M 28 (upd (M.2.2 28) (5 * n) (J (pl p now)))) 28 (upd (upd (M.2.2 28) (5 * n) (J (pl p now))) (5 * n + 1) (J w))) 28 (upd (upd (upd (M.2.2 28) (5 * n) (J (pl p now))) (5 * n + 1) (J w)) (5 * n + 2) (J l))) 28 (upd (upd (upd (upd (M.2.2 28) (5 * n) (J (pl p now))) (5 * n + 1) (J w)) (5 * n + 2) (J l)) (5 * n + 3) (J now))) 28 (upd (upd (upd (upd (upd (M.2.2 28) (5 * n) (J (pl p now))) (5 * n + 1) (J w)) (5 * n + 2) (J l)) (5 * n + 3) (J now)) (5 * n + 4) (J p))) 29 (J (n + 1)), ?_, Msame_t hs (Msame_t (Msame_t (Msame_t (Msame_t (Msame_t (Msame_A (by omega)) (Msame_A (by omega))) (Msame_A (by omega))) (Msame_A (by omega))) (Msame_A (by omega))) Msame_I), ⟨by rw [zsI_o (by omega)]; rfl, by rw [zsI_o (by omega)]; rfl⟩, ?_, zsI_1, ?_, ?_, ?_⟩
  · unfold gX12_says
    simp (disch := omega) only [wb1, wb2, wb3, wb4, wc1, wc2, zb1_ite, zb2_ite, zb3_ite, zb4_ite, zzc1_ite, zzc2_ite, J_lit, J_n1, J_n2, J_add, J_mul, J_lt, J_le, J_eq, J_eN, N_eJ, J_eN2, J_nn, J_lN, N_lJ, J_leN, N_leJ, NN_l0, NN_eN, bJ_0, bJ_1, bJ_ite, zbz_b, zbz_0, zbz_1, zag_J, zas_J, ite_true, ite_false, if_true, if_false, ite_self, reduceIte, not_true_eq_false, not_false_eq_true, J_o, Nat.reduceEqDiff, Nat.reduceAdd, Nat.reduceMul, Nat.reduceSub, Nat.reduceLT, Nat.reduceLeDiff, Nat.one_ne_zero, h29, h30, e27, zsA_1, zsA_i]
  · exact isMV_I (by omega) (isMV_A (by omega) (isMV_A (by omega) (isMV_A (by omega) (isMV_A (by omega) (isMV_A (by omega) hm)))))
  · rw [zsI_o (by omega)]; exact h30
  · intro k hk j hj
    rw [zsI_a, zsA_1]
    by_cases hkn : k = n
    · subst hkn
      rw [addE_n]
      have : j = 0 ∨ j = 1 ∨ j = 2 ∨ j = 3 ∨ j = 4 := by omega
      rcases this with rfl | rfl | rfl | rfl | rfl
      · rw [upd_o (by omega), upd_o (by omega), upd_o (by omega), upd_o (by omega), Nat.add_zero, upd_1]; rfl
      · rw [upd_o (by omega), upd_o (by omega), upd_o (by omega), upd_1]; rfl
      · rw [upd_o (by omega), upd_o (by omega), upd_1]; rfl
      · rw [upd_o (by omega), upd_1]; rfl
      · rw [upd_1]; rfl
    · rw [addE_o hkn, upd_o (by omega), upd_o (by omega), upd_o (by omega), upd_o (by omega), upd_o (by omega)]
      exact h28 k (by omega) j hj
  · intro o ho t ht
    rw [zsI_a, zsA_o (by omega), zsA_o (by omega), zsA_o (by omega), zsA_o (by omega), zsA_o (by omega)]
    exact h27 o ho t ht
theorem R_begin {M : zMS} {v : zV} (hV : VOK v) (h : isMV M v) : ∃ M', gX12_begin M = some M' ∧ Msame M M' ∧ (M'.1 26 = M.1 26 ∧ M'.1 49 = M.1 49) ∧ RS v M' 0 0 (fun _ _ => 0) (fun o _ => (v (33 + o) : Nat)) := by
  have h6 := hV.2.2.1
  unfold gX12_begin
  obtain ⟨m1, e1, ⟨q1, q2⟩, q3, q5⟩ := zf2_inv (f := gX12_begin_l2) 6 (fun i x m => x = J i ∧ (m.1 = M.1 ∧ isMV m v) ∧ Msame M m ∧ ∀ o, o < i → o < (v 1 : Nat) → m.2.2 27 (100 * o) = J (v (33 + o))) (fun m => (m.1 = M.1 ∧ isMV m v) ∧ Msame M m ∧ ∀ o, o < 6 → o < (v 1 : Nat) → m.2.2 27 (100 * o) = J (v (33 + o))) (by
    intro i x m hi hP F
    obtain ⟨rfl, ⟨hm1, hmv⟩, hms, hma⟩ := hP
    refine ⟨J (i + 1), zsA m 27 (upd (m.2.2 27) (100 * i) (if (v 1 : Nat) ≤ i then J 0 else J (v (33 + i)))), ?_, rfl, ⟨hm1, isMV_A (by omega) hmv⟩, Msame_t hms (Msame_A (by omega)), fun o ho hov => ?_⟩
    · unfold gX12_begin_l2
      simp (disch := omega) only [wb1, wb2, wb3, wb4, wc1, wc2, zb1_ite, zb2_ite, zb3_ite, zb4_ite, zzc1_ite, zzc2_ite, J_lit, J_n1, J_n2, J_add, J_mul, J_lt, J_le, J_eq, J_eN, N_eJ, J_eN2, J_nn, J_lN, N_lJ, J_leN, N_leJ, NN_l0, NN_eN, bJ_0, bJ_1, bJ_ite, zbz_b, zbz_0, zbz_1, zag_J, zas_J, ite_true, ite_false, if_true, if_false, ite_self, reduceIte, not_true_eq_false, not_false_eq_true, J_o, Nat.reduceEqDiff, Nat.reduceAdd, Nat.reduceMul, Nat.reduceSub, Nat.reduceLT, Nat.reduceLeDiff, Nat.one_ne_zero, R_p hmv, R_of hmv]
      rw [if_neg (by omega)]
      by_cases c : (v 1 : Nat) ≤ i
      · rw [if_pos c, if_pos c]
      · rw [if_neg c, if_neg c]
    · rw [zsA_1]
      by_cases c : o = i
      · subst c; rw [upd_1, if_neg (by omega)]
      · rw [upd_o (by omega)]; exact hma o (by omega) hov) (by
    intro x m hP F
    obtain ⟨rfl, hm1, hms, hma⟩ := hP
    simp (disch := omega) only [gX12_begin_l2, wb1, wb2, wb3, wb4, wc1, wc2, zb1_ite, zb2_ite, zb3_ite, zb4_ite, zzc1_ite, zzc2_ite, J_lit, J_n1, J_n2, J_add, J_mul, J_lt, J_le, J_eq, J_eN, N_eJ, J_eN2, J_nn, J_lN, N_lJ, J_leN, N_leJ, NN_l0, NN_eN, bJ_0, bJ_1, bJ_ite, zbz_b, zbz_0, zbz_1, zag_J, zas_J, ite_true, ite_false, if_true, if_false, ite_self, reduceIte, not_true_eq_false, not_false_eq_true, J_o, Nat.reduceEqDiff, Nat.reduceAdd, Nat.reduceMul, Nat.reduceSub, Nat.reduceLT, Nat.reduceLeDiff, Nat.one_ne_zero]
    exact ⟨m, rfl, hm1, hms, hma⟩) (zfu_lt (n := 6) (by omega)) (x0 := J 0) (x1 := M) ⟨rfl, ⟨rfl, h⟩, Msame_r, fun o ho => by omega⟩
  refine ⟨zsI (zsI m1 29 (J 0)) 30 (J 0), ?_, Msame_t q3 (Msame_t Msame_I Msame_I), ⟨by rw [zsI_o (by omega), zsI_o (by omega), q1], by rw [zsI_o (by omega), zsI_o (by omega), q1]⟩, isMV_I (by omega) (isMV_I (by omega) q2), by rw [zsI_o (by omega), zsI_1], zsI_1, fun k hk => by omega, fun o ho t ht => ?_⟩
  · exact (congrArg (zb1 · _) e1).trans rfl
  · rw [zsI_a, zsI_a, show t = 0 by omega, Nat.add_zero]
    exact q5 o (by omega) ho
/-! the class -/
theorem zcp_int {n0 n1 k : Nat} {f g : Nat → Int32} (h0 : k ≤ n0) (h1 : k ≤ n1) (hk : k < 100000) : ∃ f', zcp 0 n0 n1 f g (J 0) (J 0) (J k) = some f' ∧ (∀ i, i < k → f' i = f i) ∧ ∀ i, k ≤ i → f' i = g i := by
  refine ⟨va_cpy f g 0 0 k, ?_, fun i hi => ?_, fun i hi => ?_⟩
  · unfold zcp
    rw [J_nat (by omega), J_nat (by omega), show (0 : Int32) = J 0 from rfl]
    simp only [J_nn (show 0 < 2147483648 by omega), J_nn (show k < 2147483648 by omega)]
    rw [if_pos]
    refine ⟨not_false, not_false, not_false, by omega, by omega, ?_⟩
    rw [List.all_eq_true]
    intro x _
    rfl
  · simp [va_cpy, hi]
  · simp [va_cpy, Nat.not_lt.mpr hi]
theorem C_begin {U : zCS} {a c : Nat} {v : zV} (hV : VOK v) (h : isVal U a v) (hac : ∀ j, j ≤ 10 → ¬ (c ≤ a + j ∧ a + j ≤ c + 3)) : ∃ U', gX1_begin U c a = some U' ∧ Ufr U U' (fun q => c ≤ q ∧ q ≤ c + 3) ∧ CSr v U' c 0 0 (fun _ _ => 0) (fun o _ => (v (33 + o) : Nat)) ∧ U'.1 c 2 = U.1 c 2 := by
  have h6 := hV.2.2.1
  have ha5 : a + 5 ≠ c + 1 := fun z => hac 5 (by omega) (by omega)
  obtain ⟨f9, e1, k1, -⟩ := zcp_int (n0 := 6) (n1 := 6) (k := 6) (f := U.2.1 (a + 5)) (g := U.2.1 (c + 1)) (by omega) (by omega) (by omega)
  obtain ⟨U14, e2, u2, w2⟩ := C_fill (U := csA (csI (csI U c 0 (J 0)) c 1 (J 0)) (c + 1) f9) (n := 600) (a := c + 2) (x := J 0) (by omega)
  obtain ⟨U18, e3, u3, w3⟩ := C_fill (U := U14) (n := 600) (a := c + 3) (x := J 0) (by omega)
  refine ⟨U18, ?_, Ufr_t (Ufr_t (Ufr_t (Ufr_t (Ufr_I (by omega)) (Ufr_I (by omega))) (Ufr_A (by omega))) (Ufr_U u2 (fun q hq => by omega))) (Ufr_U u3 (fun q hq => by omega)), ⟨?_, ?_, ?_, ?_⟩, ?_⟩
  · unfold gX1_begin
    simp (disch := omega) only [wb1, wb2, wb3, wb4, wc1, wc2, zb1_ite, zb2_ite, zb3_ite, zb4_ite, zzc1_ite, zzc2_ite, J_lit, J_n1, J_n2, J_add, J_mul, J_lt, J_le, J_eq, J_eN, N_eJ, J_eN2, J_nn, J_lN, N_lJ, J_leN, N_leJ, NN_l0, NN_eN, bJ_0, bJ_1, bJ_ite, zbz_b, zbz_0, zbz_1, zag_J, zas_J, ite_true, ite_false, if_true, if_false, ite_self, reduceIte, not_true_eq_false, not_false_eq_true, J_o, Nat.reduceEqDiff, Nat.reduceAdd, Nat.reduceMul, Nat.reduceSub, Nat.reduceLT, Nat.reduceLeDiff, Nat.one_ne_zero, csI_a]
    rw [e1]
    simp (disch := omega) only [wb1, wb2, wb3, wb4, wc1, wc2, zb1_ite, zb2_ite, zb3_ite, zb4_ite, zzc1_ite, zzc2_ite, J_lit, J_n1, J_n2, J_add, J_mul, J_lt, J_le, J_eq, J_eN, N_eJ, J_eN2, J_nn, J_lN, N_lJ, J_leN, N_leJ, NN_l0, NN_eN, bJ_0, bJ_1, bJ_ite, zbz_b, zbz_0, zbz_1, zag_J, zas_J, ite_true, ite_false, if_true, if_false, ite_self, reduceIte, not_true_eq_false, not_false_eq_true, J_o, Nat.reduceEqDiff, Nat.reduceAdd, Nat.reduceMul, Nat.reduceSub, Nat.reduceLT, Nat.reduceLeDiff, Nat.one_ne_zero, e2, e3]
  · rw [u3.1, u2.1]
    show (csI (csI U c 0 (J 0)) c 1 (J 0)).1 c 0 = _
    rw [csI_o2 (.inr (by omega)), csI_1]
  · rw [u3.1, u2.1]
    show (csI (csI U c 0 (J 0)) c 1 (J 0)).1 c 1 = _
    rw [csI_1]
  · intro o ho
    rw [u3.2.2 (c + 1) (by omega), u2.2.2 (c + 1) (by omega), csA_1, k1 o (by omega)]
    exact V_pl h ho
  · intro p hp t ht
    refine ⟨?_, w3 _ (by omega)⟩
    rw [u3.2.2 (c + 2) (by omega)]
    exact w2 _ (by omega)
  · rw [u3.1, u2.1]
    show (csI (csI U c 0 (J 0)) c 1 (J 0)).1 c 2 = _
    rw [csI_o2 (.inr (by omega)), csI_o2 (.inr (by omega))]
theorem C_pass {U : zCS} {c now d : Nat} (h : U.1 c 0 = J now) (hn : now < 1000) (hd : d < 10000) : gX1_pass U c (J d) = some (bJ (decide (now + d ≤ 99)), if now + d ≤ 99 then csI U c 0 (J (now + d)) else U) := by
  unfold gX1_pass
  rw [h]
  simp (disch := omega) only [wb1, wb2, wb3, wb4, wc1, wc2, zb1_ite, zb2_ite, zb3_ite, zb4_ite, zzc1_ite, zzc2_ite, J_lit, J_n1, J_n2, J_add, J_mul, J_lt, J_le, J_eq, J_eN, N_eJ, J_eN2, J_nn, J_lN, N_lJ, J_leN, N_leJ, NN_l0, NN_eN, bJ_0, bJ_1, bJ_ite, zbz_b, zbz_0, zbz_1, zag_J, zas_J, ite_true, ite_false, if_true, if_false, ite_self, reduceIte, not_true_eq_false, not_false_eq_true, J_o, Nat.reduceEqDiff, Nat.reduceAdd, Nat.reduceMul, Nat.reduceSub, Nat.reduceLT, Nat.reduceLeDiff, Nat.one_ne_zero]
  by_cases hc : now + d ≤ 99
  · rw [if_pos (by omega), if_pos hc, decide_eq_true hc]; rfl
  · rw [if_neg (by omega), if_neg hc, decide_eq_false hc]; rfl
theorem C_isMin {t : Nat} (ht : t < 100000) : gX11_isMinute (J t) = some (bJ (decide (t < 100))) := by
  unfold gX11_isMinute
  simp (disch := omega) only [wb1, wb2, wb3, wb4, wc1, wc2, zb1_ite, zb2_ite, zb3_ite, zb4_ite, zzc1_ite, zzc2_ite, J_lit, J_n1, J_n2, J_add, J_mul, J_lt, J_le, J_eq, J_eN, N_eJ, J_eN2, J_nn, J_lN, N_lJ, J_leN, N_leJ, NN_l0, NN_eN, bJ_0, bJ_1, bJ_ite, zbz_b, zbz_0, zbz_1, zag_J, zas_J, ite_true, ite_false, if_true, if_false, ite_self, reduceIte, not_true_eq_false, not_false_eq_true, J_o, Nat.reduceEqDiff, Nat.reduceAdd, Nat.reduceMul, Nat.reduceSub, Nat.reduceLT, Nat.reduceLeDiff, Nat.one_ne_zero]
  by_cases hc : t < 100
  · simp [hc, Nat.not_le.mpr hc, bJ]
  · simp [hc, Nat.not_lt.mp hc, bJ]
theorem C_isMinN : gX11_isMinute NN = some (J 0) := by
  unfold gX11_isMinute
  simp (disch := omega) only [wb1, wb2, wb3, wb4, wc1, wc2, zb1_ite, zb2_ite, zb3_ite, zb4_ite, zzc1_ite, zzc2_ite, J_lit, J_n1, J_n2, J_add, J_mul, J_lt, J_le, J_eq, J_eN, N_eJ, J_eN2, J_nn, J_lN, N_lJ, J_leN, N_leJ, NN_l0, NN_eN, bJ_0, bJ_1, bJ_ite, zbz_b, zbz_0, zbz_1, zag_J, zas_J, ite_true, ite_false, if_true, if_false, ite_self, reduceIte, not_true_eq_false, not_false_eq_true, J_o, Nat.reduceEqDiff, Nat.reduceAdd, Nat.reduceMul, Nat.reduceSub, Nat.reduceLT, Nat.reduceLeDiff, Nat.one_ne_zero]
theorem arr_le {v : zV} (hV : VOK v) {f w l m t b x : Nat} (hf : f ≤ (v 0 : Nat)) (ht : t ≤ (v 0 : Nat)) (hw : w < 8) (hm : m < 100) (h : arr v f w l m t b = some x) : x < 200 := by
  have h1 := way_le (b := b) hV hf ht
  have h2 := thk_le (b := b) (m := m) hV hw
  unfold arr at h
  split at h
  · cases h
  · split at h
    · cases h
    · cases h; omega
theorem arr_wby {v : zV} {f w l m t b x : Nat} (h : arr v f w l m t b = some x) : ∃ y, wby v w m b = some y := by
  unfold arr at h
  unfold wby
  split at h
  · cases h
  · split at h
    · cases h
    · rename_i hm
      rw [if_neg hm]
      exact ⟨_, rfl⟩
/-- the state while a word is being said -/
def CSp (v : zV) (U : zCS) (c n now b o : Nat) (ev ev' pl : zEv) : Prop := U.1 c 0 = J now ∧ U.1 c 1 = J (n + 1) ∧ (∀ o, o < (v 1 : Nat) → U.2.1 (c + 1) o = J (pl o now)) ∧ ∀ p, p < (v 1 : Nat) → ∀ t, t < 100 → U.2.1 (c + 2) (100 * p + t) = J (wds v ev pl p t n ||| evb v ev' pl n p t (if p < o then b + 1 else b)) ∧ U.2.1 (c + 3) (100 * p + t) = J (hrs v ev pl p t n + evc v ev' pl n p t (if p < o then b + 1 else b))
theorem C_speak_st {U m : zCS} {a c : Nat} {v : zV} (hV : VOK v) (h : isVal U a v) (hac : ∀ j, j ≤ 10 → ¬ (c ≤ a + j ∧ a + j ≤ c + 3)) {n now p w l b o : Nat} {ev pl : zEv} (hP : PI v n now ev pl) (hp : p < (v 1 : Nat)) (hw : w < 8) (hl : l < 3) (hb : b < 3) (ho : o < (v 1 : Nat)) (hm : Ufr U m (fun q => c ≤ q ∧ q ≤ c + 3)) (hC : CSp v m c n now b o ev (addE ev n (nE p w l now pl)) pl) (F : Int32 → zCS → Option zCS) : ∃ m', gX1_speak_l22 a (J b) (J p) c (J w) (J l) F (J o) m = F (J (o + 1)) m' ∧ Ufr U m' (fun q => c ≤ q ∧ q ≤ c + 3) ∧ CSp v m' c n now b (o + 1) ev (addE ev n (nE p w l now pl)) pl ∧ m'.1 c 2 = m.1 c 2 := by
  have h6 := hV.2.2.1
  have hnow := hP.1
  have hv := isVal_F hm hac h
  obtain ⟨c0, c1, c2, c3⟩ := hC
  have fp := hP.2.2 p hp now (Nat.le_refl _)
  have fo := hP.2.2 o ho now (Nat.le_refl _)
  have hbt_e : ∀ q t, hbt v (addE ev n (nE p w l now pl)) pl n q t b = if b = 0 ∧ p = q then none else if arr v (pl p now) w l now (pl q now) b = some t then wby v w now b else none := fun q t => by
    unfold hbt
    rw [addE_n, addE_n, addE_n, addE_n, addE_n]
    rfl
  -- when nothing is heard
  have nothing : (∀ t, t < 100 → hbt v (addE ev n (nE p w l now pl)) pl n o t b = none) → CSp v m c n now b (o + 1) ev (addE ev n (nE p w l now pl)) pl := fun hz => by
    refine ⟨c0, c1, c2, fun q hq t ht => ?_⟩
    obtain ⟨d1, d2⟩ := c3 q hq t ht
    by_cases hqo : q = o
    · subst hqo
      rw [if_neg (by omega)] at d1 d2
      rw [if_pos (by omega), evb_s, evc_s, hz t ht]
      exact ⟨by rw [d1]; show _ = J (_ ||| (_ ||| 0)); rw [Nat.or_zero], d2⟩
    · by_cases hlt : q < o
      · rw [if_pos hlt] at d1 d2
        rw [if_pos (by omega)]
        exact ⟨d1, d2⟩
      · rw [if_neg hlt] at d1 d2
        rw [if_neg (by omega)]
        exact ⟨d1, d2⟩
  have main : ¬ (b = 0 ∧ p = o) → ∃ m', gX1_speak_b45 m c (J p) (J o) a (J w) (J l) (J b) = some m' ∧ Ufr U m' (fun q => c ≤ q ∧ q ≤ c + 3) ∧ CSp v m' c n now b (o + 1) ev (addE ev n (nE p w l now pl)) pl ∧ m'.1 c 2 = m.1 c 2 := fun hne => by
    unfold gX1_speak_b45
    rw [c0]
    simp (disch := omega) only [wb1, wb2, wb3, wb4, wc1, wc2, zb1_ite, zb2_ite, zb3_ite, zb4_ite, zzc1_ite, zzc2_ite, J_lit, J_n1, J_n2, J_add, J_mul, J_lt, J_le, J_eq, J_eN, N_eJ, J_eN2, J_nn, J_lN, N_lJ, J_leN, N_leJ, NN_l0, NN_eN, bJ_0, bJ_1, bJ_ite, zbz_b, zbz_0, zbz_1, zag_J, zas_J, ite_true, ite_false, if_true, if_false, ite_self, reduceIte, not_true_eq_false, not_false_eq_true, J_o, Nat.reduceEqDiff, Nat.reduceAdd, Nat.reduceMul, Nat.reduceSub, Nat.reduceLT, Nat.reduceLeDiff, Nat.one_ne_zero, c2 p hp, c2 o ho, C_arrival hv hV, C_wordBy hv]
    cases hA : arr v (pl p now) w l now (pl o now) b with
    | none =>
      refine ⟨m, ?_, hm, nothing (fun t ht => by rw [hbt_e, if_neg hne, hA]; rfl), rfl⟩
      unfold gX1_hear
      rw [oJ_n, C_isMinN]
      simp (disch := omega) only [wb1, wb2, wb3, wb4, wc1, wc2, zb1_ite, zb2_ite, zb3_ite, zb4_ite, zzc1_ite, zzc2_ite, J_lit, J_n1, J_n2, J_add, J_mul, J_lt, J_le, J_eq, J_eN, N_eJ, J_eN2, J_nn, J_lN, N_lJ, J_leN, N_leJ, NN_l0, NN_eN, bJ_0, bJ_1, bJ_ite, zbz_b, zbz_0, zbz_1, zag_J, zas_J, ite_true, ite_false, if_true, if_false, ite_self, reduceIte, not_true_eq_false, not_false_eq_true, J_o, Nat.reduceEqDiff, Nat.reduceAdd, Nat.reduceMul, Nat.reduceSub, Nat.reduceLT, Nat.reduceLeDiff, Nat.one_ne_zero]
    | some t0 =>
      have ht0 := arr_le hV fp fo hw (by omega) hA
      by_cases h100 : t0 < 100
      · obtain ⟨y, hy⟩ := arr_wby hA
        have hy8 := wby_lt hV hw hy
        have hbe : ∀ t, hbt v (addE ev n (nE p w l now pl)) pl n o t b = if t = t0 then some y else none := fun t => by
          rw [hbt_e, if_neg hne, hA, hy]
          by_cases htt : t = t0
          · subst htt; rw [if_pos rfl, if_pos rfl]
          · rw [if_neg htt, if_neg (fun z => htt (Option.some.inj z).symm)]
        obtain ⟨d1, d2⟩ := c3 o ho t0 h100
        rw [if_neg (by omega)] at d1 d2
        rw [Nat.mul_comm] at d1 d2
        refine ⟨csA (csA m (c + 2) (upd (m.2.1 (c + 2)) (o * 100 + t0) (J (wds v ev pl o t0 n ||| evb v (addE ev n (nE p w l now pl)) pl n o t0 b ||| 2 ^ y)))) (c + 3) (upd (m.2.1 (c + 3)) (o * 100 + t0) (J (hrs v ev pl o t0 n + evc v (addE ev n (nE p w l now pl)) pl n o t0 b + 1))), ?_, Ufr_t hm (Ufr_t (Ufr_A (by omega)) (Ufr_A (by omega))), ⟨c0, c1, fun q hq => by rw [csA_o2 (by omega), csA_o2 (by omega)]; exact c2 q hq, fun q hq t ht => ?_⟩, rfl⟩
        · unfold gX1_hear
          rw [oJ_s, C_isMin (by omega), decide_eq_true h100, hy, oJ_s]
          simp (disch := omega) only [wb1, wb2, wb3, wb4, wc1, wc2, zb1_ite, zb2_ite, zb3_ite, zb4_ite, zzc1_ite, zzc2_ite, J_lit, J_n1, J_n2, J_add, J_mul, J_lt, J_le, J_eq, J_eN, N_eJ, J_eN2, J_nn, J_lN, N_lJ, J_leN, N_leJ, NN_l0, NN_eN, bJ_0, bJ_1, bJ_ite, zbz_b, zbz_0, zbz_1, zag_J, zas_J, ite_true, ite_false, if_true, if_false, ite_self, reduceIte, not_true_eq_false, not_false_eq_true, J_o, Nat.reduceEqDiff, Nat.reduceAdd, Nat.reduceMul, Nat.reduceSub, Nat.reduceLT, Nat.reduceLeDiff, Nat.one_ne_zero, Bool.true_eq_false, d1, J_shl, J_or, csA_o2, d2]
        · rw [csA_o2 (show c + 2 ≠ c + 3 by omega), csA_1, csA_1]
          obtain ⟨g1, g2⟩ := c3 q hq t ht
          by_cases hqo : q = o
          · subst hqo
            rw [if_neg (by omega)] at g1 g2
            rw [if_pos (by omega), evb_s, evc_s, hbe t]
            by_cases htt : t = t0
            · subst htt
              rw [Nat.mul_comm 100 q, upd_1, upd_1, if_pos rfl]
              exact ⟨by show J (_ ||| _ ||| 2 ^ y) = J (_ ||| (_ ||| 2 ^ y)); rw [Nat.or_assoc], by show J (_ + _ + 1) = J (_ + (_ + 1)); rw [Nat.add_assoc]⟩
            · rw [upd_o (by omega), upd_o (by omega), if_neg htt]
              exact ⟨by rw [g1]; show _ = J (_ ||| (_ ||| 0)); rw [Nat.or_zero], g2⟩
          · rw [upd_o (by omega), upd_o (by omega)]
            by_cases hlt : q < o
            · rw [if_pos hlt] at g1 g2
              rw [if_pos (by omega)]
              exact ⟨g1, g2⟩
            · rw [if_neg hlt] at g1 g2
              rw [if_neg (by omega)]
              exact ⟨g1, g2⟩
      · refine ⟨m, ?_, hm, nothing (fun t ht => by
          rw [hbt_e, if_neg hne, hA, if_neg (fun z => by have := Option.some.inj z; omega)]), rfl⟩
        unfold gX1_hear
        rw [oJ_s, C_isMin (by omega), decide_eq_false h100]
        simp (disch := omega) only [wb1, wb2, wb3, wb4, wc1, wc2, zb1_ite, zb2_ite, zb3_ite, zb4_ite, zzc1_ite, zzc2_ite, J_lit, J_n1, J_n2, J_add, J_mul, J_lt, J_le, J_eq, J_eN, N_eJ, J_eN2, J_nn, J_lN, N_lJ, J_leN, N_leJ, NN_l0, NN_eN, bJ_0, bJ_1, bJ_ite, zbz_b, zbz_0, zbz_1, zag_J, zas_J, ite_true, ite_false, if_true, if_false, ite_self, reduceIte, not_true_eq_false, not_false_eq_true, J_o, Nat.reduceEqDiff, Nat.reduceAdd, Nat.reduceMul, Nat.reduceSub, Nat.reduceLT, Nat.reduceLeDiff, Nat.one_ne_zero]
  unfold gX1_speak_l22
  simp (disch := omega) only [wb1, wb2, wb3, wb4, wc1, wc2, zb1_ite, zb2_ite, zb3_ite, zb4_ite, zzc1_ite, zzc2_ite, J_lit, J_n1, J_n2, J_add, J_mul, J_lt, J_le, J_eq, J_eN, N_eJ, J_eN2, J_nn, J_lN, N_lJ, J_leN, N_leJ, NN_l0, NN_eN, bJ_0, bJ_1, bJ_ite, zbz_b, zbz_0, zbz_1, zag_J, zas_J, ite_true, ite_false, if_true, if_false, ite_self, reduceIte, not_true_eq_false, not_false_eq_true, J_o, Nat.reduceEqDiff, Nat.reduceAdd, Nat.reduceMul, Nat.reduceSub, Nat.reduceLT, Nat.reduceLeDiff, Nat.one_ne_zero, V_p hv]
  rw [if_neg (by omega)]
  by_cases hb0 : b = 0
  · rw [if_pos hb0]
    by_cases hop : o = p
    · rw [if_pos hop]
      exact ⟨m, rfl, hm, nothing (fun t ht => by rw [hbt_e, if_pos ⟨hb0, hop.symm⟩]), rfl⟩
    · rw [if_neg hop]
      obtain ⟨m', e1, r⟩ := main (fun z => hop z.2.symm)
      rw [e1]
      exact ⟨m', by simp (disch := omega) only [wb1, wb2, wb3, wb4, wc1, wc2, zb1_ite, zb2_ite, zb3_ite, zb4_ite, zzc1_ite, zzc2_ite, J_lit, J_n1, J_n2, J_add, J_mul, J_lt, J_le, J_eq, J_eN, N_eJ, J_eN2, J_nn, J_lN, N_lJ, J_leN, N_leJ, NN_l0, NN_eN, bJ_0, bJ_1, bJ_ite, zbz_b, zbz_0, zbz_1, zag_J, zas_J, ite_true, ite_false, if_true, if_false, ite_self, reduceIte, not_true_eq_false, not_false_eq_true, J_o, Nat.reduceEqDiff, Nat.reduceAdd, Nat.reduceMul, Nat.reduceSub, Nat.reduceLT, Nat.reduceLeDiff, Nat.one_ne_zero], r⟩
  · rw [if_neg hb0]
    obtain ⟨m', e1, r⟩ := main (fun z => hb0 z.1)
    rw [e1]
    exact ⟨m', by simp (disch := omega) only [wb1, wb2, wb3, wb4, wc1, wc2, zb1_ite, zb2_ite, zb3_ite, zb4_ite, zzc1_ite, zzc2_ite, J_lit, J_n1, J_n2, J_add, J_mul, J_lt, J_le, J_eq, J_eN, N_eJ, J_eN2, J_nn, J_lN, N_lJ, J_leN, N_leJ, NN_l0, NN_eN, bJ_0, bJ_1, bJ_ite, zbz_b, zbz_0, zbz_1, zag_J, zas_J, ite_true, ite_false, if_true, if_false, ite_self, reduceIte, not_true_eq_false, not_false_eq_true, J_o, Nat.reduceEqDiff, Nat.reduceAdd, Nat.reduceMul, Nat.reduceSub, Nat.reduceLT, Nat.reduceLeDiff, Nat.one_ne_zero], r⟩
