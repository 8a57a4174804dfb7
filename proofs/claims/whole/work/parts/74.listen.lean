/-! where to listen -/
def hrt (v : zV) (c m w x t : Nat) : Bool := (List.range 3).any (fun b => decide (arr v c w 2 m x b = some t))
def inq (v s : zV) (q x t : Nat) : Nat := cnt (fun w => swd v s q w && hrt v (q / 100) (q % 100) w x t) 8
def Lq (v s : zV) (x t : Nat) : Nat → Nat := itr (fun q y => y + inq v s q x t) 0
theorem Lq_s {v s : zV} {x t q : Nat} : Lq v s x t (q + 1) = Lq v s x t q + inq v s q x t := rfl
theorem Lq_le {v s : zV} {x t : Nat} : ∀ q, Lq v s x t q ≤ Bq v s q
  | 0 => Nat.le_refl _
  | q + 1 => by
    have h1 := Lq_le (v := v) (s := s) (x := x) (t := t) q
    have h2 : inq v s q x t ≤ cnt (swd v s q) 8 := cnt_mono (fun w _ h => by rw [Bool.and_eq_true] at h; exact h.1)
    rw [Lq_s, Bq_s]; omega
def hrow (U : zCS) (e : Nat) (G : Nat → Nat → Nat) : Prop := ∀ x, x < 31 → ∀ t, t < 100 → U.2.1 (e + 1) (100 * x + t) = J (G x t)
theorem hrow_c {U : zCS} {e : Nat} {G H : Nat → Nat → Nat} (h : hrow U e G) (hG : ∀ x, x < 31 → ∀ t, t < 100 → G x t = H x t) : hrow U e H := fun x hx t ht => by rw [h x hx t ht, hG x hx t ht]
theorem C_hit {U : zCS} {e x t n : Nat} {G : Nat → Nat → Nat} (h : hrow U e G) (hx : x < 31) (ht : t < 100000) : ∃ U', gX5_hit U e (J x) (J t) (J n) = some U' ∧ Uarr U U' (fun q => q = e + 1) ∧ hrow U' e (fun y u => G y u + if y = x ∧ u = t then n else 0) := by
  unfold gX5_hit
  rw [C_isMin ht]
  by_cases h1 : t < 100
  · have hg := h x hx t h1
    rw [Nat.mul_comm] at hg
    refine ⟨csA U (e + 1) (upd (U.2.1 (e + 1)) (x * 100 + t) (J (G x t + n))), ?_, Uarr_A rfl, fun y hy u hu => ?_⟩
    · rw [decide_eq_true h1]
      simp (disch := omega) only [wb1, wb2, wb3, wb4, wc1, wc2, zb1_ite, zb2_ite, zb3_ite, zb4_ite, zzc1_ite, zzc2_ite, J_lit, J_n1, J_n2, J_add, J_mul, J_lt, J_le, J_eq, J_eN, N_eJ, J_eN2, J_nn, J_lN, N_lJ, J_leN, N_leJ, NN_l0, NN_eN, bJ_0, bJ_1, bJ_ite, zbz_b, zbz_0, zbz_1, zag_J, zas_J, ite_true, ite_false, if_true, if_false, ite_self, reduceIte, not_true_eq_false, not_false_eq_true, J_o, Nat.reduceEqDiff, Nat.reduceAdd, Nat.reduceMul, Nat.reduceSub, Nat.reduceLT, Nat.reduceLeDiff, Nat.one_ne_zero, Bool.true_eq_false, hg]
    · rw [csA_1]
      by_cases hc : y = x ∧ u = t
      · obtain ⟨rfl, rfl⟩ := hc
        rw [Nat.mul_comm 100 y, upd_1]
        simp
      · rw [upd_o (by omega)]
        simp only [if_neg hc, Nat.add_zero]
        exact h y hy u hu
  · refine ⟨U, ?_, Uarr_r, hrow_c h (fun y _ u hu => by rw [if_neg (by omega), Nat.add_zero])⟩
    rw [decide_eq_false h1]
    simp (disch := omega) only [wb1, wb2, wb3, wb4, wc1, wc2, zb1_ite, zb2_ite, zb3_ite, zb4_ite, zzc1_ite, zzc2_ite, J_lit, J_n1, J_n2, J_add, J_mul, J_lt, J_le, J_eq, J_eN, N_eJ, J_eN2, J_nn, J_lN, N_lJ, J_leN, N_leJ, NN_l0, NN_eN, bJ_0, bJ_1, bJ_ite, zbz_b, zbz_0, zbz_1, zag_J, zas_J, ite_true, ite_false, if_true, if_false, ite_self, reduceIte, not_true_eq_false, not_false_eq_true, J_o, Nat.reduceEqDiff, Nat.reduceAdd, Nat.reduceMul, Nat.reduceSub, Nat.reduceLT, Nat.reduceLeDiff, Nat.one_ne_zero]
theorem C_hitN {U : zCS} {e : Nat} {x y : Int32} : gX5_hit U e x NN y = some U := by
  unfold gX5_hit
  rw [C_isMinN]
  simp (disch := omega) only [wb1, wb2, wb3, wb4, wc1, wc2, zb1_ite, zb2_ite, zb3_ite, zb4_ite, zzc1_ite, zzc2_ite, J_lit, J_n1, J_n2, J_add, J_mul, J_lt, J_le, J_eq, J_eN, N_eJ, J_eN2, J_nn, J_lN, N_lJ, J_leN, N_leJ, NN_l0, NN_eN, bJ_0, bJ_1, bJ_ite, zbz_b, zbz_0, zbz_1, zag_J, zas_J, ite_true, ite_false, if_true, if_false, ite_self, reduceIte, not_true_eq_false, not_false_eq_true, J_o, Nat.reduceEqDiff, Nat.reduceAdd, Nat.reduceMul, Nat.reduceSub, Nat.reduceLT, Nat.reduceLeDiff, Nat.one_ne_zero]
theorem C_hitByJudge {U : zCS} {e x so tv lg : Nat} {te : Option Nat} {G : Nat → Nat → Nat} {bt : Nat → Nat} (h : hrow U e G) (hb : ∀ k, k < 10 → U.2.1 (e + 2) k = J (bt k)) (hl : U.1 e 2 = J lg) (hlg : lg < 10) (hx : x < 31) (hso : so < 10000) (htv : tv < 10000) (hte : ∀ t, te = some t → t < 10000) : ∃ U', gX5_hitByJudge U e (J x) (J so) (J tv) (oJ te) = some U' ∧ Uarr U U' (fun q => q = e + 1) ∧ hrow U' e (fun y u => G y u + if y = x ∧ so ≤ u ∧ u - so ≤ lg ∧ u ≠ tv ∧ te ≠ some u then bt (u - so) else 0) := by
  unfold gX5_hitByJudge
  obtain ⟨r, e1, hQ⟩ := zf2_inv (f := gX5_hitByJudge_l3 e (J so) (J tv) (oJ te) (J x)) (lg + 1) (fun i z m => z = J i ∧ Uarr U m (fun q => q = e + 1) ∧ hrow m e (fun y u => G y u + if y = x ∧ so ≤ u ∧ u - so < i ∧ u ≠ tv ∧ te ≠ some u then bt (u - so) else 0)) (fun m => Uarr U m (fun q => q = e + 1) ∧ hrow m e (fun y u => G y u + if y = x ∧ so ≤ u ∧ u - so ≤ lg ∧ u ≠ tv ∧ te ≠ some u then bt (u - so) else 0)) (by
    intro i z m hi hP F
    obtain ⟨rfl, hm, hr⟩ := hP
    have hml : m.1 e 2 = J lg := by rw [hm.1]; exact hl
    have hmb : m.2.1 (e + 2) i = J (bt i) := by rw [hm.2.2 (e + 2) (by omega)]; exact hb i (by omega)
    have skip : (so + i = tv ∨ te = some (so + i)) → hrow m e (fun y u => G y u + if y = x ∧ so ≤ u ∧ u - so < i + 1 ∧ u ≠ tv ∧ te ≠ some u then bt (u - so) else 0) := fun hs => hrow_c hr (fun y _ u _ => by
      by_cases hu : u = so + i
      · subst hu
        rw [if_neg (fun z => by omega), if_neg (fun z => by rcases hs with hs | hs; exact z.2.2.2.1 hs; exact z.2.2.2.2 hs)]
      · by_cases hc : y = x ∧ so ≤ u ∧ u - so < i ∧ u ≠ tv ∧ te ≠ some u
        · rw [if_pos hc, if_pos ⟨hc.1, hc.2.1, by omega, hc.2.2.2⟩]
        · rw [if_neg hc, if_neg (fun z => hc ⟨z.1, z.2.1, by omega, z.2.2.2⟩)])
    by_cases c1 : so + i = tv
    · refine ⟨J (i + 1), m, ?_, rfl, hm, skip (.inl c1)⟩
      unfold gX5_hitByJudge_l3
      rw [hml]
      simp (disch := omega) only [wb1, wb2, wb3, wb4, wc1, wc2, zb1_ite, zb2_ite, zb3_ite, zb4_ite, zzc1_ite, zzc2_ite, J_lit, J_n1, J_n2, J_add, J_mul, J_lt, J_le, J_eq, J_eN, N_eJ, J_eN2, J_nn, J_lN, N_lJ, J_leN, N_leJ, NN_l0, NN_eN, bJ_0, bJ_1, bJ_ite, zbz_b, zbz_0, zbz_1, zag_J, zas_J, ite_true, ite_false, if_true, if_false, ite_self, reduceIte, not_true_eq_false, not_false_eq_true, J_o, Nat.reduceEqDiff, Nat.reduceAdd, Nat.reduceMul, Nat.reduceSub, Nat.reduceLT, Nat.reduceLeDiff, Nat.one_ne_zero, eq_true c1]
      rw [if_neg (by omega)]
    · by_cases c2 : te = some (so + i)
      · refine ⟨J (i + 1), m, ?_, rfl, hm, skip (.inr c2)⟩
        unfold gX5_hitByJudge_l3
        rw [hml, c2, oJ_s]
        simp (disch := omega) only [wb1, wb2, wb3, wb4, wc1, wc2, zb1_ite, zb2_ite, zb3_ite, zb4_ite, zzc1_ite, zzc2_ite, J_lit, J_n1, J_n2, J_add, J_mul, J_lt, J_le, J_eq, J_eN, N_eJ, J_eN2, J_nn, J_lN, N_lJ, J_leN, N_leJ, NN_l0, NN_eN, bJ_0, bJ_1, bJ_ite, zbz_b, zbz_0, zbz_1, zag_J, zas_J, ite_true, ite_false, if_true, if_false, ite_self, reduceIte, not_true_eq_false, not_false_eq_true, J_o, Nat.reduceEqDiff, Nat.reduceAdd, Nat.reduceMul, Nat.reduceSub, Nat.reduceLT, Nat.reduceLeDiff, Nat.one_ne_zero, eq_false c1]
        rw [if_neg (by omega)]
      · obtain ⟨m2, e2, hm2, hr2⟩ := C_hit (n := bt i) hr hx (show so + i < 100000 by omega)
        refine ⟨J (i + 1), m2, ?_, rfl, Uarr_t hm hm2, hrow_c hr2 (fun y _ u _ => ?_)⟩
        · have hne : ¬ J (so + i) = oJ te := fun z => by
            cases ht : te with
            | none => rw [ht, oJ_n, J_eN (by omega)] at z; exact z
            | some t => rw [ht, oJ_s, J_eq (by omega) (by have := hte t ht; omega)] at z; exact c2 (by rw [ht, z])
          unfold gX5_hitByJudge_l3
          rw [hml]
          simp (disch := omega) only [wb1, wb2, wb3, wb4, wc1, wc2, zb1_ite, zb2_ite, zb3_ite, zb4_ite, zzc1_ite, zzc2_ite, J_lit, J_n1, J_n2, J_add, J_mul, J_lt, J_le, J_eq, J_eN, N_eJ, J_eN2, J_nn, J_lN, N_lJ, J_leN, N_leJ, NN_l0, NN_eN, bJ_0, bJ_1, bJ_ite, zbz_b, zbz_0, zbz_1, zag_J, zas_J, ite_true, ite_false, if_true, if_false, ite_self, reduceIte, not_true_eq_false, not_false_eq_true, J_o, Nat.reduceEqDiff, Nat.reduceAdd, Nat.reduceMul, Nat.reduceSub, Nat.reduceLT, Nat.reduceLeDiff, Nat.one_ne_zero, eq_false c1, eq_false hne, hmb, e2]
          rw [if_neg (by omega)]
        · by_cases hu : y = x ∧ u = so + i
          · obtain ⟨rfl, rfl⟩ := hu
            rw [if_neg (fun z => by omega), if_pos ⟨rfl, rfl⟩, if_pos ⟨rfl, by omega, by omega, c1, c2⟩, show so + i - so = i by omega, Nat.add_zero]
          · rw [if_neg hu, Nat.add_zero]
            by_cases hc : y = x ∧ so ≤ u ∧ u - so < i ∧ u ≠ tv ∧ te ≠ some u
            · rw [if_pos hc, if_pos ⟨hc.1, hc.2.1, by omega, hc.2.2.2⟩]
            · rw [if_neg hc, if_neg (fun z => hc ⟨z.1, z.2.1, by omega, z.2.2.2⟩)]) (by
    intro z m hP F
    obtain ⟨rfl, hm, hr⟩ := hP
    have hml : m.1 e 2 = J lg := by rw [hm.1]; exact hl
    refine ⟨m, ?_, hm, hrow_c hr (fun y _ u _ => ?_)⟩
    · unfold gX5_hitByJudge_l3
      rw [hml]
      simp (disch := omega) only [wb1, wb2, wb3, wb4, wc1, wc2, zb1_ite, zb2_ite, zb3_ite, zb4_ite, zzc1_ite, zzc2_ite, J_lit, J_n1, J_n2, J_add, J_mul, J_lt, J_le, J_eq, J_eN, N_eJ, J_eN2, J_nn, J_lN, N_lJ, J_leN, N_leJ, NN_l0, NN_eN, bJ_0, bJ_1, bJ_ite, zbz_b, zbz_0, zbz_1, zag_J, zas_J, ite_true, ite_false, if_true, if_false, ite_self, reduceIte, not_true_eq_false, not_false_eq_true, J_o, Nat.reduceEqDiff, Nat.reduceAdd, Nat.reduceMul, Nat.reduceSub, Nat.reduceLT, Nat.reduceLeDiff, Nat.one_ne_zero]
      rw [if_pos (by omega)]
    · by_cases hc : y = x ∧ so ≤ u ∧ u - so < lg + 1 ∧ u ≠ tv ∧ te ≠ some u
      · rw [if_pos hc, if_pos ⟨hc.1, hc.2.1, by omega, hc.2.2.2⟩]
      · rw [if_neg hc, if_neg (fun z => hc ⟨z.1, z.2.1, by omega, z.2.2.2⟩)]) (zfu_lt (n := lg + 1) (by omega)) (x0 := J 0) (x1 := U) ⟨rfl, Uarr_r, hrow_c h (fun y _ u _ => by rw [if_neg (fun z => by omega), Nat.add_zero])⟩
  exact ⟨r, congrArg (zb1 · fun x => some x) e1, hQ⟩
/-- words by their thought -/
def btq (v s : zV) (q k : Nat) : Nat → Nat := cnt (fun w => swd v s q w && decide ((v (11 + w) : Nat) = k))
def lgq (v s : zV) (q : Nat) : Nat → Nat := itr (fun w x => if swd v s q w then max x (v (11 + w)) else x) 0
theorem lgq_ok {v s : zV} (hV : VOK v) {q : Nat} : ∀ n, n ≤ 8 → lgq v s q n < 10 ∧ ∀ w, w < n → swd v s q w = true → (v (11 + w) : Nat) ≤ lgq v s q n
  | 0, _ => ⟨by show 0 < 10; omega, fun w hw => by omega⟩
  | n + 1, hn => by
    obtain ⟨h1, h2⟩ := lgq_ok hV (s := s) (q := q) n (by omega)
    have h3 := hV.2.2.2.2.2.1 n (by omega)
    have e : lgq v s q (n + 1) = if swd v s q n then max (lgq v s q n) (v (11 + n)) else lgq v s q n := rfl
    rw [e]
    cases hs : swd v s q n
    · simp only [Bool.false_eq_true, if_false]
      refine ⟨h1, fun w hw hws => ?_⟩
      by_cases hwn : w = n
      · rw [hwn, hs] at hws; cases hws
      · exact h2 w (by omega) hws
    · simp only [if_true]
      refine ⟨by omega, fun w hw hws => ?_⟩
      by_cases hwn : w = n
      · subst hwn; omega
      · have := h2 w (by omega) hws; omega
theorem C_countByThought {U : zCS} {a e : Nat} {v s : zV} (h : isVal U a v) (hV : VOK v) (hae : ∀ j, j ≤ 10 → ¬ (e ≤ a + j ∧ a + j ≤ e + 2)) {q : Nat} : ∃ U', gX5_countByThought U e a (J (bts (swd v s q) 8)) = some U' ∧ Ufr U U' (fun q => e ≤ q ∧ q ≤ e + 2) ∧ U'.2.1 (e + 1) = U.2.1 (e + 1) ∧ (∀ k, k < 10 → U'.2.1 (e + 2) k = J (btq v s q k 8)) ∧ U'.1 e 2 = J (lgq v s q 8) := by
  obtain ⟨U4, e1, u1, z1⟩ := C_fill (U := U) (n := 10) (a := e + 2) (x := J 0) (by omega)
  have hf0 : Ufr U (csI U4 e 2 (J 0)) (fun q => e ≤ q ∧ q ≤ e + 2) := Ufr_t (Ufr_U u1 (fun q hq => by omega)) (Ufr_I (by omega))
  obtain ⟨r, e2, q1, q2, q3, q4⟩ := zf2_inv (f := gX5_countByThought_l15 (J (bts (swd v s q) 8)) a e) 8 (fun i z m => z = J i ∧ Ufr U m (fun q => e ≤ q ∧ q ≤ e + 2) ∧ m.2.1 (e + 1) = U.2.1 (e + 1) ∧ (∀ k, k < 10 → m.2.1 (e + 2) k = J (btq v s q k i)) ∧ m.1 e 2 = J (lgq v s q i)) (fun m => Ufr U m (fun q => e ≤ q ∧ q ≤ e + 2) ∧ m.2.1 (e + 1) = U.2.1 (e + 1) ∧ (∀ k, k < 10 → m.2.1 (e + 2) k = J (btq v s q k 8)) ∧ m.1 e 2 = J (lgq v s q 8)) (by
    intro i z m hi hP F
    obtain ⟨rfl, hm, hr1, hr2, hr3⟩ := hP
    have hv := isVal_F hm hae h
    have ht := hV.2.2.2.2.2.1 i hi
    have hl := (lgq_ok hV (s := s) (q := q) i (by omega)).1
    have hb : (bts (swd v s q) 8).testBit i = swd v s q i := by rw [bts_t]; simp; omega
    unfold gX5_countByThought_l15
    simp (disch := omega) only [wb1, wb2, wb3, wb4, wc1, wc2, zb1_ite, zb2_ite, zb3_ite, zb4_ite, zzc1_ite, zzc2_ite, J_lit, J_n1, J_n2, J_add, J_mul, J_lt, J_le, J_eq, J_eN, N_eJ, J_eN2, J_nn, J_lN, N_lJ, J_leN, N_leJ, NN_l0, NN_eN, bJ_0, bJ_1, bJ_ite, zbz_b, zbz_0, zbz_1, zag_J, zas_J, ite_true, ite_false, if_true, if_false, ite_self, reduceIte, not_true_eq_false, not_false_eq_true, J_o, Nat.reduceEqDiff, Nat.reduceAdd, Nat.reduceMul, Nat.reduceSub, Nat.reduceLT, Nat.reduceLeDiff, Nat.one_ne_zero, J_bit8 (bts (swd v s q) 8) bts_256 i hi, hb, V_th hv]
    rw [if_neg (by omega)]
    cases hs : swd v s q i
    · refine ⟨J (i + 1), m, by rw [if_pos rfl], rfl, hm, hr1, fun k hk => ?_, ?_⟩
      · rw [hr2 k hk]; unfold btq; rw [cnt_s, hs]; rfl
      · rw [hr3]; show _ = J (if swd v s q i then _ else _); rw [hs]; rfl
    · have hb2 := hr2 (v (11 + i)) (by omega)
      refine ⟨J (i + 1), csI (csA m (e + 2) (upd (m.2.1 (e + 2)) (v (11 + i)) (J (btq v s q (v (11 + i)) i + 1)))) e 2 (J (lgq v s q (i + 1))), ?_, rfl, Ufr_t hm (Ufr_t (Ufr_A (by omega)) (Ufr_I (by omega))), ?_, fun k hk => ?_, csI_1⟩
      · have hv2 : (csA m (e + 2) (upd (m.2.1 (e + 2)) (v (11 + i)) (J (btq v s q (v (11 + i)) i + 1)))).2.1 (a + 2) = m.2.1 (a + 2) := csA_o2 (fun z => hae 2 (by omega) (by omega))
        simp (disch := omega) only [wb1, wb2, wb3, wb4, wc1, wc2, zb1_ite, zb2_ite, zb3_ite, zb4_ite, zzc1_ite, zzc2_ite, J_lit, J_n1, J_n2, J_add, J_mul, J_lt, J_le, J_eq, J_eN, N_eJ, J_eN2, J_nn, J_lN, N_lJ, J_leN, N_leJ, NN_l0, NN_eN, bJ_0, bJ_1, bJ_ite, zbz_b, zbz_0, zbz_1, zag_J, zas_J, ite_true, ite_false, if_true, if_false, ite_self, reduceIte, not_true_eq_false, not_false_eq_true, J_o, Nat.reduceEqDiff, Nat.reduceAdd, Nat.reduceMul, Nat.reduceSub, Nat.reduceLT, Nat.reduceLeDiff, Nat.one_ne_zero, hb2, hv2, V_th hv, csA_i, hr3, max_ite]
        rw [if_neg (by decide)]
        show F _ (csI _ e 2 (J (max _ _))) = F _ (csI _ e 2 (J (if swd v s q i then _ else _)))
        rw [hs]
        rfl
      · rw [csI_a, csA_o2 (by omega)]; exact hr1
      · rw [csI_a, csA_1]
        unfold btq
        rw [cnt_s, hs]
        by_cases hki : k = (v (11 + i) : Nat)
        · subst hki; rw [upd_1]; simp [btq]
        · rw [upd_o hki, hr2 k hk]
          simp [btq, show ¬ (v (11 + i) : Nat) = k from fun z => hki z.symm]) (by
    intro z m hP F
    obtain ⟨rfl, hP⟩ := hP
    simp (disch := omega) only [gX5_countByThought_l15, wb1, wb2, wb3, wb4, wc1, wc2, zb1_ite, zb2_ite, zb3_ite, zb4_ite, zzc1_ite, zzc2_ite, J_lit, J_n1, J_n2, J_add, J_mul, J_lt, J_le, J_eq, J_eN, N_eJ, J_eN2, J_nn, J_lN, N_lJ, J_leN, N_leJ, NN_l0, NN_eN, bJ_0, bJ_1, bJ_ite, zbz_b, zbz_0, zbz_1, zag_J, zas_J, ite_true, ite_false, if_true, if_false, ite_self, reduceIte, not_true_eq_false, not_false_eq_true, J_o, Nat.reduceEqDiff, Nat.reduceAdd, Nat.reduceMul, Nat.reduceSub, Nat.reduceLT, Nat.reduceLeDiff, Nat.one_ne_zero]
    exact ⟨m, rfl, hP⟩) (zfu_lt (n := 8) (by omega)) (x0 := J 0) (x1 := csI U4 e 2 (J 0)) ⟨rfl, hf0, by rw [csI_a]; exact u1.2.2 (e + 1) (by omega), fun k hk => by rw [csI_a, z1 k hk]; rfl, csI_1⟩
  refine ⟨r, ?_, q1, q2, q3, q4⟩
  unfold gX5_countByThought
  simp (disch := omega) only [wb1, wb2, wb3, wb4, wc1, wc2, zb1_ite, zb2_ite, zb3_ite, zb4_ite, zzc1_ite, zzc2_ite, J_lit, J_n1, J_n2, J_add, J_mul, J_lt, J_le, J_eq, J_eN, N_eJ, J_eN2, J_nn, J_lN, N_lJ, J_leN, N_leJ, NN_l0, NN_eN, bJ_0, bJ_1, bJ_ite, zbz_b, zbz_0, zbz_1, zag_J, zas_J, ite_true, ite_false, if_true, if_false, ite_self, reduceIte, not_true_eq_false, not_false_eq_true, J_o, Nat.reduceEqDiff, Nat.reduceAdd, Nat.reduceMul, Nat.reduceSub, Nat.reduceLT, Nat.reduceLeDiff, Nat.one_ne_zero]
  rw [e1]
  simp (disch := omega) only [wb1, wb2, wb3, wb4, wc1, wc2, zb1_ite, zb2_ite, zb3_ite, zb4_ite, zzc1_ite, zzc2_ite, J_lit, J_n1, J_n2, J_add, J_mul, J_lt, J_le, J_eq, J_eN, N_eJ, J_eN2, J_nn, J_lN, N_lJ, J_leN, N_leJ, NN_l0, NN_eN, bJ_0, bJ_1, bJ_ite, zbz_b, zbz_0, zbz_1, zag_J, zas_J, ite_true, ite_false, if_true, if_false, ite_self, reduceIte, not_true_eq_false, not_false_eq_true, J_o, Nat.reduceEqDiff, Nat.reduceAdd, Nat.reduceMul, Nat.reduceSub, Nat.reduceLT, Nat.reduceLeDiff, Nat.one_ne_zero, e2]
