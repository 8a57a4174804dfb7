/-! counts, least and greatest -/
def cnt (p : Nat → Bool) : Nat → Nat
  | 0 => 0
  | n + 1 => cnt p n + (if p n then 1 else 0)
theorem cnt_s {p : Nat → Bool} {n : Nat} : cnt p (n + 1) = cnt p n + (if p n then 1 else 0) := rfl
theorem cnt_le {p : Nat → Bool} : ∀ n, cnt p n ≤ n
  | 0 => Nat.le_refl _
  | n + 1 => by have := cnt_le (p := p) n; rw [cnt_s]; split <;> omega
theorem cnt_c {p q : Nat → Bool} : ∀ {n : Nat}, (∀ i, i < n → p i = q i) → cnt p n = cnt q n
  | 0, _ => rfl
  | n + 1, h => by rw [cnt_s, cnt_s, cnt_c (fun i hi => h i (by omega)), h n (by omega)]
theorem cnt_f {p : Nat → Bool} : ∀ n, cnt p (n + 1) = (if p 0 then 1 else 0) + cnt (fun i => p (i + 1)) n
  | 0 => by simp [cnt]
  | n + 1 => by rw [cnt_s, cnt_f n, cnt_s]; omega
theorem cnt_rev {p : Nat → Bool} : ∀ w, cnt (fun j => p (w - j)) (w + 1) = cnt p (w + 1)
  | 0 => rfl
  | w + 1 => by
    have ih := cnt_rev (p := p) w
    have e : (fun i => p (w + 1 - (i + 1))) = fun j => p (w - j) := funext fun i => by rw [Nat.add_sub_add_right]
    rw [cnt_f, cnt_s (n := w + 1)]
    show _ + cnt (fun i => p (w + 1 - (i + 1))) (w + 1) = _
    rw [e, ih, Nat.add_comm]
    try simp
/-- the first place of the least, of the greatest, up to n -/
def amin (f : Nat → Nat) : Nat → Nat
  | 0 => 0
  | n + 1 => if f (n + 1) < f (amin f n) then n + 1 else amin f n
def amax (f : Nat → Nat) : Nat → Nat
  | 0 => 0
  | n + 1 => if f (amax f n) < f (n + 1) then n + 1 else amax f n
theorem amin_le {f : Nat → Nat} : ∀ n, amin f n ≤ n
  | 0 => Nat.le_refl _
  | n + 1 => by have := amin_le (f := f) n; unfold amin; split <;> omega
theorem amax_le {f : Nat → Nat} : ∀ n, amax f n ≤ n
  | 0 => Nat.le_refl _
  | n + 1 => by have := amax_le (f := f) n; unfold amax; split <;> omega
/-! who hears from where -/
def bit (s p : Nat) : Bool := s.testBit p
theorem J_bit : ∀ s, s < 64 → ∀ p, p < 6 → ((J s >>> (J p &&& J 31)) &&& J 1) = bJ (bit s p) := by decide +kernel
def hrd (v : zV) (f s l m : Nat) : Bool := (List.range (v 1)).any fun p => bit s p && ((List.range 3).any fun b => car v f l m (v (33 + p)) b)
theorem rng3 {p : Nat → Bool} : (List.range 3).any p = (p 0 || p 1 || p 2) := by
  rw [show List.range 3 = [0, 1, 2] from rfl]
  simp [Bool.or_assoc]
theorem C_isSilent_in {U : zCS} {a : Nat} {v : zV} (h : isVal U a v) (hV : VOK v) {f i l m : Nat} (hf : f ≤ (v 0 : Nat)) (hi : i < (v 1 : Nat)) (hl : l < 3) (hm : m < 100) (F : Int32 → Option Int32) : zf1 (gX0_isSilent_l27 F (J i) U a (J f) (J l) (J m)) zfu (J 0) = if (List.range 3).any (fun b => car v f l m (v (33 + i)) b) then some (J 0) else F (J (i + 1)) := by
  have hp := hV.2.2.1
  have h3 := (hV.2.2.2.2.2.2 i hi).2
  refine zf1_any 3 _ _ _ (by omega) ?_ ?_ ?_
  · intro b hb hc G
    simp (disch := omega) only [gX0_isSilent_l27, wb1, wb2, wb3, wb4, wc1, wc2, zb1_ite, zb2_ite, zb3_ite, zb4_ite, zzc1_ite, zzc2_ite, J_lit, J_n1, J_n2, J_add, J_mul, J_lt, J_le, J_eq, J_eN, N_eJ, J_eN2, J_nn, J_lN, N_lJ, J_leN, N_leJ, NN_l0, NN_eN, bJ_0, bJ_1, bJ_ite, zbz_b, zbz_0, zbz_1, zag_J, zas_J, ite_true, ite_false, if_true, if_false, ite_self, reduceIte, not_true_eq_false, not_false_eq_true, J_o, Nat.reduceEqDiff, Nat.reduceAdd, Nat.reduceMul, Nat.reduceSub, Nat.reduceLT, Nat.reduceLeDiff, Nat.one_ne_zero, V_pl h, C_carries h hV, hc]
    simp [show ¬ 2 < b by omega]
  · intro b hb hc G
    simp (disch := omega) only [gX0_isSilent_l27, wb1, wb2, wb3, wb4, wc1, wc2, zb1_ite, zb2_ite, zb3_ite, zb4_ite, zzc1_ite, zzc2_ite, J_lit, J_n1, J_n2, J_add, J_mul, J_lt, J_le, J_eq, J_eN, N_eJ, J_eN2, J_nn, J_lN, N_lJ, J_leN, N_leJ, NN_l0, NN_eN, bJ_0, bJ_1, bJ_ite, zbz_b, zbz_0, zbz_1, zag_J, zas_J, ite_true, ite_false, if_true, if_false, ite_self, reduceIte, not_true_eq_false, not_false_eq_true, J_o, Nat.reduceEqDiff, Nat.reduceAdd, Nat.reduceMul, Nat.reduceSub, Nat.reduceLT, Nat.reduceLeDiff, Nat.one_ne_zero, V_pl h, C_carries h hV, hc]
    simp [show ¬ 2 < b by omega]
  · intro G
    simp (disch := omega) only [gX0_isSilent_l27, wb1, wb2, wb3, wb4, wc1, wc2, zb1_ite, zb2_ite, zb3_ite, zb4_ite, zzc1_ite, zzc2_ite, J_lit, J_n1, J_n2, J_add, J_mul, J_lt, J_le, J_eq, J_eN, N_eJ, J_eN2, J_nn, J_lN, N_lJ, J_leN, N_leJ, NN_l0, NN_eN, bJ_0, bJ_1, bJ_ite, zbz_b, zbz_0, zbz_1, zag_J, zas_J, ite_true, ite_false, if_true, if_false, ite_self, reduceIte, not_true_eq_false, not_false_eq_true, J_o, Nat.reduceEqDiff, Nat.reduceAdd, Nat.reduceMul, Nat.reduceSub, Nat.reduceLT, Nat.reduceLeDiff, Nat.one_ne_zero]
    try simp
theorem C_isSilent {U : zCS} {a : Nat} {v : zV} (h : isVal U a v) (hV : VOK v) {f s l m : Nat} (hf : f ≤ (v 0 : Nat)) (hs : s < 64) (hl : l < 3) (hm : m < 100) : gX0_isSilent U a (J f) (J s) (J l) (J m) = some (bJ (!hrd v f s l m)) := by
  have hp := hV.2.2.1
  unfold gX0_isSilent
  refine (zf1_any (v 1) (fun p => bit s p && ((List.range 3).any fun b => car v f l m (v (33 + p)) b)) (some (J 0)) (some (J 1)) (by omega) ?_ ?_ ?_).trans ?_
  · intro i hi hq F
    unfold gX0_isSilent_l3
    simp (disch := omega) only [wb1, wb2, wb3, wb4, wc1, wc2, zb1_ite, zb2_ite, zb3_ite, zb4_ite, zzc1_ite, zzc2_ite, J_lit, J_n1, J_n2, J_add, J_mul, J_lt, J_le, J_eq, J_eN, N_eJ, J_eN2, J_nn, J_lN, N_lJ, J_leN, N_leJ, NN_l0, NN_eN, bJ_0, bJ_1, bJ_ite, zbz_b, zbz_0, zbz_1, zag_J, zas_J, ite_true, ite_false, if_true, if_false, ite_self, reduceIte, not_true_eq_false, not_false_eq_true, J_o, Nat.reduceEqDiff, Nat.reduceAdd, Nat.reduceMul, Nat.reduceSub, Nat.reduceLT, Nat.reduceLeDiff, Nat.one_ne_zero, V_p h, J_bit s hs i (by omega), C_isSilent_in h hV hf hi hl hm]
    rw [if_neg (by omega)]
    cases hb : bit s i
    · rfl
    · simp only [hb, Bool.true_and] at hq
      simp [hq]
  · intro i hi hq F
    unfold gX0_isSilent_l3
    rw [Bool.and_eq_true] at hq
    simp (disch := omega) only [wb1, wb2, wb3, wb4, wc1, wc2, zb1_ite, zb2_ite, zb3_ite, zb4_ite, zzc1_ite, zzc2_ite, J_lit, J_n1, J_n2, J_add, J_mul, J_lt, J_le, J_eq, J_eN, N_eJ, J_eN2, J_nn, J_lN, N_lJ, J_leN, N_leJ, NN_l0, NN_eN, bJ_0, bJ_1, bJ_ite, zbz_b, zbz_0, zbz_1, zag_J, zas_J, ite_true, ite_false, if_true, if_false, ite_self, reduceIte, not_true_eq_false, not_false_eq_true, J_o, Nat.reduceEqDiff, Nat.reduceAdd, Nat.reduceMul, Nat.reduceSub, Nat.reduceLT, Nat.reduceLeDiff, Nat.one_ne_zero, V_p h, J_bit s hs i (by omega), C_isSilent_in h hV hf hi hl hm, hq.1, hq.2]
    rw [if_neg (by omega)]
    try simp
  · intro F
    unfold gX0_isSilent_l3
    simp (disch := omega) only [wb1, wb2, wb3, wb4, wc1, wc2, zb1_ite, zb2_ite, zb3_ite, zb4_ite, zzc1_ite, zzc2_ite, J_lit, J_n1, J_n2, J_add, J_mul, J_lt, J_le, J_eq, J_eN, N_eJ, J_eN2, J_nn, J_lN, N_lJ, J_leN, N_leJ, NN_l0, NN_eN, bJ_0, bJ_1, bJ_ite, zbz_b, zbz_0, zbz_1, zag_J, zas_J, ite_true, ite_false, if_true, if_false, ite_self, reduceIte, not_true_eq_false, not_false_eq_true, J_o, Nat.reduceEqDiff, Nat.reduceAdd, Nat.reduceMul, Nat.reduceSub, Nat.reduceLT, Nat.reduceLeDiff, Nat.one_ne_zero, V_p h]
    try simp
  · unfold hrd
    split <;> rename_i h1
    · rw [h1]; rfl
    · rw [Bool.eq_false_iff.mpr h1]; rfl
theorem R_has {s p : Nat} (hs : s < 64) (hp : p < 6) : gX12_has (J s) (J p) = some (bJ (bit s p)) := by
  unfold gX12_has
  simp (disch := omega) only [wb1, wb2, wb3, wb4, wc1, wc2, zb1_ite, zb2_ite, zb3_ite, zb4_ite, zzc1_ite, zzc2_ite, J_lit, J_n1, J_n2, J_add, J_mul, J_lt, J_le, J_eq, J_eN, N_eJ, J_eN2, J_nn, J_lN, N_lJ, J_leN, N_leJ, NN_l0, NN_eN, bJ_0, bJ_1, bJ_ite, zbz_b, zbz_0, zbz_1, zag_J, zas_J, ite_true, ite_false, if_true, if_false, ite_self, reduceIte, not_true_eq_false, not_false_eq_true, J_o, Nat.reduceEqDiff, Nat.reduceAdd, Nat.reduceMul, Nat.reduceSub, Nat.reduceLT, Nat.reduceLeDiff, Nat.one_ne_zero, J_bit s hs p hp]
  cases bit s p <;> simp [bJ, zb1, zbz_0, zbz_1]
theorem R_isHeardBy_in {M : zMS} {v : zV} (h : isMV M v) (hV : VOK v) {f s i l m : Nat} (hf : f ≤ (v 0 : Nat)) (hs : s < 64) (hi : i < (v 1 : Nat)) (hl : l < 3) (hm : m < 100) (F : Int32 → Option Int32) : zf1 (gX12_isHeardBy_l15 F (J i) (J s) M (J f) (J l) (J m)) zfu (J 0) = if (List.range 3).any (fun b => bit s i && car v f l m (v (33 + i)) b) then some (J 1) else F (J (i + 1)) := by
  have hp := hV.2.2.1
  have h3 := (hV.2.2.2.2.2.2 i hi).2
  refine zf1_any 3 _ _ _ (by omega) ?_ ?_ ?_
  · intro b hb hc G
    simp (disch := omega) only [gX12_isHeardBy_l15, wb1, wb2, wb3, wb4, wc1, wc2, zb1_ite, zb2_ite, zb3_ite, zb4_ite, zzc1_ite, zzc2_ite, J_lit, J_n1, J_n2, J_add, J_mul, J_lt, J_le, J_eq, J_eN, N_eJ, J_eN2, J_nn, J_lN, N_lJ, J_leN, N_leJ, NN_l0, NN_eN, bJ_0, bJ_1, bJ_ite, zbz_b, zbz_0, zbz_1, zag_J, zas_J, ite_true, ite_false, if_true, if_false, ite_self, reduceIte, not_true_eq_false, not_false_eq_true, J_o, Nat.reduceEqDiff, Nat.reduceAdd, Nat.reduceMul, Nat.reduceSub, Nat.reduceLT, Nat.reduceLeDiff, Nat.one_ne_zero, R_has, R_of h, R_reaches h hV]
    rw [if_neg (by omega)]
    cases h1 : bit s i
    · rfl
    · simp only [h1, Bool.true_and] at hc
      simp [hc]
  · intro b hb hc G
    rw [Bool.and_eq_true] at hc
    simp (disch := omega) only [gX12_isHeardBy_l15, wb1, wb2, wb3, wb4, wc1, wc2, zb1_ite, zb2_ite, zb3_ite, zb4_ite, zzc1_ite, zzc2_ite, J_lit, J_n1, J_n2, J_add, J_mul, J_lt, J_le, J_eq, J_eN, N_eJ, J_eN2, J_nn, J_lN, N_lJ, J_leN, N_leJ, NN_l0, NN_eN, bJ_0, bJ_1, bJ_ite, zbz_b, zbz_0, zbz_1, zag_J, zas_J, ite_true, ite_false, if_true, if_false, ite_self, reduceIte, not_true_eq_false, not_false_eq_true, J_o, Nat.reduceEqDiff, Nat.reduceAdd, Nat.reduceMul, Nat.reduceSub, Nat.reduceLT, Nat.reduceLeDiff, Nat.one_ne_zero, R_has, R_of h, R_reaches h hV, hc.1, hc.2]
    rw [if_neg (by omega)]
    try simp
  · intro G
    simp (disch := omega) only [gX12_isHeardBy_l15, wb1, wb2, wb3, wb4, wc1, wc2, zb1_ite, zb2_ite, zb3_ite, zb4_ite, zzc1_ite, zzc2_ite, J_lit, J_n1, J_n2, J_add, J_mul, J_lt, J_le, J_eq, J_eN, N_eJ, J_eN2, J_nn, J_lN, N_lJ, J_leN, N_leJ, NN_l0, NN_eN, bJ_0, bJ_1, bJ_ite, zbz_b, zbz_0, zbz_1, zag_J, zas_J, ite_true, ite_false, if_true, if_false, ite_self, reduceIte, not_true_eq_false, not_false_eq_true, J_o, Nat.reduceEqDiff, Nat.reduceAdd, Nat.reduceMul, Nat.reduceSub, Nat.reduceLT, Nat.reduceLeDiff, Nat.one_ne_zero]
    try simp
theorem R_isHeardBy {M : zMS} {v : zV} (h : isMV M v) (hV : VOK v) {f s l m : Nat} (hf : f ≤ (v 0 : Nat)) (hs : s < 64) (hl : l < 3) (hm : m < 100) : gX12_isHeardBy M (J f) (J s) (J l) (J m) = some (bJ (hrd v f s l m)) := by
  have hp := hV.2.2.1
  unfold gX12_isHeardBy
  have hq : ∀ p, ((List.range 3).any fun b => bit s p && car v f l m (v (33 + p)) b) = (bit s p && (List.range 3).any fun b => car v f l m (v (33 + p)) b) := by
    intro p
    cases bit s p <;> simp
  refine (zf1_any (v 1) (fun p => bit s p && ((List.range 3).any fun b => car v f l m (v (33 + p)) b)) (some (J 1)) (some (J 0)) (by omega) ?_ ?_ ?_).trans ?_
  · intro i hi hc F
    unfold gX12_isHeardBy_l3
    simp (disch := omega) only [wb1, wb2, wb3, wb4, wc1, wc2, zb1_ite, zb2_ite, zb3_ite, zb4_ite, zzc1_ite, zzc2_ite, J_lit, J_n1, J_n2, J_add, J_mul, J_lt, J_le, J_eq, J_eN, N_eJ, J_eN2, J_nn, J_lN, N_lJ, J_leN, N_leJ, NN_l0, NN_eN, bJ_0, bJ_1, bJ_ite, zbz_b, zbz_0, zbz_1, zag_J, zas_J, ite_true, ite_false, if_true, if_false, ite_self, reduceIte, not_true_eq_false, not_false_eq_true, J_o, Nat.reduceEqDiff, Nat.reduceAdd, Nat.reduceMul, Nat.reduceSub, Nat.reduceLT, Nat.reduceLeDiff, Nat.one_ne_zero, R_p h, R_isHeardBy_in h hV hf hs hi hl hm, hq, hc]
    rw [if_neg (by omega)]
    try simp
  · intro i hi hc F
    unfold gX12_isHeardBy_l3
    simp (disch := omega) only [wb1, wb2, wb3, wb4, wc1, wc2, zb1_ite, zb2_ite, zb3_ite, zb4_ite, zzc1_ite, zzc2_ite, J_lit, J_n1, J_n2, J_add, J_mul, J_lt, J_le, J_eq, J_eN, N_eJ, J_eN2, J_nn, J_lN, N_lJ, J_leN, N_leJ, NN_l0, NN_eN, bJ_0, bJ_1, bJ_ite, zbz_b, zbz_0, zbz_1, zag_J, zas_J, ite_true, ite_false, if_true, if_false, ite_self, reduceIte, not_true_eq_false, not_false_eq_true, J_o, Nat.reduceEqDiff, Nat.reduceAdd, Nat.reduceMul, Nat.reduceSub, Nat.reduceLT, Nat.reduceLeDiff, Nat.one_ne_zero, R_p h, R_isHeardBy_in h hV hf hs hi hl hm, hq, hc]
    rw [if_neg (by omega)]
  · intro F
    unfold gX12_isHeardBy_l3
    simp (disch := omega) only [wb1, wb2, wb3, wb4, wc1, wc2, zb1_ite, zb2_ite, zb3_ite, zb4_ite, zzc1_ite, zzc2_ite, J_lit, J_n1, J_n2, J_add, J_mul, J_lt, J_le, J_eq, J_eN, N_eJ, J_eN2, J_nn, J_lN, N_lJ, J_leN, N_leJ, NN_l0, NN_eN, bJ_0, bJ_1, bJ_ite, zbz_b, zbz_0, zbz_1, zag_J, zas_J, ite_true, ite_false, if_true, if_false, ite_self, reduceIte, not_true_eq_false, not_false_eq_true, J_o, Nat.reduceEqDiff, Nat.reduceAdd, Nat.reduceMul, Nat.reduceSub, Nat.reduceLT, Nat.reduceLeDiff, Nat.one_ne_zero, R_p h]
    try simp
  · unfold hrd
    split <;> rename_i h1
    · rw [h1]; rfl
    · rw [Bool.eq_false_iff.mpr h1]; rfl
theorem C_silentPlaces {U : zCS} {a : Nat} {v : zV} (h : isVal U a v) (hV : VOK v) {s l m : Nat} (hs : s < 64) (hl : l < 3) (hm : m < 100) : gX0_silentPlaces U a (J s) (J l) (J m) = some (J (cnt (fun c => !hrd v c s l m) (v 0 + 1))) := by
  have hw := hV.2.1
  unfold gX0_silentPlaces
  have e := zf2_run (f := gX0_silentPlaces_l6 U a (J s) (J l) (J m)) (r := some (J (cnt (fun c => !hrd v c s l m) (v 0 + 1)))) (v 0 + 1) (fun i => J (cnt (fun c => !hrd v c s l m) i)) J (by
    intro i hi F
    have hc := cnt_le (p := fun c => !hrd v c s l m) i
    simp (disch := omega) only [gX0_silentPlaces_l6, wb1, wb2, wb3, wb4, wc1, wc2, zb1_ite, zb2_ite, zb3_ite, zb4_ite, zzc1_ite, zzc2_ite, J_lit, J_n1, J_n2, J_add, J_mul, J_lt, J_le, J_eq, J_eN, N_eJ, J_eN2, J_nn, J_lN, N_lJ, J_leN, N_leJ, NN_l0, NN_eN, bJ_0, bJ_1, bJ_ite, zbz_b, zbz_0, zbz_1, zag_J, zas_J, ite_true, ite_false, if_true, if_false, ite_self, reduceIte, not_true_eq_false, not_false_eq_true, J_o, Nat.reduceEqDiff, Nat.reduceAdd, Nat.reduceMul, Nat.reduceSub, Nat.reduceLT, Nat.reduceLeDiff, Nat.one_ne_zero, V_w h, C_isSilent h hV, cnt_s]
    rw [if_neg (by omega)]
    cases hrd v i s l m <;> simp) (by
    intro F
    simp (disch := omega) only [gX0_silentPlaces_l6, wb1, wb2, wb3, wb4, wc1, wc2, zb1_ite, zb2_ite, zb3_ite, zb4_ite, zzc1_ite, zzc2_ite, J_lit, J_n1, J_n2, J_add, J_mul, J_lt, J_le, J_eq, J_eN, N_eJ, J_eN2, J_nn, J_lN, N_lJ, J_leN, N_leJ, NN_l0, NN_eN, bJ_0, bJ_1, bJ_ite, zbz_b, zbz_0, zbz_1, zag_J, zas_J, ite_true, ite_false, if_true, if_false, ite_self, reduceIte, not_true_eq_false, not_false_eq_true, J_o, Nat.reduceEqDiff, Nat.reduceAdd, Nat.reduceMul, Nat.reduceSub, Nat.reduceLT, Nat.reduceLeDiff, Nat.one_ne_zero, V_w h]
    simp) (zfu_lt (by omega))
  rw [show (0 : Int32) = J 0 from rfl]
  exact (congrArg (zb1 · fun x => some x) e)
theorem C_leastSilent {U : zCS} {a : Nat} {v : zV} (h : isVal U a v) (hV : VOK v) {s l m : Nat} (hs : s < 64) (hl : l < 3) (hm : m < 100) : gX0_leastSilent U a (J s) (J l) (J m) = some (oJ (fstI (fun c => !hrd v c s l m) (v 0 + 1))) := by
  have hw := hV.2.1
  unfold gX0_leastSilent
  refine (zf1_find (v 0 + 1) (fun c => !hrd v c s l m) (fun i => some (J i)) (some NN) (by omega) ?_ ?_ ?_).trans ?_
  · intro i hi hp F
    simp (disch := omega) only [gX0_leastSilent_l3, wb1, wb2, wb3, wb4, wc1, wc2, zb1_ite, zb2_ite, zb3_ite, zb4_ite, zzc1_ite, zzc2_ite, J_lit, J_n1, J_n2, J_add, J_mul, J_lt, J_le, J_eq, J_eN, N_eJ, J_eN2, J_nn, J_lN, N_lJ, J_leN, N_leJ, NN_l0, NN_eN, bJ_0, bJ_1, bJ_ite, zbz_b, zbz_0, zbz_1, zag_J, zas_J, ite_true, ite_false, if_true, if_false, ite_self, reduceIte, not_true_eq_false, not_false_eq_true, J_o, Nat.reduceEqDiff, Nat.reduceAdd, Nat.reduceMul, Nat.reduceSub, Nat.reduceLT, Nat.reduceLeDiff, Nat.one_ne_zero, V_w h, C_isSilent h hV, hp]
    rw [if_neg (by omega)]
  · intro i hi hp F
    simp (disch := omega) only [gX0_leastSilent_l3, wb1, wb2, wb3, wb4, wc1, wc2, zb1_ite, zb2_ite, zb3_ite, zb4_ite, zzc1_ite, zzc2_ite, J_lit, J_n1, J_n2, J_add, J_mul, J_lt, J_le, J_eq, J_eN, N_eJ, J_eN2, J_nn, J_lN, N_lJ, J_leN, N_leJ, NN_l0, NN_eN, bJ_0, bJ_1, bJ_ite, zbz_b, zbz_0, zbz_1, zag_J, zas_J, ite_true, ite_false, if_true, if_false, ite_self, reduceIte, not_true_eq_false, not_false_eq_true, J_o, Nat.reduceEqDiff, Nat.reduceAdd, Nat.reduceMul, Nat.reduceSub, Nat.reduceLT, Nat.reduceLeDiff, Nat.one_ne_zero, V_w h, C_isSilent h hV, hp]
    rw [if_neg (by omega)]
    try simp
  · intro F
    simp (disch := omega) only [gX0_leastSilent_l3, wb1, wb2, wb3, wb4, wc1, wc2, zb1_ite, zb2_ite, zb3_ite, zb4_ite, zzc1_ite, zzc2_ite, J_lit, J_n1, J_n2, J_add, J_mul, J_lt, J_le, J_eq, J_eN, N_eJ, J_eN2, J_nn, J_lN, N_lJ, J_leN, N_leJ, NN_l0, NN_eN, bJ_0, bJ_1, bJ_ite, zbz_b, zbz_0, zbz_1, zag_J, zas_J, ite_true, ite_false, if_true, if_false, ite_self, reduceIte, not_true_eq_false, not_false_eq_true, J_o, Nat.reduceEqDiff, Nat.reduceAdd, Nat.reduceMul, Nat.reduceSub, Nat.reduceLT, Nat.reduceLeDiff, Nat.one_ne_zero, V_w h]
    try simp
  · cases fstI _ _ <;> rfl
/-- a loop downward -/
def dn (w i : Nat) : Int32 := if i ≤ w then J (w - i) else NN
def lstD (p : Nat → Bool) (w : Nat) : Nat → Option Nat
  | 0 => none
  | i + 1 => if p (w - i) then some (w - i) else lstD p w i
theorem lstD_e {p : Nat → Bool} {w : Nat} : lstD p w (w + 1) = fstI p (w + 1) := by
  have h : ∀ i, i ≤ w + 1 → match lstD p w i with
      | none => ∀ j, w < i + j → j ≤ w → p j = false
      | some k => k ≤ w ∧ w < i + k ∧ p k = true ∧ ∀ j, w < i + j → j < k → p j = false := by
    intro i
    induction i with
    | zero => intro _ j h1 h2; omega
    | succ i ih =>
      intro hi
      have ih := ih (by omega)
      unfold lstD
      by_cases hp : p (w - i) = true
      · rw [if_pos hp]
        exact ⟨by omega, by omega, hp, fun j h1 h2 => by omega⟩
      · rw [if_neg hp]
        have hp' := Bool.eq_false_iff.mpr hp
        cases hl : lstD p w i with
        | none =>
          rw [hl] at ih
          intro j h1 h2
          by_cases hj : j = w - i
          · rw [hj]; exact hp'
          · exact ih j (by omega) h2
        | some k =>
          rw [hl] at ih
          refine ⟨ih.1, by omega, ih.2.2.1, fun j h1 h2 => ?_⟩
          by_cases hj : j = w - i
          · rw [hj]; exact hp'
          · exact ih.2.2.2 j (by omega) h2
  have h1 := h (w + 1) (Nat.le_refl _)
  cases hl : lstD p w (w + 1) with
  | none =>
    rw [hl] at h1
    cases hf : fstI p (w + 1) with
    | none => rfl
    | some k => obtain ⟨h2, h3, -⟩ := fstI_s hf; rw [h1 k (by omega) (by omega)] at h3; cases h3
  | some k =>
    rw [hl] at h1
    cases hf : fstI p (w + 1) with
    | none => have := fstI_n hf k (by omega); rw [h1.2.2.1] at this; cases this
    | some j =>
      obtain ⟨h2, h3, h4⟩ := fstI_s hf
      rcases Nat.lt_trichotomy j k with h5 | h5 | h5
      · rw [h1.2.2.2 j (by omega) h5] at h3; cases h3
      · rw [h5]
      · have := h4 k h5; rw [h1.2.2.1] at this; cases this
theorem lstD_le {p : Nat → Bool} {w : Nat} : ∀ i k, lstD p w i = some k → k ≤ w
  | 0, k, h => by cases h
  | i + 1, k, h => by
    unfold lstD at h
    split at h
    · cases h; omega
    · exact lstD_le i k h
theorem R_hush_l {M : zMS} {v : zV} (h : isMV M v) (hV : VOK v) {s l m : Nat} (hs : s < 64) (hl : l < 3) (hm : m < 100) : zf3 (gX12_hush_l64 M (J s) (J l) (J m)) zfu (J 0) NN (J (v 0)) = some (J (cnt (fun c => !hrd v c s l m) (v 0 + 1)), oJ (fstI (fun c => !hrd v c s l m) (v 0 + 1))) := by
  have hw := hV.2.1
  rw [← cnt_rev, ← lstD_e]
  have e := zf3_run (f := gX12_hush_l64 M (J s) (J l) (J m)) (r := some (J (cnt (fun j => !hrd v (v 0 - j) s l m) (v 0 + 1)), oJ (lstD (fun c => !hrd v c s l m) (v 0) (v 0 + 1)))) (v 0 + 1) (fun i => J (cnt (fun j => !hrd v (v 0 - j) s l m) i)) (fun i => oJ (lstD (fun c => !hrd v c s l m) (v 0) i)) (dn (v 0)) (by
    intro i hi F
    have hc := cnt_le (p := fun j => !hrd v (v 0 - j) s l m) i
    have hd : J (v 0 - i) + NN = dn (v 0) (i + 1) := by
      unfold dn
      by_cases h1 : i + 1 ≤ (v 0 : Nat)
      · rw [if_pos h1, show (v 0 : Nat) - i = ((v 0 : Nat) - (i + 1)) + 1 by omega, ← J_add, show NN = -(1 : Int32) from rfl, show (J 1 : Int32) = 1 from rfl, ← Int32.sub_eq_add_neg, Int32.add_sub_cancel]
      · rw [if_neg h1, show (v 0 : Nat) - i = 0 by omega]; rfl
    rw [show dn (v 0) i = J (v 0 - i) from if_pos (by omega)]
    simp (disch := omega) only [gX12_hush_l64, wb1, wb2, wb3, wb4, wc1, wc2, zb1_ite, zb2_ite, zb3_ite, zb4_ite, zzc1_ite, zzc2_ite, J_lit, J_n1, J_n2, J_add, J_mul, J_lt, J_le, J_eq, J_eN, N_eJ, J_eN2, J_nn, J_lN, N_lJ, J_leN, N_leJ, NN_l0, NN_eN, bJ_0, bJ_1, bJ_ite, zbz_b, zbz_0, zbz_1, zag_J, zas_J, ite_true, ite_false, if_true, if_false, ite_self, reduceIte, not_true_eq_false, not_false_eq_true, J_o, Nat.reduceEqDiff, Nat.reduceAdd, Nat.reduceMul, Nat.reduceSub, Nat.reduceLT, Nat.reduceLeDiff, Nat.one_ne_zero, R_isHeardBy h hV, cnt_s, hd, lstD]
    rcases Bool.eq_false_or_eq_true (hrd v (v 0 - i) s l m) with hq | hq <;> simp [hq, oJ]) (by
    intro F
    rw [show dn (v 0) (v 0 + 1) = NN from if_neg (by omega)]
    simp (disch := omega) only [gX12_hush_l64, wb1, wb2, wb3, wb4, wc1, wc2, zb1_ite, zb2_ite, zb3_ite, zb4_ite, zzc1_ite, zzc2_ite, J_lit, J_n1, J_n2, J_add, J_mul, J_lt, J_le, J_eq, J_eN, N_eJ, J_eN2, J_nn, J_lN, N_lJ, J_leN, N_leJ, NN_l0, NN_eN, bJ_0, bJ_1, bJ_ite, zbz_b, zbz_0, zbz_1, zag_J, zas_J, ite_true, ite_false, if_true, if_false, ite_self, reduceIte, not_true_eq_false, not_false_eq_true, J_o, Nat.reduceEqDiff, Nat.reduceAdd, Nat.reduceMul, Nat.reduceSub, Nat.reduceLT, Nat.reduceLeDiff, Nat.one_ne_zero]) (zfu_lt (by omega))
  exact e
/-- how many hear by the wall that judges -/
def jhe (v : zV) (l m c : Nat) : Nat := cnt (fun p => car v c l m (v (33 + p)) (jdg v m)) (v 1)
theorem jhe_le {v : zV} (hV : VOK v) {l m c : Nat} : jhe v l m c ≤ 6 := Nat.le_trans (cnt_le _) hV.2.2.1
theorem C_judgedHearers {U : zCS} {a : Nat} {v : zV} (h : isVal U a v) (hV : VOK v) {c l m : Nat} (hc : c ≤ (v 0 : Nat)) (hl : l < 3) (hm : m < 100) : gX0_judgedHearers U a (J c) (J l) (J m) = some (J (jhe v l m c)) := by
  have hp := hV.2.2.1
  have hj := @jdg_le v m
  unfold gX0_judgedHearers
  rw [C_judge h hm]
  have e := zf2_run (f := gX0_judgedHearers_l13 U a (J c) (J l) (J m) (J (jdg v m))) (r := some (J (jhe v l m c))) (v 1) (fun i => J (cnt (fun p => car v c l m (v (33 + p)) (jdg v m)) i)) J (by
    intro i hi F
    have h3 := (hV.2.2.2.2.2.2 i hi).2
    simp (disch := omega) only [gX0_judgedHearers_l13, wb1, wb2, wb3, wb4, wc1, wc2, zb1_ite, zb2_ite, zb3_ite, zb4_ite, zzc1_ite, zzc2_ite, J_lit, J_n1, J_n2, J_add, J_mul, J_lt, J_le, J_eq, J_eN, N_eJ, J_eN2, J_nn, J_lN, N_lJ, J_leN, N_leJ, NN_l0, NN_eN, bJ_0, bJ_1, bJ_ite, zbz_b, zbz_0, zbz_1, zag_J, zas_J, ite_true, ite_false, if_true, if_false, ite_self, reduceIte, not_true_eq_false, not_false_eq_true, J_o, Nat.reduceEqDiff, Nat.reduceAdd, Nat.reduceMul, Nat.reduceSub, Nat.reduceLT, Nat.reduceLeDiff, Nat.one_ne_zero, V_p h, V_pl h, C_carries h hV, cnt_s]
    rw [if_neg (by omega)]
    cases car v c l m (v (33 + i)) (jdg v m) <;> simp) (by
    intro F
    simp (disch := omega) only [gX0_judgedHearers_l13, wb1, wb2, wb3, wb4, wc1, wc2, zb1_ite, zb2_ite, zb3_ite, zb4_ite, zzc1_ite, zzc2_ite, J_lit, J_n1, J_n2, J_add, J_mul, J_lt, J_le, J_eq, J_eN, N_eJ, J_eN2, J_nn, J_lN, N_lJ, J_leN, N_leJ, NN_l0, NN_eN, bJ_0, bJ_1, bJ_ite, zbz_b, zbz_0, zbz_1, zag_J, zas_J, ite_true, ite_false, if_true, if_false, ite_self, reduceIte, not_true_eq_false, not_false_eq_true, J_o, Nat.reduceEqDiff, Nat.reduceAdd, Nat.reduceMul, Nat.reduceSub, Nat.reduceLT, Nat.reduceLeDiff, Nat.one_ne_zero, V_p h]
    simp [jhe]) (zfu_lt (by omega))
  exact (congrArg (zb1 · fun x => some x) e)
theorem C_fullestPlace {U : zCS} {a : Nat} {v : zV} (h : isVal U a v) (hV : VOK v) {l m : Nat} (hl : l < 3) (hm : m < 100) : gX0_fullestPlace U a (J l) (J m) = some (J (amax (jhe v l m) (v 0))) := by
  have hw := hV.2.1
  unfold gX0_fullestPlace
  rw [show (0 : Int32) = J 0 from rfl, C_judgedHearers h hV (Nat.zero_le _) hl hm]
  have e := zf3_run (f := gX0_fullestPlace_l14 U a (J l) (J m)) (r := some (J (amax (jhe v l m) (v 0)))) (v 0) (fun i => J (amax (jhe v l m) i)) (fun i => J (jhe v l m (amax (jhe v l m) i))) (fun i => J (i + 1)) (by
    intro i hi F
    have h1 := jhe_le hV (l := l) (m := m) (c := i + 1)
    have h2 := jhe_le hV (l := l) (m := m) (c := amax (jhe v l m) i)
    simp (disch := omega) only [gX0_fullestPlace_l14, wb1, wb2, wb3, wb4, wc1, wc2, zb1_ite, zb2_ite, zb3_ite, zb4_ite, zzc1_ite, zzc2_ite, J_lit, J_n1, J_n2, J_add, J_mul, J_lt, J_le, J_eq, J_eN, N_eJ, J_eN2, J_nn, J_lN, N_lJ, J_leN, N_leJ, NN_l0, NN_eN, bJ_0, bJ_1, bJ_ite, zbz_b, zbz_0, zbz_1, zag_J, zas_J, ite_true, ite_false, if_true, if_false, ite_self, reduceIte, not_true_eq_false, not_false_eq_true, J_o, Nat.reduceEqDiff, Nat.reduceAdd, Nat.reduceMul, Nat.reduceSub, Nat.reduceLT, Nat.reduceLeDiff, Nat.one_ne_zero, V_w h, C_judgedHearers h hV, amax]
    rw [if_neg (by omega)]
    by_cases hq : jhe v l m (amax (jhe v l m) i) < jhe v l m (i + 1)
    · simp [hq, Nat.not_le.mpr hq]
    · simp [hq, Nat.not_lt.mp hq]) (by
    intro F
    simp (disch := omega) only [gX0_fullestPlace_l14, wb1, wb2, wb3, wb4, wc1, wc2, zb1_ite, zb2_ite, zb3_ite, zb4_ite, zzc1_ite, zzc2_ite, J_lit, J_n1, J_n2, J_add, J_mul, J_lt, J_le, J_eq, J_eN, N_eJ, J_eN2, J_nn, J_lN, N_lJ, J_leN, N_leJ, NN_l0, NN_eN, bJ_0, bJ_1, bJ_ite, zbz_b, zbz_0, zbz_1, zag_J, zas_J, ite_true, ite_false, if_true, if_false, ite_self, reduceIte, not_true_eq_false, not_false_eq_true, J_o, Nat.reduceEqDiff, Nat.reduceAdd, Nat.reduceMul, Nat.reduceSub, Nat.reduceLT, Nat.reduceLeDiff, Nat.one_ne_zero, V_w h]
    simp) (zfu_lt (by omega))
  exact (congrArg (zb1 · fun x => some x) e)
theorem R_greater {a b : Nat} (ha : a < 1000000) (hb : b < 1000000) : gX12_greater (J a) (J b) = some (J (max a b)) := by
  unfold gX12_greater
  simp (disch := omega) only [wb1, wb2, wb3, wb4, wc1, wc2, zb1_ite, zb2_ite, zb3_ite, zb4_ite, zzc1_ite, zzc2_ite, J_lit, J_n1, J_n2, J_add, J_mul, J_lt, J_le, J_eq, J_eN, N_eJ, J_eN2, J_nn, J_lN, N_lJ, J_leN, N_leJ, NN_l0, NN_eN, bJ_0, bJ_1, bJ_ite, zbz_b, zbz_0, zbz_1, zag_J, zas_J, ite_true, ite_false, if_true, if_false, ite_self, reduceIte, not_true_eq_false, not_false_eq_true, J_o, Nat.reduceEqDiff, Nat.reduceAdd, Nat.reduceMul, Nat.reduceSub, Nat.reduceLT, Nat.reduceLeDiff, Nat.one_ne_zero]
  by_cases h1 : a ≤ b
  · simp [h1, Nat.max_eq_right h1]
  · simp [h1, Nat.max_eq_left (Nat.le_of_lt (Nat.not_le.mp h1))]
theorem R_lesser {a b : Nat} (ha : a < 100000000) (hb : b < 100000000) : gX12_lesser (J a) (J b) = some (J (min a b)) := by
  unfold gX12_lesser
  simp (disch := omega) only [wb1, wb2, wb3, wb4, wc1, wc2, zb1_ite, zb2_ite, zb3_ite, zb4_ite, zzc1_ite, zzc2_ite, J_lit, J_n1, J_n2, J_add, J_mul, J_lt, J_le, J_eq, J_eN, N_eJ, J_eN2, J_nn, J_lN, N_lJ, J_leN, N_leJ, NN_l0, NN_eN, bJ_0, bJ_1, bJ_ite, zbz_b, zbz_0, zbz_1, zag_J, zas_J, ite_true, ite_false, if_true, if_false, ite_self, reduceIte, not_true_eq_false, not_false_eq_true, J_o, Nat.reduceEqDiff, Nat.reduceAdd, Nat.reduceMul, Nat.reduceSub, Nat.reduceLT, Nat.reduceLeDiff, Nat.one_ne_zero]
  by_cases h1 : b ≤ a
  · simp [h1, Nat.min_eq_right h1]
  · simp [h1, Nat.min_eq_left (Nat.le_of_lt (Nat.not_le.mp h1))]
theorem R_crowd_in {M : zMS} {v : zV} (h : isMV M v) (hV : VOK v) {c l m : Nat} (hc : c ≤ (v 0 : Nat)) (hl : l < 3) (hm : m < 100) : zf2 (gX12_crowd_l74 M (J c) (J l) (J m) (J (jdg v m))) zfu (J 0) (J 0) = some (J (jhe v l m c)) := by
  have hp := hV.2.2.1
  have hj := @jdg_le v m
  exact zf2_run (f := gX12_crowd_l74 M (J c) (J l) (J m) (J (jdg v m))) (v 1) (fun i => J (cnt (fun p => car v c l m (v (33 + p)) (jdg v m)) i)) J (by
    intro i hi F
    have h3 := (hV.2.2.2.2.2.2 i hi).2
    simp (disch := omega) only [gX12_crowd_l74, wb1, wb2, wb3, wb4, wc1, wc2, zb1_ite, zb2_ite, zb3_ite, zb4_ite, zzc1_ite, zzc2_ite, J_lit, J_n1, J_n2, J_add, J_mul, J_lt, J_le, J_eq, J_eN, N_eJ, J_eN2, J_nn, J_lN, N_lJ, J_leN, N_leJ, NN_l0, NN_eN, bJ_0, bJ_1, bJ_ite, zbz_b, zbz_0, zbz_1, zag_J, zas_J, ite_true, ite_false, if_true, if_false, ite_self, reduceIte, not_true_eq_false, not_false_eq_true, J_o, Nat.reduceEqDiff, Nat.reduceAdd, Nat.reduceMul, Nat.reduceSub, Nat.reduceLT, Nat.reduceLeDiff, Nat.one_ne_zero, R_p h, R_of h, R_reaches h hV, cnt_s]
    rw [if_neg (by omega)]
    cases car v c l m (v (33 + i)) (jdg v m) <;> simp) (by
    intro F
    simp (disch := omega) only [gX12_crowd_l74, wb1, wb2, wb3, wb4, wc1, wc2, zb1_ite, zb2_ite, zb3_ite, zb4_ite, zzc1_ite, zzc2_ite, J_lit, J_n1, J_n2, J_add, J_mul, J_lt, J_le, J_eq, J_eN, N_eJ, J_eN2, J_nn, J_lN, N_lJ, J_leN, N_leJ, NN_l0, NN_eN, bJ_0, bJ_1, bJ_ite, zbz_b, zbz_0, zbz_1, zag_J, zas_J, ite_true, ite_false, if_true, if_false, ite_self, reduceIte, not_true_eq_false, not_false_eq_true, J_o, Nat.reduceEqDiff, Nat.reduceAdd, Nat.reduceMul, Nat.reduceSub, Nat.reduceLT, Nat.reduceLeDiff, Nat.one_ne_zero, R_p h]
    simp [jhe]) (zfu_lt (by omega))
theorem R_crowd_l {M : zMS} {v : zV} (h : isMV M v) (hV : VOK v) {l m : Nat} (hl : l < 3) (hm : m < 100) : zf3 (gX12_crowd_l59 M (J l) (J m) (J (jdg v m))) zfu (J 0) NN (J 0) = some (J (amax (jhe v l m) (v 0)), J (jhe v l m (amax (jhe v l m) (v 0)))) := by
  have hw := hV.2.1
  have e := zf3_run (f := gX12_crowd_l59 M (J l) (J m) (J (jdg v m))) (r := some (J (amax (jhe v l m) (v 0)), J (jhe v l m (amax (jhe v l m) (v 0))))) (v 0 + 1) (fun i => J (amax (jhe v l m) (i - 1))) (fun i => if i = 0 then NN else J (jhe v l m (amax (jhe v l m) (i - 1)))) J (by
    intro i hi F
    have h1 := jhe_le hV (l := l) (m := m) (c := i)
    have h2 := jhe_le hV (l := l) (m := m) (c := amax (jhe v l m) (i - 1))
    by_cases h0 : i = 0
    · subst h0
      simp (disch := omega) only [gX12_crowd_l59, wb1, wb2, wb3, wb4, wc1, wc2, zb1_ite, zb2_ite, zb3_ite, zb4_ite, zzc1_ite, zzc2_ite, J_lit, J_n1, J_n2, J_add, J_mul, J_lt, J_le, J_eq, J_eN, N_eJ, J_eN2, J_nn, J_lN, N_lJ, J_leN, N_leJ, NN_l0, NN_eN, bJ_0, bJ_1, bJ_ite, zbz_b, zbz_0, zbz_1, zag_J, zas_J, ite_true, ite_false, if_true, if_false, ite_self, reduceIte, not_true_eq_false, not_false_eq_true, J_o, Nat.reduceEqDiff, Nat.reduceAdd, Nat.reduceMul, Nat.reduceSub, Nat.reduceLT, Nat.reduceLeDiff, Nat.one_ne_zero, R_w h, R_crowd_in h hV]
      have e3 : gX12_greater NN (J (jhe v l m 0)) = some (J (jhe v l m 0)) := by
        unfold gX12_greater
        simp (disch := omega) only [wb1, wb2, wb3, wb4, wc1, wc2, zb1_ite, zb2_ite, zb3_ite, zb4_ite, zzc1_ite, zzc2_ite, J_lit, J_n1, J_n2, J_add, J_mul, J_lt, J_le, J_eq, J_eN, N_eJ, J_eN2, J_nn, J_lN, N_lJ, J_leN, N_leJ, NN_l0, NN_eN, bJ_0, bJ_1, bJ_ite, zbz_b, zbz_0, zbz_1, zag_J, zas_J, ite_true, ite_false, if_true, if_false, ite_self, reduceIte, not_true_eq_false, not_false_eq_true, J_o, Nat.reduceEqDiff, Nat.reduceAdd, Nat.reduceMul, Nat.reduceSub, Nat.reduceLT, Nat.reduceLeDiff, Nat.one_ne_zero]
      simp (disch := omega) only [e3, wb1, wb2, wb3, wb4, wc1, wc2, zb1_ite, zb2_ite, zb3_ite, zb4_ite, zzc1_ite, zzc2_ite, J_lit, J_n1, J_n2, J_add, J_mul, J_lt, J_le, J_eq, J_eN, N_eJ, J_eN2, J_nn, J_lN, N_lJ, J_leN, N_leJ, NN_l0, NN_eN, bJ_0, bJ_1, bJ_ite, zbz_b, zbz_0, zbz_1, zag_J, zas_J, ite_true, ite_false, if_true, if_false, ite_self, reduceIte, not_true_eq_false, not_false_eq_true, J_o, Nat.reduceEqDiff, Nat.reduceAdd, Nat.reduceMul, Nat.reduceSub, Nat.reduceLT, Nat.reduceLeDiff, Nat.one_ne_zero]
      simp [amax]
    · obtain ⟨k, rfl⟩ : ∃ k, i = k + 1 := ⟨i - 1, by omega⟩
      simp only [Nat.add_sub_cancel, if_neg (Nat.succ_ne_zero _)] at h2 ⊢
      simp (disch := omega) only [gX12_crowd_l59, wb1, wb2, wb3, wb4, wc1, wc2, zb1_ite, zb2_ite, zb3_ite, zb4_ite, zzc1_ite, zzc2_ite, J_lit, J_n1, J_n2, J_add, J_mul, J_lt, J_le, J_eq, J_eN, N_eJ, J_eN2, J_nn, J_lN, N_lJ, J_leN, N_leJ, NN_l0, NN_eN, bJ_0, bJ_1, bJ_ite, zbz_b, zbz_0, zbz_1, zag_J, zas_J, ite_true, ite_false, if_true, if_false, ite_self, reduceIte, not_true_eq_false, not_false_eq_true, J_o, Nat.reduceEqDiff, Nat.reduceAdd, Nat.reduceMul, Nat.reduceSub, Nat.reduceLT, Nat.reduceLeDiff, Nat.one_ne_zero, R_w h, R_crowd_in h hV, R_greater, amax]
      rw [if_neg (by omega)]
      by_cases hq : jhe v l m (amax (jhe v l m) k) < jhe v l m (k + 1)
      · simp [hq, Nat.not_le.mpr hq, Nat.max_eq_right (Nat.le_of_lt hq)]
      · simp [hq, Nat.not_lt.mp hq, Nat.max_eq_left (Nat.not_lt.mp hq)]) (by
    intro F
    simp (disch := omega) only [gX12_crowd_l59, wb1, wb2, wb3, wb4, wc1, wc2, zb1_ite, zb2_ite, zb3_ite, zb4_ite, zzc1_ite, zzc2_ite, J_lit, J_n1, J_n2, J_add, J_mul, J_lt, J_le, J_eq, J_eN, N_eJ, J_eN2, J_nn, J_lN, N_lJ, J_leN, N_leJ, NN_l0, NN_eN, bJ_0, bJ_1, bJ_ite, zbz_b, zbz_0, zbz_1, zag_J, zas_J, ite_true, ite_false, if_true, if_false, ite_self, reduceIte, not_true_eq_false, not_false_eq_true, J_o, Nat.reduceEqDiff, Nat.reduceAdd, Nat.reduceMul, Nat.reduceSub, Nat.reduceLT, Nat.reduceLeDiff, Nat.one_ne_zero, R_w h]
    simp) (zfu_lt (by omega))
  exact e
