/-! sights: sets of words as bits -/
theorem bts_t {p : Nat → Bool} : ∀ n i, (bts p n).testBit i = (decide (i < n) && p i)
  | 0, i => by simp [bts, itr]
  | n + 1, i => by
    have e : bts p (n + 1) = bts p n ||| (if p n then 2 ^ n else 0) := rfl
    rw [e, Nat.testBit_or, bts_t n i]
    by_cases hin : i = n
    · subst hin
      cases hp : p i
      · simp
      · simp [Nat.testBit_two_pow]
    · cases hp : p n
      · simp
        by_cases h : i < n
        · simp [h, Nat.lt_succ_of_lt h]
        · simp [h, show ¬ i < n + 1 by omega]
      · simp only [if_true, Nat.testBit_two_pow]
        by_cases h : i < n
        · simp [h, Nat.lt_succ_of_lt h]; omega
        · simp [h, show ¬ i < n + 1 by omega]; omega
theorem bts_c {p q : Nat → Bool} {n : Nat} (h : ∀ i, i < n → p i = q i) : bts p n = bts q n := by
  apply Nat.eq_of_testBit_eq
  intro i
  rw [bts_t, bts_t]
  by_cases hi : i < n
  · rw [h i hi]
  · simp [hi]
theorem bts_or {p q : Nat → Bool} {n : Nat} : bts p n ||| bts q n = bts (fun i => p i || q i) n := by
  apply Nat.eq_of_testBit_eq
  intro i
  rw [Nat.testBit_or, bts_t, bts_t, bts_t]
  cases decide (i < n) <;> simp
theorem bts_and {p q : Nat → Bool} {n : Nat} : bts p n &&& bts q n = bts (fun i => p i && q i) n := by
  apply Nat.eq_of_testBit_eq
  intro i
  rw [Nat.testBit_and, bts_t, bts_t, bts_t]
  cases decide (i < n) <;> simp
theorem bts_255 : (255 : Nat) = bts (fun _ => true) 8 := by decide
theorem bts_0 {p : Nat → Bool} {n : Nat} (h : ∀ i, i < n → p i = false) : bts p n = 0 := by
  apply Nat.eq_of_testBit_eq
  intro i
  rw [bts_t, Nat.zero_testBit]
  by_cases hi : i < n
  · rw [h i hi]; simp
  · simp [hi]
theorem bts_z {p : Nat → Bool} {n : Nat} (h : bts p n = 0) {i : Nat} (hi : i < n) : p i = false := by
  have := bts_t (p := p) n i
  rw [h, Nat.zero_testBit] at this
  simpa [hi] using this.symm
theorem bts_pop {p : Nat → Bool} : pop8 (bts p 8) = cnt p 8 := by
  unfold pop8
  refine cnt_c (fun i hi => ?_)
  rw [bts_t]
  simp [hi]
theorem bts_256 {p : Nat → Bool} : bts p 8 < 256 := bts_lt 8
theorem J_and {a b : Nat} : (J a &&& J b) = J (a &&& b) := by
  unfold J
  exact Int32.toBitVec_inj.1 (by simp [Int32.toBitVec_and, Int32.toBitVec_ofNat', BitVec.ofNat_and])
theorem J_not {p q : Nat → Bool} : (J (bts p 8) &&& (J (bts q 8) ^^^ NN)) = J (bts (fun i => p i && !q i) 8) := by
  have e : J (bts q 8) ^^^ NN = ~~~ J (bts q 8) := Int32.xor_neg_one
  rw [e]
  unfold J
  apply Int32.toBitVec_inj.1
  rw [Int32.toBitVec_and, Int32.toBitVec_not]
  show BitVec.ofNat 32 _ &&& ~~~ BitVec.ofNat 32 _ = BitVec.ofNat 32 _
  apply BitVec.eq_of_getLsbD_eq
  intro i hi
  rw [BitVec.getLsbD_and, BitVec.getLsbD_not, BitVec.getLsbD_ofNat, BitVec.getLsbD_ofNat, BitVec.getLsbD_ofNat, bts_t, bts_t, bts_t]
  by_cases h8 : i < 8
  · simp [hi, h8]
  · simp [h8]
theorem J_bit8 : ∀ s, s < 256 → ∀ p, p < 8 → ((J s >>> (J p &&& J 31)) &&& J 1) = bJ (s.testBit p) := by decide +kernel
/-! what may have been said -/
def SOK (s : zV) : Prop := (s 0 : Nat) ≤ 8 ∧ ∀ k, k < (s 0 : Nat) → (s (1 + 4 * k) : Nat) ≤ 1 ∧ (s (4 + 4 * k) : Nat) < 8
def isSi (U : zCS) (a : Nat) (s : zV) : Prop := U.1 a 0 = J (s 0) ∧ ∀ k, k < (s 0 : Nat) → U.2.1 (a + 1) k = J (s (1 + 4 * k)) ∧ U.2.1 (a + 2) k = J (s (2 + 4 * k)) ∧ U.2.1 (a + 3) k = J (s (3 + 4 * k)) ∧ U.2.1 (a + 4) k = J (s (4 + 4 * k))
def isMSs (M : zMS) (t : Nat) (s : zV) : Prop := M.2.2 9 (33 * t) = J (s 0) ∧ ∀ k, k < (s 0 : Nat) → ∀ j, j < 4 → M.2.2 9 (33 * t + 1 + 4 * k + j) = J (s (1 + 4 * k + j))
def isMS (M : zMS) (s : zV) : Prop := ∃ t, t < 2 ∧ M.1 46 = J t ∧ isMSs M t s
/-- a sight that is within a valley -/
def SIN (v s : zV) : Prop := ∀ k, k < (s 0 : Nat) → (s (2 + 4 * k) : Nat) ≤ (v 0 : Nat)
def hb3 (v s : zV) (k c m w b : Nat) : Bool := decide (arr v c w 2 m (s (2 + 4 * k)) b = some (s (3 + 4 * k) : Nat)) && decide (wby v w m b = some (s (4 + 4 * k) : Nat))
def hbs (v s : zV) (k c m w : Nat) : Bool := (List.range 3).any (hb3 v s k c m w)
def so (v s : zV) (c m w : Nat) : Nat → Bool
  | 0 => true
  | k + 1 => so v s c m w k && (hbs v s k c m w == decide ((s (1 + 4 * k) : Nat) = 1))
theorem R_facts {M : zMS} {s : zV} (h : isMS M s) : gX12_facts M = some (J (s 0)) := by
  obtain ⟨t, ht, h1, h2, h3⟩ := h
  unfold gX12_facts
  rw [h1]
  simp (disch := omega) only [wb1, wb2, wb3, wb4, wc1, wc2, zb1_ite, zb2_ite, zb3_ite, zb4_ite, zzc1_ite, zzc2_ite, J_lit, J_n1, J_n2, J_add, J_mul, J_lt, J_le, J_eq, J_eN, N_eJ, J_eN2, J_nn, J_lN, N_lJ, J_leN, N_leJ, NN_l0, NN_eN, bJ_0, bJ_1, bJ_ite, zbz_b, zbz_0, zbz_1, zag_J, zas_J, ite_true, ite_false, if_true, if_false, ite_self, reduceIte, not_true_eq_false, not_false_eq_true, J_o, Nat.reduceEqDiff, Nat.reduceAdd, Nat.reduceMul, Nat.reduceSub, Nat.reduceLT, Nat.reduceLeDiff, Nat.one_ne_zero, h2]
theorem R_fact {M : zMS} {s : zV} (h : isMS M s) (hS : SOK s) {k j : Nat} (hk : k < (s 0 : Nat)) (hj : j < 4) : gX12_factOf M (J k) (J j) = some (J (s (1 + 4 * k + j))) := by
  obtain ⟨t, ht, h1, h2, h3⟩ := h
  have := hS.1
  unfold gX12_factOf
  rw [h1]
  simp (disch := omega) only [wb1, wb2, wb3, wb4, wc1, wc2, zb1_ite, zb2_ite, zb3_ite, zb4_ite, zzc1_ite, zzc2_ite, J_lit, J_n1, J_n2, J_add, J_mul, J_lt, J_le, J_eq, J_eN, N_eJ, J_eN2, J_nn, J_lN, N_lJ, J_leN, N_leJ, NN_l0, NN_eN, bJ_0, bJ_1, bJ_ite, zbz_b, zbz_0, zbz_1, zag_J, zas_J, ite_true, ite_false, if_true, if_false, ite_self, reduceIte, not_true_eq_false, not_false_eq_true, J_o, Nat.reduceEqDiff, Nat.reduceAdd, Nat.reduceMul, Nat.reduceSub, Nat.reduceLT, Nat.reduceLeDiff, Nat.one_ne_zero, h3 k hk j hj]
theorem R_isSo {M : zMS} {v s : zV} (hm : isMV M v) (hs : isMS M s) (hV : VOK v) (hS : SOK s) (hI : SIN v s) {c m w : Nat} (hc : c ≤ (v 0 : Nat)) (hmm : m < 100) (hw : w < 8) : gX12_isSo M (J c) (J m) (J w) = some (bJ (so v s c m w (s 0))) := by
  have h8 := hS.1
  have inn : ∀ k, k < (s 0 : Nat) → zf2 (gX12_isSo_l18 M (J k) (J c) (J w) (J m)) zfu (J 0) (J 0) = some (bJ (hbs v s k c m w)) := fun k hk => by
    have hp := hI k hk
    have hw8 := (hS.2 k hk).2
    exact zf2_run (f := gX12_isSo_l18 M (J k) (J c) (J w) (J m)) 3 (fun i => bJ ((List.range i).any (hb3 v s k c m w))) J (by
      intro b hb F
      have e3 : (1 + 4 * k + 3) = 4 + 4 * k := by omega
      have e2 : (1 + 4 * k + 2) = 3 + 4 * k := by omega
      have e1 : (1 + 4 * k + 1) = 2 + 4 * k := by omega
      rw [any_S]
      simp (disch := omega) only [gX12_isSo_l18, wb1, wb2, wb3, wb4, wc1, wc2, zb1_ite, zb2_ite, zb3_ite, zb4_ite, zzc1_ite, zzc2_ite, J_lit, J_n1, J_n2, J_add, J_mul, J_lt, J_le, J_eq, J_eN, N_eJ, J_eN2, J_nn, J_lN, N_lJ, J_leN, N_leJ, NN_l0, NN_eN, bJ_0, bJ_1, bJ_ite, zbz_b, zbz_0, zbz_1, zag_J, zas_J, ite_true, ite_false, if_true, if_false, ite_self, reduceIte, not_true_eq_false, not_false_eq_true, J_o, Nat.reduceEqDiff, Nat.reduceAdd, Nat.reduceMul, Nat.reduceSub, Nat.reduceLT, Nat.reduceLeDiff, Nat.one_ne_zero, R_fact hs hS, e1, e2, e3, R_comes hm hV]
      rw [if_neg (by omega)]
      cases hx : (List.range b).any (hb3 v s k c m w)
      · simp only [Bool.false_or, if_true]
        unfold hb3
        cases hA : arr v c w 2 m (s (2 + 4 * k)) b with
        | none =>
          simp (disch := omega) only [wb1, wb2, wb3, wb4, wc1, wc2, zb1_ite, zb2_ite, zb3_ite, zb4_ite, zzc1_ite, zzc2_ite, J_lit, J_n1, J_n2, J_add, J_mul, J_lt, J_le, J_eq, J_eN, N_eJ, J_eN2, J_nn, J_lN, N_lJ, J_leN, N_leJ, NN_l0, NN_eN, bJ_0, bJ_1, bJ_ite, zbz_b, zbz_0, zbz_1, zag_J, zas_J, ite_true, ite_false, if_true, if_false, ite_self, reduceIte, not_true_eq_false, not_false_eq_true, J_o, Nat.reduceEqDiff, Nat.reduceAdd, Nat.reduceMul, Nat.reduceSub, Nat.reduceLT, Nat.reduceLeDiff, Nat.one_ne_zero, oJ_n]
          simp [bJ]
        | some t0 =>
          have ht0 := arr_le hV hc hp hw hmm hA
          obtain ⟨y, hy⟩ := arr_wby hA
          have hy8 := wby_lt hV hw hy
          simp (disch := omega) only [wb1, wb2, wb3, wb4, wc1, wc2, zb1_ite, zb2_ite, zb3_ite, zb4_ite, zzc1_ite, zzc2_ite, J_lit, J_n1, J_n2, J_add, J_mul, J_lt, J_le, J_eq, J_eN, N_eJ, J_eN2, J_nn, J_lN, N_lJ, J_leN, N_leJ, NN_l0, NN_eN, bJ_0, bJ_1, bJ_ite, zbz_b, zbz_0, zbz_1, zag_J, zas_J, ite_true, ite_false, if_true, if_false, ite_self, reduceIte, not_true_eq_false, not_false_eq_true, J_o, Nat.reduceEqDiff, Nat.reduceAdd, Nat.reduceMul, Nat.reduceSub, Nat.reduceLT, Nat.reduceLeDiff, Nat.one_ne_zero, oJ_s]
          by_cases htt : t0 = (s (3 + 4 * k) : Nat)
          · rw [if_pos htt, htt, decide_eq_true rfl, hy]
            by_cases hb0 : b = 0
            · subst hb0
              rw [wby_v] at hy
              obtain rfl := Option.some.inj hy
              simp (disch := omega) only [wb1, wb2, wb3, wb4, wc1, wc2, zb1_ite, zb2_ite, zb3_ite, zb4_ite, zzc1_ite, zzc2_ite, J_lit, J_n1, J_n2, J_add, J_mul, J_lt, J_le, J_eq, J_eN, N_eJ, J_eN2, J_nn, J_lN, N_lJ, J_leN, N_leJ, NN_l0, NN_eN, bJ_0, bJ_1, bJ_ite, zbz_b, zbz_0, zbz_1, zag_J, zas_J, ite_true, ite_false, if_true, if_false, ite_self, reduceIte, not_true_eq_false, not_false_eq_true, J_o, Nat.reduceEqDiff, Nat.reduceAdd, Nat.reduceMul, Nat.reduceSub, Nat.reduceLT, Nat.reduceLeDiff, Nat.one_ne_zero]
              by_cases hyy : w = (s (4 + 4 * k) : Nat)
              · simp [hyy, bJ]
              · simp [hyy, bJ]
            · simp (disch := omega) only [wb1, wb2, wb3, wb4, wc1, wc2, zb1_ite, zb2_ite, zb3_ite, zb4_ite, zzc1_ite, zzc2_ite, J_lit, J_n1, J_n2, J_add, J_mul, J_lt, J_le, J_eq, J_eN, N_eJ, J_eN2, J_nn, J_lN, N_lJ, J_leN, N_leJ, NN_l0, NN_eN, bJ_0, bJ_1, bJ_ite, zbz_b, zbz_0, zbz_1, zag_J, zas_J, ite_true, ite_false, if_true, if_false, ite_self, reduceIte, not_true_eq_false, not_false_eq_true, J_o, Nat.reduceEqDiff, Nat.reduceAdd, Nat.reduceMul, Nat.reduceSub, Nat.reduceLT, Nat.reduceLeDiff, Nat.one_ne_zero, eq_false hb0, R_given hm hV, hy, oJ_s]
              by_cases hyy : y = (s (4 + 4 * k) : Nat)
              · simp [hyy, bJ]
              · simp [hyy, bJ]
          · rw [if_neg htt, decide_eq_false (fun z => htt (Option.some.inj z))]
            simp [bJ]
      · simp [bJ]) (by
      intro F
      simp (disch := omega) only [gX12_isSo_l18, wb1, wb2, wb3, wb4, wc1, wc2, zb1_ite, zb2_ite, zb3_ite, zb4_ite, zzc1_ite, zzc2_ite, J_lit, J_n1, J_n2, J_add, J_mul, J_lt, J_le, J_eq, J_eN, N_eJ, J_eN2, J_nn, J_lN, N_lJ, J_leN, N_leJ, NN_l0, NN_eN, bJ_0, bJ_1, bJ_ite, zbz_b, zbz_0, zbz_1, zag_J, zas_J, ite_true, ite_false, if_true, if_false, ite_self, reduceIte, not_true_eq_false, not_false_eq_true, J_o, Nat.reduceEqDiff, Nat.reduceAdd, Nat.reduceMul, Nat.reduceSub, Nat.reduceLT, Nat.reduceLeDiff, Nat.one_ne_zero]
      rfl) (zfu_lt (by omega))
  have key : ∀ n, n ≤ (s 0 : Nat) → so v s c m w n = !(List.range n).any (fun k => !(hbs v s k c m w == decide ((s (1 + 4 * k) : Nat) = 1))) := by
    intro n
    induction n with
    | zero => intro _; rfl
    | succ n ih =>
      intro hn
      rw [any_S, Bool.not_or, ← ih (by omega), Bool.not_not]
      rfl
  unfold gX12_isSo
  refine (zf1_any (f := gX12_isSo_l3 M (J c) (J w) (J m)) (s 0) (fun k => !(hbs v s k c m w == decide ((s (1 + 4 * k) : Nat) = 1))) (some (J 0)) (some (J 1)) (by omega) ?_ ?_ ?_).trans ?_
  · intro k hk hq F
    have h1 := (hS.2 k hk).1
    simp (disch := omega) only [gX12_isSo_l3, wb1, wb2, wb3, wb4, wc1, wc2, zb1_ite, zb2_ite, zb3_ite, zb4_ite, zzc1_ite, zzc2_ite, J_lit, J_n1, J_n2, J_add, J_mul, J_lt, J_le, J_eq, J_eN, N_eJ, J_eN2, J_nn, J_lN, N_lJ, J_leN, N_leJ, NN_l0, NN_eN, bJ_0, bJ_1, bJ_ite, zbz_b, zbz_0, zbz_1, zag_J, zas_J, ite_true, ite_false, if_true, if_false, ite_self, reduceIte, not_true_eq_false, not_false_eq_true, J_o, Nat.reduceEqDiff, Nat.reduceAdd, Nat.reduceMul, Nat.reduceSub, Nat.reduceLT, Nat.reduceLeDiff, Nat.one_ne_zero, R_facts hs, inn k hk, R_fact hs hS]
    rw [if_neg (by omega), Nat.add_zero]
    by_cases h2 : (s (1 + 4 * k) : Nat) = 1
    · rw [decide_eq_true h2] at hq
      simp only [eq_true h2, if_true]
      cases hx : hbs v s k c m w
      · rw [hx] at hq; cases hq
      · rfl
    · rw [decide_eq_false h2] at hq
      simp only [eq_false h2, if_false]
      cases hx : hbs v s k c m w
      · rfl
      · rw [hx] at hq; cases hq
  · intro k hk hq F
    have h1 := (hS.2 k hk).1
    simp (disch := omega) only [gX12_isSo_l3, wb1, wb2, wb3, wb4, wc1, wc2, zb1_ite, zb2_ite, zb3_ite, zb4_ite, zzc1_ite, zzc2_ite, J_lit, J_n1, J_n2, J_add, J_mul, J_lt, J_le, J_eq, J_eN, N_eJ, J_eN2, J_nn, J_lN, N_lJ, J_leN, N_leJ, NN_l0, NN_eN, bJ_0, bJ_1, bJ_ite, zbz_b, zbz_0, zbz_1, zag_J, zas_J, ite_true, ite_false, if_true, if_false, ite_self, reduceIte, not_true_eq_false, not_false_eq_true, J_o, Nat.reduceEqDiff, Nat.reduceAdd, Nat.reduceMul, Nat.reduceSub, Nat.reduceLT, Nat.reduceLeDiff, Nat.one_ne_zero, R_facts hs, inn k hk, R_fact hs hS]
    rw [if_neg (by omega), Nat.add_zero]
    by_cases h2 : (s (1 + 4 * k) : Nat) = 1
    · rw [decide_eq_true h2] at hq
      simp only [eq_true h2, if_true]
      cases hx : hbs v s k c m w
      · rfl
      · rw [hx] at hq; cases hq
    · rw [decide_eq_false h2] at hq
      simp only [eq_false h2, if_false]
      cases hx : hbs v s k c m w
      · rw [hx] at hq; cases hq
      · rfl
  · intro F
    simp (disch := omega) only [gX12_isSo_l3, wb1, wb2, wb3, wb4, wc1, wc2, zb1_ite, zb2_ite, zb3_ite, zb4_ite, zzc1_ite, zzc2_ite, J_lit, J_n1, J_n2, J_add, J_mul, J_lt, J_le, J_eq, J_eN, N_eJ, J_eN2, J_nn, J_lN, N_lJ, J_leN, N_leJ, NN_l0, NN_eN, bJ_0, bJ_1, bJ_ite, zbz_b, zbz_0, zbz_1, zag_J, zas_J, ite_true, ite_false, if_true, if_false, ite_self, reduceIte, not_true_eq_false, not_false_eq_true, J_o, Nat.reduceEqDiff, Nat.reduceAdd, Nat.reduceMul, Nat.reduceSub, Nat.reduceLT, Nat.reduceLeDiff, Nat.one_ne_zero, R_facts hs]
    simp
  · rw [key _ (Nat.le_refl _)]
    split <;> rename_i h1
    · rw [h1]; rfl
    · rw [Bool.eq_false_iff.mpr h1]; rfl
