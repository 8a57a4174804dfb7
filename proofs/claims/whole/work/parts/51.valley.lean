/-! a valley as numbers: the reference's row -/
abbrev zV : Type := Nat → Fin 100
def skyB (v : zV) (s m : Nat) : Bool := (List.range (v 2)).any fun j => decide ((v (45 + j) : Nat) = s ∧ (v (49 + j) : Nat) ≤ m ∧ m ≤ (v (53 + j) : Nat))
def jdg (v : zV) (m : Nat) : Nat := if skyB v 0 m then 1 else 2
def mute (v : zV) (b m : Nat) : Bool := decide (b = 1) && skyB v 1 m
def dist (a b : Nat) : Nat := (a - b) + (b - a)
def way (v : zV) (f t b : Nat) : Nat := if b = 0 then dist f t else if b = 1 then f + t else 2 * (v 0 : Nat) - f - t
def rng (l : Nat) : Nat := if l = 0 then 6 else if l = 1 then 18 else 99
def thk (v : zV) (w b m : Nat) : Nat := if b = jdg v m then (v (11 + w) : Nat) else 0
def arr (v : zV) (f w l m t b : Nat) : Option Nat := if rng l < way v f t b then none else if mute v b m then none else some (m + way v f t b + thk v w b m)
def wby (v : zV) (w m b : Nat) : Option Nat := if mute v b m then none else some (if b = jdg v m then (v (3 + w) : Nat) else w)
def car (v : zV) (f l m t b : Nat) : Bool := !mute v b m && decide (way v f t b ≤ rng l)
def VOK (v : zV) : Prop := 2 ≤ (v 0 : Nat) ∧ (v 0 : Nat) ≤ 30 ∧ (v 1 : Nat) ≤ 6 ∧ (v 2 : Nat) ≤ 4 ∧ (∀ j, j < 8 → (v (3 + j) : Nat) < 8) ∧ (∀ j, j < 8 → (v (11 + j) : Nat) < 10) ∧ (∀ j, j < (v 1 : Nat) → (v (27 + j) : Nat) ≤ 2 ∧ (v (33 + j) : Nat) ≤ (v 0 : Nat))
theorem way_le {v : zV} {f t b : Nat} (hV : VOK v) (hf : f ≤ (v 0 : Nat)) (ht : t ≤ (v 0 : Nat)) : way v f t b ≤ 60 := by
  have h := hV.2.1
  unfold way dist
  split
  · omega
  · split <;> omega
theorem jdg_le {v : zV} {m : Nat} : jdg v m = 1 ∨ jdg v m = 2 := by unfold jdg; split <;> simp
theorem thk_le {v : zV} {w b m : Nat} (hV : VOK v) (hw : w < 8) : thk v w b m < 10 := by
  unfold thk; split
  · exact hV.2.2.2.2.2.1 w hw
  · omega
theorem rng_le {l : Nat} : rng l ≤ 99 := by
  unfold rng
  split
  · omega
  · split <;> omega
/-! the reference's side -/
/-- the reference has the valley v in its hand -/
def isMV (M : zMS) (v : zV) : Prop := ∃ s, s < 2 ∧ M.1 23 = J s ∧ M.1 24 = J (v 0) ∧ M.1 25 = J (v 1) ∧ ∀ k, k < 57 → M.2.2 6 (57 * s + k) = J (v k)
theorem R_of {M : zMS} {v : zV} (h : isMV M v) {k : Nat} (hk : k < 57) : gX12_of M (J k) = some (J (v k)) := by
  obtain ⟨s, hs, h1, -, -, h2⟩ := h
  unfold gX12_of
  rw [h1]
  simp (disch := omega) only [wb1, wb2, wb3, wb4, wc1, wc2, zb1_ite, zb2_ite, zb3_ite, zb4_ite, zzc1_ite, zzc2_ite, J_lit, J_n1, J_n2, J_add, J_mul, J_lt, J_le, J_eq, J_eN, N_eJ, J_eN2, J_nn, J_lN, N_lJ, J_leN, N_leJ, NN_l0, NN_eN, bJ_0, bJ_1, bJ_ite, zbz_b, zbz_0, zbz_1, zag_J, zas_J, ite_true, ite_false, if_true, if_false, ite_self, reduceIte, not_true_eq_false, not_false_eq_true, J_o, Nat.reduceEqDiff, Nat.reduceAdd, Nat.reduceMul, Nat.reduceSub, Nat.reduceLT, Nat.reduceLeDiff, Nat.one_ne_zero]
  rw [h2 k hk]
theorem R_w {M : zMS} {v : zV} (h : isMV M v) : M.1 24 = J (v 0) := h.elim fun _ h => h.2.2.1
theorem R_p {M : zMS} {v : zV} (h : isMV M v) : M.1 25 = J (v 1) := h.elim fun _ h => h.2.2.2.1
theorem R_in {x a b : Int32} : gX12_in x a b = some (bJ (decide (¬ x < a ∧ ¬ b < x))) := by
  unfold gX12_in
  by_cases h1 : x < a
  · simp [h1, zzb1_some, zb1, show zbz (0 : Int32) = some 0 from rfl, bJ]; rfl
  · by_cases h2 : b < x
    · simp [h1, h2, zb1, show zbz (0 : Int32) = some 0 from rfl, bJ]; rfl
    · simp [h1, h2, zb1, show zbz (1 : Int32) = some 1 from rfl, bJ]; rfl
theorem R_isSky {M : zMS} {v : zV} (h : isMV M v) (hV : VOK v) {s m : Nat} (hs : s < 100) (hm : m < 100) : gX12_isSky M (J s) (J m) = some (bJ (skyB v s m)) := by
  have h2 := hV.2.2.2.1
  unfold gX12_isSky
  refine (zf1_find (v 2) (fun j => decide ((v (45 + j) : Nat) = s ∧ (v (49 + j) : Nat) ≤ m ∧ m ≤ (v (53 + j) : Nat))) (fun _ => some (J 1)) (some (J 0)) (by omega) ?_ ?_ ?_).trans ?_
  · intro i hi hp F
    have hp' := of_decide_eq_false hp
    simp (disch := omega) only [gX12_isSky_l2, wb1, wb2, wb3, wb4, wc1, wc2, zb1_ite, zb2_ite, zb3_ite, zb4_ite, zzc1_ite, zzc2_ite, J_lit, J_n1, J_n2, J_add, J_mul, J_lt, J_le, J_eq, J_eN, N_eJ, J_eN2, J_nn, J_lN, N_lJ, J_leN, N_leJ, NN_l0, NN_eN, bJ_0, bJ_1, bJ_ite, zbz_b, zbz_0, zbz_1, zag_J, zas_J, ite_true, ite_false, if_true, if_false, ite_self, reduceIte, not_true_eq_false, not_false_eq_true, J_o, Nat.reduceEqDiff, Nat.reduceAdd, Nat.reduceMul, Nat.reduceSub, Nat.reduceLT, Nat.reduceLeDiff, Nat.one_ne_zero, R_of h, R_in, decide_eq_false_iff_not]
    repeat' split
    all_goals first | rfl | omega
  · intro i hi hp F
    have hp' := of_decide_eq_true hp
    simp (disch := omega) only [gX12_isSky_l2, wb1, wb2, wb3, wb4, wc1, wc2, zb1_ite, zb2_ite, zb3_ite, zb4_ite, zzc1_ite, zzc2_ite, J_lit, J_n1, J_n2, J_add, J_mul, J_lt, J_le, J_eq, J_eN, N_eJ, J_eN2, J_nn, J_lN, N_lJ, J_leN, N_leJ, NN_l0, NN_eN, bJ_0, bJ_1, bJ_ite, zbz_b, zbz_0, zbz_1, zag_J, zas_J, ite_true, ite_false, if_true, if_false, ite_self, reduceIte, not_true_eq_false, not_false_eq_true, J_o, Nat.reduceEqDiff, Nat.reduceAdd, Nat.reduceMul, Nat.reduceSub, Nat.reduceLT, Nat.reduceLeDiff, Nat.one_ne_zero, R_of h, R_in, decide_eq_false_iff_not]
    repeat' split
    all_goals first | rfl | omega
  · intro F
    simp (disch := omega) only [gX12_isSky_l2, wb1, wb2, wb3, wb4, wc1, wc2, zb1_ite, zb2_ite, zb3_ite, zb4_ite, zzc1_ite, zzc2_ite, J_lit, J_n1, J_n2, J_add, J_mul, J_lt, J_le, J_eq, J_eN, N_eJ, J_eN2, J_nn, J_lN, N_lJ, J_leN, N_leJ, NN_l0, NN_eN, bJ_0, bJ_1, bJ_ite, zbz_b, zbz_0, zbz_1, zag_J, zas_J, ite_true, ite_false, if_true, if_false, ite_self, reduceIte, not_true_eq_false, not_false_eq_true, J_o, Nat.reduceEqDiff, Nat.reduceAdd, Nat.reduceMul, Nat.reduceSub, Nat.reduceLT, Nat.reduceLeDiff, Nat.one_ne_zero, R_of h]
    simp
  · unfold skyB
    rw [any_fst]
    cases fstI _ _ <;> rfl
theorem R_judges {M : zMS} {v : zV} (h : isMV M v) (hV : VOK v) {b m : Nat} (hb : b < 3) (hm : m < 100) : gX12_judges M (J b) (J m) = some (bJ (decide (b = jdg v m))) := by
  unfold gX12_judges jdg
  simp (disch := omega) only [wb1, wb2, wb3, wb4, wc1, wc2, zb1_ite, zb2_ite, zb3_ite, zb4_ite, zzc1_ite, zzc2_ite, J_lit, J_n1, J_n2, J_add, J_mul, J_lt, J_le, J_eq, J_eN, N_eJ, J_eN2, J_nn, J_lN, N_lJ, J_leN, N_leJ, NN_l0, NN_eN, bJ_0, bJ_1, bJ_ite, zbz_b, zbz_0, zbz_1, zag_J, zas_J, ite_true, ite_false, if_true, if_false, ite_self, reduceIte, not_true_eq_false, not_false_eq_true, J_o, Nat.reduceEqDiff, Nat.reduceAdd, Nat.reduceMul, Nat.reduceSub, Nat.reduceLT, Nat.reduceLeDiff, Nat.one_ne_zero, R_isSky h hV]
  cases skyB v 0 m <;> simp (disch := omega) only [wb1, wb2, wb3, wb4, wc1, wc2, zb1_ite, zb2_ite, zb3_ite, zb4_ite, zzc1_ite, zzc2_ite, J_lit, J_n1, J_n2, J_add, J_mul, J_lt, J_le, J_eq, J_eN, N_eJ, J_eN2, J_nn, J_lN, N_lJ, J_leN, N_leJ, NN_l0, NN_eN, bJ_0, bJ_1, bJ_ite, zbz_b, zbz_0, zbz_1, zag_J, zas_J, ite_true, ite_false, if_true, if_false, ite_self, reduceIte, not_true_eq_false, not_false_eq_true, J_o, Nat.reduceEqDiff, Nat.reduceAdd, Nat.reduceMul, Nat.reduceSub, Nat.reduceLT, Nat.reduceLeDiff, Nat.one_ne_zero, Bool.true_eq_false, Bool.false_eq_true]
  · by_cases hx : b = 2 <;> simp [hx, bJ]
  · by_cases hx : b = 1 <;> simp [hx, bJ]
theorem R_isStill {M : zMS} {v : zV} (h : isMV M v) (hV : VOK v) {b m : Nat} (hb : b < 3) (hm : m < 100) : gX12_isStill M (J b) (J m) = some (bJ (mute v b m)) := by
  unfold gX12_isStill mute
  simp (disch := omega) only [wb1, wb2, wb3, wb4, wc1, wc2, zb1_ite, zb2_ite, zb3_ite, zb4_ite, zzc1_ite, zzc2_ite, J_lit, J_n1, J_n2, J_add, J_mul, J_lt, J_le, J_eq, J_eN, N_eJ, J_eN2, J_nn, J_lN, N_lJ, J_leN, N_leJ, NN_l0, NN_eN, bJ_0, bJ_1, bJ_ite, zbz_b, zbz_0, zbz_1, zag_J, zas_J, ite_true, ite_false, if_true, if_false, ite_self, reduceIte, not_true_eq_false, not_false_eq_true, J_o, Nat.reduceEqDiff, Nat.reduceAdd, Nat.reduceMul, Nat.reduceSub, Nat.reduceLT, Nat.reduceLeDiff, Nat.one_ne_zero, R_isSky h hV]
  cases skyB v 1 m <;> by_cases h1 : b = 1 <;> simp [h1, bJ, zbz_0, zbz_1, zb1]
theorem dist_c {a b : Nat} : dist a b = if b ≤ a then a - b else b - a := by unfold dist; split <;> omega
theorem R_apart {a b : Nat} (ha : a < 1000000) (hb : b < 1000000) : gX12_apart (J a) (J b) = some (J (dist a b)) := by
  unfold gX12_apart
  rw [dist_c]
  by_cases h1 : b ≤ a
  · simp (disch := omega) only [wb1, wb2, wb3, wb4, wc1, wc2, zb1_ite, zb2_ite, zb3_ite, zb4_ite, zzc1_ite, zzc2_ite, J_lit, J_n1, J_n2, J_add, J_mul, J_lt, J_le, J_eq, J_eN, N_eJ, J_eN2, J_nn, J_lN, N_lJ, J_leN, N_leJ, NN_l0, NN_eN, bJ_0, bJ_1, bJ_ite, zbz_b, zbz_0, zbz_1, zag_J, zas_J, ite_true, ite_false, if_true, if_false, ite_self, reduceIte, not_true_eq_false, not_false_eq_true, J_o, Nat.reduceEqDiff, Nat.reduceAdd, Nat.reduceMul, Nat.reduceSub, Nat.reduceLT, Nat.reduceLeDiff, Nat.one_ne_zero, h1, J_sub]
  · simp (disch := omega) only [wb1, wb2, wb3, wb4, wc1, wc2, zb1_ite, zb2_ite, zb3_ite, zb4_ite, zzc1_ite, zzc2_ite, J_lit, J_n1, J_n2, J_add, J_mul, J_lt, J_le, J_eq, J_eN, N_eJ, J_eN2, J_nn, J_lN, N_lJ, J_leN, N_leJ, NN_l0, NN_eN, bJ_0, bJ_1, bJ_ite, zbz_b, zbz_0, zbz_1, zag_J, zas_J, ite_true, ite_false, if_true, if_false, ite_self, reduceIte, not_true_eq_false, not_false_eq_true, J_o, Nat.reduceEqDiff, Nat.reduceAdd, Nat.reduceMul, Nat.reduceSub, Nat.reduceLT, Nat.reduceLeDiff, Nat.one_ne_zero, h1, J_sub]
theorem R_wayOf {M : zMS} {v : zV} (h : isMV M v) (hV : VOK v) {f t b : Nat} (hf : f ≤ (v 0 : Nat)) (ht : t ≤ (v 0 : Nat)) (hb : b < 3) : gX12_wayOf M (J f) (J t) (J b) = some (J (way v f t b)) := by
  unfold gX12_wayOf way
  rw [R_w h]
  by_cases h0 : b = 0
  · simp (disch := omega) only [wb1, wb2, wb3, wb4, wc1, wc2, zb1_ite, zb2_ite, zb3_ite, zb4_ite, zzc1_ite, zzc2_ite, J_lit, J_n1, J_n2, J_add, J_mul, J_lt, J_le, J_eq, J_eN, N_eJ, J_eN2, J_nn, J_lN, N_lJ, J_leN, N_leJ, NN_l0, NN_eN, bJ_0, bJ_1, bJ_ite, zbz_b, zbz_0, zbz_1, zag_J, zas_J, ite_true, ite_false, if_true, if_false, ite_self, reduceIte, not_true_eq_false, not_false_eq_true, J_o, Nat.reduceEqDiff, Nat.reduceAdd, Nat.reduceMul, Nat.reduceSub, Nat.reduceLT, Nat.reduceLeDiff, Nat.one_ne_zero, h0, R_apart]
  · by_cases h1 : b = 1
    · simp (disch := omega) only [wb1, wb2, wb3, wb4, wc1, wc2, zb1_ite, zb2_ite, zb3_ite, zb4_ite, zzc1_ite, zzc2_ite, J_lit, J_n1, J_n2, J_add, J_mul, J_lt, J_le, J_eq, J_eN, N_eJ, J_eN2, J_nn, J_lN, N_lJ, J_leN, N_leJ, NN_l0, NN_eN, bJ_0, bJ_1, bJ_ite, zbz_b, zbz_0, zbz_1, zag_J, zas_J, ite_true, ite_false, if_true, if_false, ite_self, reduceIte, not_true_eq_false, not_false_eq_true, J_o, Nat.reduceEqDiff, Nat.reduceAdd, Nat.reduceMul, Nat.reduceSub, Nat.reduceLT, Nat.reduceLeDiff, Nat.one_ne_zero, h0, h1]
    · simp (disch := omega) only [wb1, wb2, wb3, wb4, wc1, wc2, zb1_ite, zb2_ite, zb3_ite, zb4_ite, zzc1_ite, zzc2_ite, J_lit, J_n1, J_n2, J_add, J_mul, J_lt, J_le, J_eq, J_eN, N_eJ, J_eN2, J_nn, J_lN, N_lJ, J_leN, N_leJ, NN_l0, NN_eN, bJ_0, bJ_1, bJ_ite, zbz_b, zbz_0, zbz_1, zag_J, zas_J, ite_true, ite_false, if_true, if_false, ite_self, reduceIte, not_true_eq_false, not_false_eq_true, J_o, Nat.reduceEqDiff, Nat.reduceAdd, Nat.reduceMul, Nat.reduceSub, Nat.reduceLT, Nat.reduceLeDiff, Nat.one_ne_zero, h0, h1, J_sub]
theorem R_range {l : Nat} (hl : l < 3) : gX12_range (J l) = some (J (rng l)) := by
  unfold gX12_range rng
  simp (disch := omega) only [wb1, wb2, wb3, wb4, wc1, wc2, zb1_ite, zb2_ite, zb3_ite, zb4_ite, zzc1_ite, zzc2_ite, J_lit, J_n1, J_n2, J_add, J_mul, J_lt, J_le, J_eq, J_eN, N_eJ, J_eN2, J_nn, J_lN, N_lJ, J_leN, N_leJ, NN_l0, NN_eN, bJ_0, bJ_1, bJ_ite, zbz_b, zbz_0, zbz_1, zag_J, zas_J, ite_true, ite_false, if_true, if_false, ite_self, reduceIte, not_true_eq_false, not_false_eq_true, J_o, Nat.reduceEqDiff, Nat.reduceAdd, Nat.reduceMul, Nat.reduceSub, Nat.reduceLT, Nat.reduceLeDiff, Nat.one_ne_zero]
  split
  · rfl
  · split <;> rfl
theorem R_given {M : zMS} {v : zV} (h : isMV M v) (hV : VOK v) {w m b : Nat} (hw : w < 8) (hm : m < 100) (hb : b < 3) : gX12_given M (J w) (J m) (J b) = some (oJ (wby v w m b)) := by
  unfold gX12_given wby
  simp (disch := omega) only [wb1, wb2, wb3, wb4, wc1, wc2, zb1_ite, zb2_ite, zb3_ite, zb4_ite, zzc1_ite, zzc2_ite, J_lit, J_n1, J_n2, J_add, J_mul, J_lt, J_le, J_eq, J_eN, N_eJ, J_eN2, J_nn, J_lN, N_lJ, J_leN, N_leJ, NN_l0, NN_eN, bJ_0, bJ_1, bJ_ite, zbz_b, zbz_0, zbz_1, zag_J, zas_J, ite_true, ite_false, if_true, if_false, ite_self, reduceIte, not_true_eq_false, not_false_eq_true, J_o, Nat.reduceEqDiff, Nat.reduceAdd, Nat.reduceMul, Nat.reduceSub, Nat.reduceLT, Nat.reduceLeDiff, Nat.one_ne_zero, R_isStill h hV, R_judges h hV, R_of h]
  cases mute v b m
  · by_cases h1 : b = jdg v m <;> simp [h1, oJ]
  · simp [oJ]
theorem R_comes {M : zMS} {v : zV} (h : isMV M v) (hV : VOK v) {f w l m t b : Nat} (hf : f ≤ (v 0 : Nat)) (hw : w < 8) (hl : l < 3) (hm : m < 100) (ht : t ≤ (v 0 : Nat)) (hb : b < 3) : gX12_comes M (J f) (J w) (J l) (J m) (J t) (J b) = some (oJ (arr v f w l m t b)) := by
  have h1 := way_le (b := b) hV hf ht
  have h2 := @rng_le l
  unfold gX12_comes arr thk
  simp (disch := omega) only [wb1, wb2, wb3, wb4, wc1, wc2, zb1_ite, zb2_ite, zb3_ite, zb4_ite, zzc1_ite, zzc2_ite, J_lit, J_n1, J_n2, J_add, J_mul, J_lt, J_le, J_eq, J_eN, N_eJ, J_eN2, J_nn, J_lN, N_lJ, J_leN, N_leJ, NN_l0, NN_eN, bJ_0, bJ_1, bJ_ite, zbz_b, zbz_0, zbz_1, zag_J, zas_J, ite_true, ite_false, if_true, if_false, ite_self, reduceIte, not_true_eq_false, not_false_eq_true, J_o, Nat.reduceEqDiff, Nat.reduceAdd, Nat.reduceMul, Nat.reduceSub, Nat.reduceLT, Nat.reduceLeDiff, Nat.one_ne_zero, R_isStill h hV, R_judges h hV, R_of h, R_wayOf h hV, R_range]
  by_cases hr : rng l < way v f t b
  · simp [hr, oJ]
  · cases mute v b m
    · by_cases hq : b = jdg v m
      · simp only [hr, eq_true hq, oJ, if_true, if_false]; rfl
      · simp only [hr, eq_false hq, oJ, if_true, if_false]; rfl
    · simp [hr, oJ]
theorem R_reaches {M : zMS} {v : zV} (h : isMV M v) (hV : VOK v) {f l m t b : Nat} (hf : f ≤ (v 0 : Nat)) (hl : l < 3) (hm : m < 100) (ht : t ≤ (v 0 : Nat)) (hb : b < 3) : gX12_reaches M (J f) (J l) (J m) (J t) (J b) = some (bJ (car v f l m t b)) := by
  have h1 := way_le (b := b) hV hf ht
  have h2 := @rng_le l
  unfold gX12_reaches car
  simp (disch := omega) only [wb1, wb2, wb3, wb4, wc1, wc2, zb1_ite, zb2_ite, zb3_ite, zb4_ite, zzc1_ite, zzc2_ite, J_lit, J_n1, J_n2, J_add, J_mul, J_lt, J_le, J_eq, J_eN, N_eJ, J_eN2, J_nn, J_lN, N_lJ, J_leN, N_leJ, NN_l0, NN_eN, bJ_0, bJ_1, bJ_ite, zbz_b, zbz_0, zbz_1, zag_J, zas_J, ite_true, ite_false, if_true, if_false, ite_self, reduceIte, not_true_eq_false, not_false_eq_true, J_o, Nat.reduceEqDiff, Nat.reduceAdd, Nat.reduceMul, Nat.reduceSub, Nat.reduceLT, Nat.reduceLeDiff, Nat.one_ne_zero, R_isStill h hV, R_wayOf h hV, R_range]
  by_cases hr : rng l < way v f t b
  · simp [hr, bJ, zbz_0, zb1, show ¬ way v f t b ≤ rng l by omega]
  · cases mute v b m <;> simp [hr, bJ, zbz_0, zbz_1, zb1, show way v f t b ≤ rng l by omega]
/-! the class's side -/
def isVal (U : zCS) (a : Nat) (v : zV) : Prop := U.1 a 0 = J (v 0) ∧ U.1 a 4 = J (v 1) ∧ U.1 a 8 = J (v 2) ∧ (∀ j, j < 8 → U.2.1 (a + 1) j = J (v (3 + j))) ∧ (∀ j, j < 8 → U.2.1 (a + 2) j = J (v (11 + j))) ∧ (∀ j, j < 8 → U.2.1 (a + 3) j = J (v (19 + j))) ∧ (∀ j, j < (v 1 : Nat) → U.2.1 (a + 4) j = J (v (27 + j)) ∧ U.2.1 (a + 5) j = J (v (33 + j)) ∧ U.2.1 (a + 6) j = J (v (39 + j))) ∧ (∀ j, j < (v 2 : Nat) → U.2.1 (a + 7) j = J (v (45 + j)) ∧ U.2.1 (a + 8) j = J (v (49 + j)) ∧ U.2.1 (a + 9) j = J (v (53 + j))) ∧ ∀ m, m < 100 → U.2.1 (a + 10) m = J ((if skyB v 0 m then 1 else 0) + (if skyB v 1 m then 2 else 0))
theorem V_w {U : zCS} {a : Nat} {v : zV} (h : isVal U a v) : U.1 a 0 = J (v 0) := h.1
theorem V_p {U : zCS} {a : Nat} {v : zV} (h : isVal U a v) : U.1 a 4 = J (v 1) := h.2.1
theorem V_s {U : zCS} {a : Nat} {v : zV} (h : isVal U a v) : U.1 a 8 = J (v 2) := h.2.2.1
theorem V_sh {U : zCS} {a : Nat} {v : zV} (h : isVal U a v) {j : Nat} (hj : j < 8) : U.2.1 (a + 1) j = J (v (3 + j)) := h.2.2.2.1 j hj
theorem V_th {U : zCS} {a : Nat} {v : zV} (h : isVal U a v) {j : Nat} (hj : j < 8) : U.2.1 (a + 2) j = J (v (11 + j)) := h.2.2.2.2.1 j hj
theorem V_we {U : zCS} {a : Nat} {v : zV} (h : isVal U a v) {j : Nat} (hj : j < 8) : U.2.1 (a + 3) j = J (v (19 + j)) := h.2.2.2.2.2.1 j hj
theorem V_ki {U : zCS} {a : Nat} {v : zV} (h : isVal U a v) {j : Nat} (hj : j < (v 1 : Nat)) : U.2.1 (a + 4) j = J (v (27 + j)) := (h.2.2.2.2.2.2.1 j hj).1
theorem V_pl {U : zCS} {a : Nat} {v : zV} (h : isVal U a v) {j : Nat} (hj : j < (v 1 : Nat)) : U.2.1 (a + 5) j = J (v (33 + j)) := (h.2.2.2.2.2.2.1 j hj).2.1
theorem V_wi {U : zCS} {a : Nat} {v : zV} (h : isVal U a v) {j : Nat} (hj : j < (v 1 : Nat)) : U.2.1 (a + 6) j = J (v (39 + j)) := (h.2.2.2.2.2.2.1 j hj).2.2
theorem V_sk {U : zCS} {a : Nat} {v : zV} (h : isVal U a v) {j : Nat} (hj : j < (v 2 : Nat)) : U.2.1 (a + 7) j = J (v (45 + j)) := (h.2.2.2.2.2.2.2.1 j hj).1
theorem V_sf {U : zCS} {a : Nat} {v : zV} (h : isVal U a v) {j : Nat} (hj : j < (v 2 : Nat)) : U.2.1 (a + 8) j = J (v (49 + j)) := (h.2.2.2.2.2.2.2.1 j hj).2.1
theorem V_su {U : zCS} {a : Nat} {v : zV} (h : isVal U a v) {j : Nat} (hj : j < (v 2 : Nat)) : U.2.1 (a + 9) j = J (v (53 + j)) := (h.2.2.2.2.2.2.2.1 j hj).2.2
theorem V_sy {U : zCS} {a : Nat} {v : zV} (h : isVal U a v) {m : Nat} (hm : m < 100) : U.2.1 (a + 10) m = J ((if skyB v 0 m then 1 else 0) + (if skyB v 1 m then 2 else 0)) := h.2.2.2.2.2.2.2.2 m hm
theorem C_judge {U : zCS} {a : Nat} {v : zV} (h : isVal U a v) {m : Nat} (hm : m < 100) : gX9_judge U a (J m) = some (J (jdg v m)) := by
  unfold gX9_judge jdg
  simp (disch := omega) only [wb1, wb2, wb3, wb4, wc1, wc2, zb1_ite, zb2_ite, zb3_ite, zb4_ite, zzc1_ite, zzc2_ite, J_lit, J_n1, J_n2, J_add, J_mul, J_lt, J_le, J_eq, J_eN, N_eJ, J_eN2, J_nn, J_lN, N_lJ, J_leN, N_leJ, NN_l0, NN_eN, bJ_0, bJ_1, bJ_ite, zbz_b, zbz_0, zbz_1, zag_J, zas_J, ite_true, ite_false, if_true, if_false, ite_self, reduceIte, not_true_eq_false, not_false_eq_true, J_o, Nat.reduceEqDiff, Nat.reduceAdd, Nat.reduceMul, Nat.reduceSub, Nat.reduceLT, Nat.reduceLeDiff, Nat.one_ne_zero, V_sy h hm]
  cases skyB v 0 m <;> cases skyB v 1 m <;> rfl
theorem C_isMute {U : zCS} {a : Nat} {v : zV} (h : isVal U a v) {b m : Nat} (hb : b < 3) (hm : m < 100) : gX9_isMute U a (J b) (J m) = some (bJ (mute v b m)) := by
  unfold gX9_isMute mute
  by_cases h1 : b = 1
  · subst h1
    simp (disch := omega) only [wb1, wb2, wb3, wb4, wc1, wc2, zb1_ite, zb2_ite, zb3_ite, zb4_ite, zzc1_ite, zzc2_ite, J_lit, J_n1, J_n2, J_add, J_mul, J_lt, J_le, J_eq, J_eN, N_eJ, J_eN2, J_nn, J_lN, N_lJ, J_leN, N_leJ, NN_l0, NN_eN, bJ_0, bJ_1, bJ_ite, zbz_b, zbz_0, zbz_1, zag_J, zas_J, ite_true, ite_false, if_true, if_false, ite_self, reduceIte, not_true_eq_false, not_false_eq_true, J_o, Nat.reduceEqDiff, Nat.reduceAdd, Nat.reduceMul, Nat.reduceSub, Nat.reduceLT, Nat.reduceLeDiff, Nat.one_ne_zero, V_sy h hm]
    cases skyB v 0 m <;> cases skyB v 1 m <;> rfl
  · simp (disch := omega) only [wb1, wb2, wb3, wb4, wc1, wc2, zb1_ite, zb2_ite, zb3_ite, zb4_ite, zzc1_ite, zzc2_ite, J_lit, J_n1, J_n2, J_add, J_mul, J_lt, J_le, J_eq, J_eN, N_eJ, J_eN2, J_nn, J_lN, N_lJ, J_leN, N_leJ, NN_l0, NN_eN, bJ_0, bJ_1, bJ_ite, zbz_b, zbz_0, zbz_1, zag_J, zas_J, ite_true, ite_false, if_true, if_false, ite_self, reduceIte, not_true_eq_false, not_false_eq_true, J_o, Nat.reduceEqDiff, Nat.reduceAdd, Nat.reduceMul, Nat.reduceSub, Nat.reduceLT, Nat.reduceLeDiff, Nat.one_ne_zero, h1]
    simp [bJ]
theorem C_way {U : zCS} {a : Nat} {v : zV} (h : isVal U a v) (hV : VOK v) {f t b : Nat} (hf : f ≤ (v 0 : Nat)) (ht : t ≤ (v 0 : Nat)) (hb : b < 3) : gX9_way U a (J f) (J t) (J b) = some (J (way v f t b)) := by
  unfold gX9_way way
  rw [V_w h]
  by_cases h0 : b = 0
  · simp (disch := omega) only [wb1, wb2, wb3, wb4, wc1, wc2, zb1_ite, zb2_ite, zb3_ite, zb4_ite, zzc1_ite, zzc2_ite, J_lit, J_n1, J_n2, J_add, J_mul, J_lt, J_le, J_eq, J_eN, N_eJ, J_eN2, J_nn, J_lN, N_lJ, J_leN, N_leJ, NN_l0, NN_eN, bJ_0, bJ_1, bJ_ite, zbz_b, zbz_0, zbz_1, zag_J, zas_J, ite_true, ite_false, if_true, if_false, ite_self, reduceIte, not_true_eq_false, not_false_eq_true, J_o, Nat.reduceEqDiff, Nat.reduceAdd, Nat.reduceMul, Nat.reduceSub, Nat.reduceLT, Nat.reduceLeDiff, Nat.one_ne_zero, h0]
    congr 1
    by_cases h1 : t ≤ f
    · simp (disch := omega) only [wb1, wb2, wb3, wb4, wc1, wc2, zb1_ite, zb2_ite, zb3_ite, zb4_ite, zzc1_ite, zzc2_ite, J_lit, J_n1, J_n2, J_add, J_mul, J_lt, J_le, J_eq, J_eN, N_eJ, J_eN2, J_nn, J_lN, N_lJ, J_leN, N_leJ, NN_l0, NN_eN, bJ_0, bJ_1, bJ_ite, zbz_b, zbz_0, zbz_1, zag_J, zas_J, ite_true, ite_false, if_true, if_false, ite_self, reduceIte, not_true_eq_false, not_false_eq_true, J_o, Nat.reduceEqDiff, Nat.reduceAdd, Nat.reduceMul, Nat.reduceSub, Nat.reduceLT, Nat.reduceLeDiff, Nat.one_ne_zero, J_sub]
      rw [if_pos (Nat.zero_le _), dist_c, if_pos h1]
    · have e : J f - J t = Int32.ofInt ((f : Int) - (t : Int)) := by rw [Int32.ofInt_sub, Int32.ofInt_eq_ofNat, Int32.ofInt_eq_ofNat]; rfl
      have e2 : (Int32.ofInt ((f : Int) - (t : Int))).toInt = (f : Int) - (t : Int) := Int32.toInt_ofInt_of_le (by omega) (by omega)
      rw [if_neg (by rw [Int32.le_iff_toInt_le, e, e2, J_toInt (by omega)]; omega), dist_c, if_neg h1, ← J_sub (by omega), show (J 0 : Int32) = 0 from rfl, Int32.zero_sub, Int32.neg_sub]
  · by_cases h1 : b = 1
    · simp (disch := omega) only [wb1, wb2, wb3, wb4, wc1, wc2, zb1_ite, zb2_ite, zb3_ite, zb4_ite, zzc1_ite, zzc2_ite, J_lit, J_n1, J_n2, J_add, J_mul, J_lt, J_le, J_eq, J_eN, N_eJ, J_eN2, J_nn, J_lN, N_lJ, J_leN, N_leJ, NN_l0, NN_eN, bJ_0, bJ_1, bJ_ite, zbz_b, zbz_0, zbz_1, zag_J, zas_J, ite_true, ite_false, if_true, if_false, ite_self, reduceIte, not_true_eq_false, not_false_eq_true, J_o, Nat.reduceEqDiff, Nat.reduceAdd, Nat.reduceMul, Nat.reduceSub, Nat.reduceLT, Nat.reduceLeDiff, Nat.one_ne_zero, h0, h1]
    · simp (disch := omega) only [wb1, wb2, wb3, wb4, wc1, wc2, zb1_ite, zb2_ite, zb3_ite, zb4_ite, zzc1_ite, zzc2_ite, J_lit, J_n1, J_n2, J_add, J_mul, J_lt, J_le, J_eq, J_eN, N_eJ, J_eN2, J_nn, J_lN, N_lJ, J_leN, N_leJ, NN_l0, NN_eN, bJ_0, bJ_1, bJ_ite, zbz_b, zbz_0, zbz_1, zag_J, zas_J, ite_true, ite_false, if_true, if_false, ite_self, reduceIte, not_true_eq_false, not_false_eq_true, J_o, Nat.reduceEqDiff, Nat.reduceAdd, Nat.reduceMul, Nat.reduceSub, Nat.reduceLT, Nat.reduceLeDiff, Nat.one_ne_zero, h0, h1, J_sub]
theorem C_rng {l : Nat} (hl : l < 3) : zag 3 (fun j => (zrow 0).getD j 0) (J l) = some (J (rng l)) := by
  rw [zag_J hl (by omega)]
  have : l = 0 ∨ l = 1 ∨ l = 2 := by omega
  rcases this with rfl | rfl | rfl <;> rfl
theorem C_carries {U : zCS} {a : Nat} {v : zV} (h : isVal U a v) (hV : VOK v) {f l m t b : Nat} (hf : f ≤ (v 0 : Nat)) (hl : l < 3) (hm : m < 100) (ht : t ≤ (v 0 : Nat)) (hb : b < 3) : gX9_carries U a (J f) (J l) (J m) (J t) (J b) = some (bJ (car v f l m t b)) := by
  have h1 := way_le (b := b) hV hf ht
  have h2 := @rng_le l
  unfold gX9_carries car
  rw [C_rng hl]
  simp (disch := omega) only [C_isMute h, C_way h hV, wb1, wb2, wb3, wb4, wc1, wc2, zb1_ite, zb2_ite, zb3_ite, zb4_ite, zzc1_ite, zzc2_ite, J_lit, J_n1, J_n2, J_add, J_mul, J_lt, J_le, J_eq, J_eN, N_eJ, J_eN2, J_nn, J_lN, N_lJ, J_leN, N_leJ, NN_l0, NN_eN, bJ_0, bJ_1, bJ_ite, zbz_b, zbz_0, zbz_1, zag_J, zas_J, ite_true, ite_false, if_true, if_false, ite_self, reduceIte, not_true_eq_false, not_false_eq_true, J_o, Nat.reduceEqDiff, Nat.reduceAdd, Nat.reduceMul, Nat.reduceSub, Nat.reduceLT, Nat.reduceLeDiff, Nat.one_ne_zero]
  by_cases hr : rng l < way v f t b
  · cases mute v b m <;> simp [hr, bJ, zbz_0, zb1, show ¬ way v f t b ≤ rng l by omega]
  · cases mute v b m <;> simp [hr, bJ, zbz_0, zbz_1, zb1, show way v f t b ≤ rng l by omega]
theorem C_wordBy {U : zCS} {a : Nat} {v : zV} (h : isVal U a v) {w m b : Nat} (hw : w < 8) (hm : m < 100) (hb : b < 3) : gX9_wordBy U a (J w) (J m) (J b) = some (oJ (wby v w m b)) := by
  have hj := @jdg_le v m
  unfold gX9_wordBy wby
  simp (disch := omega) only [C_isMute h, C_judge h, wb1, wb2, wb3, wb4, wc1, wc2, zb1_ite, zb2_ite, zb3_ite, zb4_ite, zzc1_ite, zzc2_ite, J_lit, J_n1, J_n2, J_add, J_mul, J_lt, J_le, J_eq, J_eN, N_eJ, J_eN2, J_nn, J_lN, N_lJ, J_leN, N_leJ, NN_l0, NN_eN, bJ_0, bJ_1, bJ_ite, zbz_b, zbz_0, zbz_1, zag_J, zas_J, ite_true, ite_false, if_true, if_false, ite_self, reduceIte, not_true_eq_false, not_false_eq_true, J_o, Nat.reduceEqDiff, Nat.reduceAdd, Nat.reduceMul, Nat.reduceSub, Nat.reduceLT, Nat.reduceLeDiff, Nat.one_ne_zero, V_sh h]
  cases mute v b m
  · by_cases h1 : b = jdg v m <;> simp [h1, oJ]
  · simp [oJ]
theorem C_arrival {U : zCS} {a : Nat} {v : zV} (h : isVal U a v) (hV : VOK v) {f w l m t b : Nat} (hf : f ≤ (v 0 : Nat)) (hw : w < 8) (hl : l < 3) (hm : m < 100) (ht : t ≤ (v 0 : Nat)) (hb : b < 3) : gX9_arrival U a (J f) (J w) (J l) (J m) (J t) (J b) = some (oJ (arr v f w l m t b)) := by
  have h1 := way_le (b := b) hV hf ht
  have h2 := @rng_le l
  have hj := @jdg_le v m
  unfold gX9_arrival arr thk
  rw [C_rng hl]
  simp (disch := omega) only [C_isMute h, C_judge h, C_way h hV, wb1, wb2, wb3, wb4, wc1, wc2, zb1_ite, zb2_ite, zb3_ite, zb4_ite, zzc1_ite, zzc2_ite, J_lit, J_n1, J_n2, J_add, J_mul, J_lt, J_le, J_eq, J_eN, N_eJ, J_eN2, J_nn, J_lN, N_lJ, J_leN, N_leJ, NN_l0, NN_eN, bJ_0, bJ_1, bJ_ite, zbz_b, zbz_0, zbz_1, zag_J, zas_J, ite_true, ite_false, if_true, if_false, ite_self, reduceIte, not_true_eq_false, not_false_eq_true, J_o, Nat.reduceEqDiff, Nat.reduceAdd, Nat.reduceMul, Nat.reduceSub, Nat.reduceLT, Nat.reduceLeDiff, Nat.one_ne_zero, V_th h]
  by_cases hr : rng l < way v f t b
  · simp [hr, oJ]
  · cases mute v b m
    · by_cases hq : b = jdg v m
      · simp only [hr, eq_true hq, oJ, if_true, if_false]; rfl
      · simp only [hr, eq_false hq, oJ, if_true, if_false]; rfl
    · simp [hr, oJ]
