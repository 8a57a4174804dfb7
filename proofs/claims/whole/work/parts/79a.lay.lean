theorem R_lessonT {M M4 : zMS} {x1 : Int32} {l : zV} (hh : gX12_hasLesson (zsI M 0 (J 0)) x1 = some (J 1, M4)) (hm : isML M4 l) (hL : LOK l) {n : Nat} (hn : n < 2147483648) : gX12_lesson M x1 (J n) = some (tll l n, M4) := by
  have h10 := hL.2.1
  have hmod : n - n / 10 * 10 = n % 10 := by omega
  have o1 : gX12_lessonOf M4 (J 1) = some (J (l 1)) := R_le hm (by omega)
  unfold gX12_lesson tll
  rw [wb1, show (0 : Int32) = J 0 from rfl, hh, wb2, if_neg (by decide)]
  simp (disch := omega) only [wb1, wb2, wb3, wb4, wc1, wc2, zb1_ite, zb2_ite, zb3_ite, zb4_ite, zzc1_ite, zzc2_ite, J_lit, J_n1, J_n2, J_add, J_mul, J_lt, J_le, J_eq, J_eN, N_eJ, J_eN2, J_nn, J_lN, N_lJ, J_leN, N_leJ, NN_l0, NN_eN, bJ_0, bJ_1, bJ_ite, zbz_b, zbz_0, zbz_1, zag_J, zas_J, ite_true, ite_false, if_true, if_false, ite_self, reduceIte, not_true_eq_false, not_false_eq_true, J_o, Nat.reduceEqDiff, Nat.reduceAdd, Nat.reduceMul, Nat.reduceSub, Nat.reduceLT, Nat.reduceLeDiff, Nat.one_ne_zero, J_div, J_sub, hmod, R_inJ, o1, decide_eq_false_iff_not]
  by_cases g1 : n < 10
  · rw [if_pos (show ¬ (10 ≤ n ∧ n ≤ 29) by omega)]
    by_cases g0 : n < 2
    · rw [if_neg (show ¬ ¬ (0 ≤ n ∧ n ≤ 1) by omega), if_pos g0, R_le hm (by omega)]; rfl
    · rw [if_pos (show ¬ (0 ≤ n ∧ n ≤ 1) by omega), if_neg g0, if_pos g1]
  rw [if_neg (show ¬ n < 2 by omega), if_neg g1]
  by_cases g2 : n < 20
  · rw [if_neg (show ¬ ¬ (10 ≤ n ∧ n ≤ 29) by omega), if_pos g2, show n % 10 = n - 10 by omega, show n / 20 = 0 by omega]
    by_cases g : n - 10 < (l 1 : Nat)
    · rw [if_neg (by omega), if_pos g, R_le hm (by omega)]; rfl
    · rw [if_pos (by omega), if_neg g]
  rw [if_neg g2]
  by_cases g3 : n < 30
  · rw [if_neg (show ¬ ¬ (10 ≤ n ∧ n ≤ 29) by omega), if_pos g3, show n % 10 = n - 20 by omega, show n / 20 = 1 by omega]
    by_cases g : n - 20 < (l 1 : Nat)
    · rw [if_neg (by omega), if_pos g, R_le hm (by omega), show 2 + 2 * (n - 20) + 1 = 3 + 2 * (n - 20) by omega]; rfl
    · rw [if_pos (by omega), if_neg g]
  · rw [if_pos (show ¬ (10 ≤ n ∧ n ≤ 29) by omega), if_pos (show ¬ (0 ≤ n ∧ n ≤ 1) by omega), if_neg g3]
theorem R_lessonN {M M4 : zMS} {x1 x : Int32} (hh : gX12_hasLesson (zsI M 0 (J 0)) x1 = some (J 1, M4)) (hx : x < J 0) : gX12_lesson M x1 x = some (NN, M4) := by
  unfold gX12_lesson
  rw [wb1, show (0 : Int32) = J 0 from rfl, hh, wb2, if_neg (by decide)]
  show zb1 (gX12_in x (J 10) (J 29)) _ = _
  rw [R_inN hx (by omega), wb1, if_pos rfl]
  show zb1 (gX12_in x (J 0) (J 1)) _ = _
  rw [R_inN hx (by omega), wb1, if_pos rfl]
  rfl
/-! sights that lie within a valley -/
def sinB (v s : zV) : Bool := (List.range (s 0 : Nat)).all (fun k => decide ((s (2 + 4 * k) : Nat) ≤ (v 0 : Nat)))
theorem sinB_i {v s : zV} : sinB v s = true ↔ SIN v s := by
  unfold sinB SIN
  simp [List.all_eq_true]
def sinK (v s : zV) : Option Nat := fstI (fun k => decide ((v 0 : Nat) < (s (2 + 4 * k) : Nat))) (s 0)
theorem C_isWithin {U : zCS} {a sa : Nat} {v s : zV} (h : isVal U a v) (hs : isSi U sa s) (hS : SOK s) : gX6_isWithin U sa a = some (bJ (sinB v s)) := by
  have h8 := hS.1
  unfold gX6_isWithin
  have hst : ∀ i, i < (s 0 : Nat) → ∀ F, gX6_isWithin_l2 U sa a F (J i) = if (s (2 + 4 * i) : Nat) ≤ (v 0 : Nat) then F (J (i + 1)) else some (J 0) := by
    intro i hi F
    unfold gX6_isWithin_l2
    rw [hs.1, if_neg (show ¬ J (s 0) ≤ J i by rw [J_le (by omega) (by omega)]; omega), zag_J (by omega) (by omega), wb1, (hs.2 i hi).2.1, C_hasPlace h (by omega), wb1]
    by_cases hc : (s (2 + 4 * i) : Nat) ≤ (v 0 : Nat)
    · rw [decide_eq_true hc, if_pos hc, if_neg (by decide)]
      show F (J i + J 1) = _
      rw [J_add]
    · rw [decide_eq_false hc, if_neg hc]; rfl
  cases hf : sinK v s with
  | none =>
    have h1 := fstI_n hf
    have hb : sinB v s = true := sinB_i.mpr (fun k hk => by have := of_decide_eq_false (h1 k hk); omega)
    rw [hb]
    exact zf1_run (f := gX6_isWithin_l2 U sa a) (r := some (bJ true)) (s 0 : Nat) J (fun i hi F => by
      have := of_decide_eq_false (h1 i hi)
      rw [hst i hi F, if_pos (by omega)]) (fun F => by
      unfold gX6_isWithin_l2
      rw [hs.1, if_pos (show J (s 0) ≤ J (s 0) by rw [J_le (by omega) (by omega)]; omega)]; rfl) (zfu_lt (by omega))
  | some c =>
    obtain ⟨h1, h2, h3⟩ := fstI_s hf
    have h2' := of_decide_eq_true h2
    have hb : sinB v s = false := by
      rw [Bool.eq_false_iff]
      intro z
      have := sinB_i.mp z c h1
      omega
    rw [hb]
    exact zf1_run (f := gX6_isWithin_l2 U sa a) (r := some (bJ false)) c J (fun i hi F => by
      have := of_decide_eq_false (h3 i hi)
      rw [hst i (by omega) F, if_pos (by omega)]) (fun F => by
      rw [hst c h1 F, if_neg (by omega)]; rfl) (zfu_lt (by omega))
theorem R_isPlaceJ {M : zMS} {v : zV} (h : isMV M v) (hV : VOK v) {p : Nat} (hp : p < 1000) : gX12_isPlace M (J p) = some (bJ (decide (p ≤ (v 0 : Nat)))) := by
  have := hV.2.1
  unfold gX12_isPlace
  rw [R_w h, show (0 : Int32) = J 0 from rfl, R_inJ (by omega) (by omega) (by omega), wb1, zbz_b, wb1]
  congr 2
  rw [decide_eq_decide]
  omega
theorem R_laySight {M M2 M5 : zMS} {x1 x2 : Int32} {v s : zV} (hh : gX12_hasSight M x2 = some (J 1, M2)) (hh2 : gX12_hand M2 x1 = some (J 1, M5)) (hm : isMV M5 v) (hs : isMS M5 s) (hV : VOK v) (hS : SOK s) : gX12_laySight M x1 x2 = some (bJ (sinB v s), M5) := by
  have h8 := hS.1
  unfold gX12_laySight
  rw [hh, wb2, if_neg (by decide), hh2, wb2, if_neg (by decide)]
  have hst : ∀ i, i < (s 0 : Nat) → ∀ F, gX12_laySight_l20 M5 F (J i) = if (s (2 + 4 * i) : Nat) ≤ (v 0 : Nat) then F (J (i + 1)) else some (J 0, M5) := by
    intro i hi F
    have f1 := R_fact hs hS hi (j := 1) (by omega)
    unfold gX12_laySight_l20
    rw [R_facts hs, wb1, if_neg (show ¬ J (s 0) ≤ J i by rw [J_le (by omega) (by omega)]; omega), show gX12_factOf M5 (J i) 1 = _ from f1, wb1, show 1 + 4 * i + 1 = 2 + 4 * i by omega, R_isPlaceJ hm hV (by omega), wb1]
    by_cases hc : (s (2 + 4 * i) : Nat) ≤ (v 0 : Nat)
    · rw [decide_eq_true hc, if_pos hc, if_neg (by decide)]
      show F (J i + J 1) = _
      rw [J_add]
    · rw [decide_eq_false hc, if_neg hc]; rfl
  cases hf : sinK v s with
  | none =>
    have h1 := fstI_n hf
    have hb : sinB v s = true := sinB_i.mpr (fun k hk => by have := of_decide_eq_false (h1 k hk); omega)
    rw [hb]
    exact zf1_run (f := gX12_laySight_l20 M5) (r := some (bJ true, M5)) (s 0 : Nat) J (fun i hi F => by
      have := of_decide_eq_false (h1 i hi)
      rw [hst i hi F, if_pos (by omega)]) (fun F => by
      unfold gX12_laySight_l20
      rw [R_facts hs, wb1, if_pos (show J (s 0) ≤ J (s 0) by rw [J_le (by omega) (by omega)]; omega)]; rfl) (zfu_lt (by omega))
  | some c =>
    obtain ⟨h1, h2, h3⟩ := fstI_s hf
    have h2' := of_decide_eq_true h2
    have hb : sinB v s = false := by
      rw [Bool.eq_false_iff]
      intro z
      have := sinB_i.mp z c h1
      omega
    rw [hb]
    exact zf1_run (f := gX12_laySight_l20 M5) (r := some (bJ false, M5)) c J (fun i hi F => by
      have := of_decide_eq_false (h3 i hi)
      rw [hst i (by omega) F, if_pos (by omega)]) (fun F => by
      rw [hst c h1 F, if_neg (by omega)]; rfl) (zfu_lt (by omega))
