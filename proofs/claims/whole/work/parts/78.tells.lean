/-! what is asked for by its number -/
def inb (n : Nat) (x : Int32) : Bool := decide (¬ x < J 0 ∧ x < J n)
theorem inb_J {n k : Nat} (hn : n < 2147483648) (hk : k < 2147483648) : inb n (J k) = decide (k < n) := by
  unfold inb
  rw [decide_eq_decide, J_lt hk (by omega), J_lt hk hn]
  omega
theorem inb_n {n : Nat} {x : Int32} (hx : x < J 0) : inb n x = false := decide_eq_false (fun z => z.1 hx)
theorem R_in0 {n : Nat} (hn : n < 1000) (x : Int32) : gX12_in x 0 (J n - 1) = some (bJ (inb n x)) := by
  rw [R_in]
  congr 2
  unfold inb
  rw [decide_eq_decide]
  show (¬ x < J 0 ∧ ¬ J n - J 1 < x) ↔ _
  obtain ⟨k, hk, rfl⟩ | hx := J_all x
  · cases n with
    | zero =>
      rw [show J 0 - J 1 = NN from by decide]
      have h1 : NN < J k := by
        have := neg_lt (x := NN) (by decide) hk
        exact this.mpr trivial
      rw [J_lt hk (by omega)]
      simp [h1]
    | succ n =>
      rw [J_sub (by omega), J_lt hk (by omega), J_lt (by omega) hk, J_lt hk (by omega)]
      omega
  · simp [hx]
theorem R_isX {M : zMS} {k n : Nat} (h : M.2.2 5 k = J n) (hn : n < 1000) (hk : k < 16) (x : Int32) : gX12_is M (J k) x = some (bJ (inb n x)) := by
  unfold gX12_is
  rw [zag_J hk (by omega), wb1, h, R_in0 hn, wb1, zbz_b, wb1]
def isMVs (M : zMS) (n : Nat) (vs : Nat → zV) : Prop := M.2.2 5 0 = J n ∧ n ≤ 2 ∧ ∀ k, k < n → ∀ j, j < 57 → M.2.2 6 (57 * k + j) = J (vs k j)
theorem R_hand0 {M : zMS} {n : Nat} {vs : Nat → zV} (h : isMVs M n vs) {x : Int32} (hx : inb n x = false) : gX12_hand M x = some (J 0, zsI M 23 x) := by
  obtain ⟨h1, h2, h3⟩ := h
  unfold gX12_hand
  have := R_isX (M := zsI M 23 x) (k := 0) h1 (by omega) (by omega) x
  rw [wb1, show (0 : Int32) = J 0 from rfl, this, hx, wb1]
  rfl
theorem R_hand1 {M : zMS} {n : Nat} {vs : Nat → zV} (h : isMVs M n vs) {k : Nat} (hk : k < n) : ∃ M', gX12_hand M (J k) = some (J 1, M') ∧ isMV M' (vs k) ∧ M' = zsI (zsI (zsI M 23 (J k)) 24 (J (vs k 0))) 25 (J (vs k 1)) := by
  obtain ⟨h1, h2, h3⟩ := h
  have o1 : gX12_of (zsI M 23 (J k)) 0 = some (J (vs k 0)) := by
    unfold gX12_of
    have hz := h3 k hk 0 (by omega)
    rw [zsI_1, show (57 : Int32) * J k + 0 = J (57 * k + 0) by rw [show (57 : Int32) = J 57 from rfl, show (0 : Int32) = J 0 from rfl, J_mul, J_add], zag_J (by omega) (by omega), wb1]
    exact congrArg some hz
  have o2 : gX12_of (zsI (zsI M 23 (J k)) 24 (J (vs k 0))) 1 = some (J (vs k 1)) := by
    unfold gX12_of
    have hz := h3 k hk 1 (by omega)
    rw [zsI_o (by omega), zsI_1, show (57 : Int32) * J k + 1 = J (57 * k + 1) by rw [show (57 : Int32) = J 57 from rfl, show (1 : Int32) = J 1 from rfl, J_mul, J_add], zag_J (by omega) (by omega), wb1]
    exact congrArg some hz
  refine ⟨zsI (zsI (zsI M 23 (J k)) 24 (J (vs k 0))) 25 (J (vs k 1)), ?_, ⟨k, by omega, ?_, ?_, ?_, fun j hj => h3 k hk j hj⟩, rfl⟩
  · unfold gX12_hand
    have := R_isX (M := zsI M 23 (J k)) (k := 0) h1 (by omega) (by omega) (J k)
    rw [wb1, show gX12_is (zsI M 23 (J k)) 0 (J k) = some (bJ (inb n (J k))) from this, inb_J (by omega) (by omega), decide_eq_true hk, wb1, if_neg (by decide), o1, wb1, wb1, o2, wb1, wb1]
    rfl
  · rw [zsI_o (by omega), zsI_o (by omega), zsI_1]
  · rw [zsI_o (by omega), zsI_1]
  · rw [zsI_1]
/-! a valley told -/
def tlv (v : zV) (n : Nat) : Int32 := if n < 3 then J (v n) else if n < 10 then NN else if n < 40 then (if n % 10 < 8 then J (v (3 + 8 * (n / 10 - 1) + n % 10)) else NN) else if n < 70 then (if n % 10 < (v 1 : Nat) then J (v (27 + 6 * (n / 10 - 4) + n % 10)) else NN) else if n < 100 then (if n % 10 < (v 2 : Nat) then J (v (45 + 4 * (n / 10 - 7) + n % 10)) else NN) else NN
theorem C_isWordJ {n : Nat} (hn : n < 1000) : gX11_isWord (J n) = some (bJ (decide (n < 8))) := by
  unfold gX11_isWord
  simp (disch := omega) only [wb1, wb2, wb3, wb4, wc1, wc2, zb1_ite, zb2_ite, zb3_ite, zb4_ite, zzc1_ite, zzc2_ite, J_lit, J_n1, J_n2, J_add, J_mul, J_lt, J_le, J_eq, J_eN, N_eJ, J_eN2, J_nn, J_lN, N_lJ, J_leN, N_leJ, NN_l0, NN_eN, bJ_0, bJ_1, bJ_ite, zbz_b, zbz_0, zbz_1, zag_J, zas_J, ite_true, ite_false, if_true, if_false, ite_self, reduceIte, not_true_eq_false, not_false_eq_true, J_o, Nat.reduceEqDiff, Nat.reduceAdd, Nat.reduceMul, Nat.reduceSub, Nat.reduceLT, Nat.reduceLeDiff, Nat.one_ne_zero]
  by_cases h : n < 8
  · rw [if_neg (Nat.not_lt_zero n), if_neg (by omega), decide_eq_true h]; rfl
  · rw [if_neg (Nat.not_lt_zero n), if_pos (by omega), decide_eq_false h]; rfl
theorem C_tellV {U : zCS} {a : Nat} {v : zV} (h : isVal U a v) (hV : VOK v) {n : Nat} (hn : n < 2147483648) : gX9_tell U a (J n) = some (tlv v n) := by
  have h1 := hV.2.2.1
  have h2 := hV.2.2.2.1
  have hmod : n - n / 10 * 10 = n % 10 := by omega
  unfold gX9_tell tlv
  rw [V_w h, V_p h, V_s h]
  simp (disch := omega) only [wb1, wb2, wb3, wb4, wc1, wc2, zb1_ite, zb2_ite, zb3_ite, zb4_ite, zzc1_ite, zzc2_ite, J_lit, J_n1, J_n2, J_add, J_mul, J_lt, J_le, J_eq, J_eN, N_eJ, J_eN2, J_nn, J_lN, N_lJ, J_leN, N_leJ, NN_l0, NN_eN, bJ_0, bJ_1, bJ_ite, zbz_b, zbz_0, zbz_1, zag_J, zas_J, ite_true, ite_false, if_true, if_false, ite_self, reduceIte, not_true_eq_false, not_false_eq_true, J_o, Nat.reduceEqDiff, Nat.reduceAdd, Nat.reduceMul, Nat.reduceSub, Nat.reduceLT, Nat.reduceLeDiff, Nat.one_ne_zero, J_div, J_sub, hmod]
  rw [if_pos (Nat.zero_le n)]
  by_cases g1 : n < 10
  · rw [if_neg (show ¬ 10 ≤ n by omega)]
    obtain rfl | rfl | rfl | h3 : n = 0 ∨ n = 1 ∨ n = 2 ∨ 3 ≤ n := by omega
    · rfl
    · rfl
    · rfl
    · rw [show n % 10 = n by omega, if_neg (by omega), if_neg (by omega), if_neg (by omega), if_neg (by omega), if_pos g1]
  rw [if_pos (show 10 ≤ n by omega), if_neg (show ¬ n < 3 by omega), if_neg g1]
  by_cases g2 : n < 40
  · rw [if_neg (show ¬ 40 ≤ n by omega), if_pos g2, C_isWordJ (by omega), wb1]
    by_cases g : n % 10 < 8
    · rw [decide_eq_true g, if_pos g, if_neg (by decide)]
      unfold gX9_tellWord
      simp (disch := omega) only [wb1, wb2, wb3, wb4, wc1, wc2, zb1_ite, zb2_ite, zb3_ite, zb4_ite, zzc1_ite, zzc2_ite, J_lit, J_n1, J_n2, J_add, J_mul, J_lt, J_le, J_eq, J_eN, N_eJ, J_eN2, J_nn, J_lN, N_lJ, J_leN, N_leJ, NN_l0, NN_eN, bJ_0, bJ_1, bJ_ite, zbz_b, zbz_0, zbz_1, zag_J, zas_J, ite_true, ite_false, if_true, if_false, ite_self, reduceIte, not_true_eq_false, not_false_eq_true, J_o, Nat.reduceEqDiff, Nat.reduceAdd, Nat.reduceMul, Nat.reduceSub, Nat.reduceLT, Nat.reduceLeDiff, Nat.one_ne_zero]
      obtain hq | hq | hq : n / 10 = 1 ∨ n / 10 = 2 ∨ n / 10 = 3 := by omega
      · rw [if_pos hq, hq, V_sh h g]; try rfl
      · rw [if_neg (by omega), if_pos hq, hq, V_th h g]; try rfl
      · rw [if_neg (by omega), if_neg (by omega), hq, V_we h g]; try rfl
    · rw [decide_eq_false g, if_neg g]
      rfl
  rw [if_pos (show 40 ≤ n by omega), if_neg g2]
  by_cases g3 : n < 70
  · rw [if_neg (show ¬ 70 ≤ n by omega), if_pos g3, C_hasPerson h (by omega), wb1]
    by_cases g : n % 10 < (v 1 : Nat)
    · rw [decide_eq_true g, if_pos g, if_neg (by decide)]
      unfold gX9_tellPerson
      simp (disch := omega) only [wb1, wb2, wb3, wb4, wc1, wc2, zb1_ite, zb2_ite, zb3_ite, zb4_ite, zzc1_ite, zzc2_ite, J_lit, J_n1, J_n2, J_add, J_mul, J_lt, J_le, J_eq, J_eN, N_eJ, J_eN2, J_nn, J_lN, N_lJ, J_leN, N_leJ, NN_l0, NN_eN, bJ_0, bJ_1, bJ_ite, zbz_b, zbz_0, zbz_1, zag_J, zas_J, ite_true, ite_false, if_true, if_false, ite_self, reduceIte, not_true_eq_false, not_false_eq_true, J_o, Nat.reduceEqDiff, Nat.reduceAdd, Nat.reduceMul, Nat.reduceSub, Nat.reduceLT, Nat.reduceLeDiff, Nat.one_ne_zero]
      obtain hq | hq | hq : n / 10 = 4 ∨ n / 10 = 5 ∨ n / 10 = 6 := by omega
      · rw [if_pos hq, hq, V_ki h g]; try rfl
      · rw [if_neg (by omega), if_pos hq, hq, V_pl h g]; try rfl
      · rw [if_neg (by omega), if_neg (by omega), hq, V_wi h g]; try rfl
    · rw [decide_eq_false g, if_neg g]
      rfl
  rw [if_pos (show 70 ≤ n by omega), if_neg g3]
  by_cases g : n % 10 < (v 2 : Nat)
  · rw [if_neg (by omega), if_pos g]
    unfold gX9_tellSky
    simp (disch := omega) only [wb1, wb2, wb3, wb4, wc1, wc2, zb1_ite, zb2_ite, zb3_ite, zb4_ite, zzc1_ite, zzc2_ite, J_lit, J_n1, J_n2, J_add, J_mul, J_lt, J_le, J_eq, J_eN, N_eJ, J_eN2, J_nn, J_lN, N_lJ, J_leN, N_leJ, NN_l0, NN_eN, bJ_0, bJ_1, bJ_ite, zbz_b, zbz_0, zbz_1, zag_J, zas_J, ite_true, ite_false, if_true, if_false, ite_self, reduceIte, not_true_eq_false, not_false_eq_true, J_o, Nat.reduceEqDiff, Nat.reduceAdd, Nat.reduceMul, Nat.reduceSub, Nat.reduceLT, Nat.reduceLeDiff, Nat.one_ne_zero]
    obtain hq | hq | hq | hq : n / 10 = 7 ∨ n / 10 = 8 ∨ n / 10 = 9 ∨ 100 ≤ n := by omega
    · rw [if_pos hq, hq, V_sk h g, if_pos (by omega)]; try rfl
    · rw [if_neg (by omega), if_pos hq, hq, V_sf h g, if_pos (by omega)]; try rfl
    · rw [if_neg (by omega), if_neg (by omega), if_pos hq, hq, V_su h g, if_pos (by omega)]; try rfl
    · rw [if_neg (by omega), if_neg (by omega), if_neg (by omega), if_neg (by omega)]
  · rw [if_pos (by omega), if_neg g, ite_self]
theorem C_tellVn {U : zCS} {a : Nat} {x : Int32} (hx : x < J 0) : gX9_tell U a x = some NN := by
  unfold gX9_tell
  rw [if_neg (show ¬ (0 : Int32) ≤ x from (neg_le hx (k := 0) (by omega)).mp)]
  rfl
