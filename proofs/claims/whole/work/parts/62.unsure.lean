/-! how unsure -/
def Jl (n : Nat) : Int64 := Int64.ofNat n
theorem Jl_add (a b : Nat) : Jl a + Jl b = Jl (a + b) := (Int64.ofNat_add a b).symm
theorem Jl_mul (a b : Nat) : Jl a * Jl b = Jl (a * b) := (Int64.ofNat_mul a b).symm
theorem Jl_sub {a b : Nat} (h : b ≤ a) : Jl a - Jl b = Jl (a - b) := (Int64.ofNat_sub a b h).symm
theorem Jl_div {a b : Nat} (ha : a < 1000000) (hb : b < 1000000) : Jl a / Jl b = Jl (a / b) := (Int64.ofNat_div (by omega) (by omega)).symm
theorem Jl_toInt {a : Nat} (h : a < 1000000) : (Jl a).toInt = a := Int64.toInt_ofNat_of_lt (by omega)
theorem Jl_eq {a b : Nat} (ha : a < 1000000) (hb : b < 1000000) : (Jl a = Jl b) ↔ a = b :=
  ⟨fun h => by have h1 := congrArg Int64.toInt h; rw [Jl_toInt ha, Jl_toInt hb] at h1; omega, fun h => by rw [h]⟩
theorem J_l {a : Nat} (h : a < 1000000) : (J a).toInt64 = Jl a := by
  apply Int64.toInt_inj.1
  rw [Int32.toInt_toInt64, J_toInt (by omega), Jl_toInt h]
theorem J_mod {a b : Nat} (ha : a < 2147483648) (hb : b < 2147483648) : J a - J a / J b * J b = J (a % b) := by
  have h1 : a / b * b ≤ a := Nat.div_mul_le_self a b
  rw [J_div ha hb, J_mul, J_sub h1]
  congr 1
  have := Nat.div_add_mod a b
  rw [Nat.mul_comm] at this
  omega
theorem Jl_mod {a b : Nat} (ha : a < 1000000) (hb : b < 1000000) : Jl a - Jl a / Jl b * Jl b = Jl (a % b) := by
  have h1 : a / b * b ≤ a := Nat.div_mul_le_self a b
  rw [Jl_div ha hb, Jl_mul, Jl_sub h1]
  congr 1
  have := Nat.div_add_mod a b
  rw [Nat.mul_comm] at this
  omega
theorem Jl_cmp {a : Nat} (h : a < 1000000) : (lg_cmp (Jl a) 0 = 0) ↔ a = 0 := by
  have e : (lg_cmp (Jl a) (Jl 0) = J 0) ↔ a = 0 := by
    unfold lg_cmp
    have h1 : (Jl a > Jl 0) ↔ 0 < a := by
      show Jl 0 < Jl a ↔ _
      rw [Int64.lt_iff_toInt_lt, Jl_toInt (by omega), Jl_toInt h]
      omega
    by_cases h0 : a = 0
    · subst h0
      rw [if_neg (by rw [h1]; omega), if_pos rfl]
      simp [show (0 : Int32) = J 0 from rfl]
    · rw [if_pos (h1.mpr (by omega))]
      simp [h0]
      decide
  exact e
def wal (v : zV) : Nat → Nat := itr (fun w x => x + (v (19 + w) : Nat)) 0
def wsl (v : zV) : Nat → Nat := itr (fun w x => x + (if (v (3 + w) : Nat) = w then (v (19 + w) : Nat) else 0)) 0
theorem wal_le {v : zV} : ∀ n, wal v n ≤ 99 * n := itr_i (P := fun n x => x ≤ 99 * n) (by omega) (fun i x hx => by omega)
theorem wsl_le {v : zV} : ∀ n, wsl v n ≤ wal v n
  | 0 => Nat.le_refl _
  | n + 1 => by
    have h1 := wsl_le (v := v) n
    show wsl v n + (if (v (3 + n) : Nat) = n then (v (19 + n) : Nat) else 0) ≤ wal v n + (v (19 + n) : Nat)
    split <;> omega
theorem C_weightOfAll {U : zCS} {a : Nat} {v : zV} (h : isVal U a v) : gX10_weightOfAll U a = some (Jl (wal v 8)) := by
  unfold gX10_weightOfAll
  have hze := zf2_run (f := gX10_weightOfAll_l4 U a) (r := some (Jl (wal v 8))) 8 (fun i => Jl (wal v i)) J (by
    intro i hi F
    simp (disch := omega) only [gX10_weightOfAll_l4, wb1, wb2, wb3, wb4, wc1, wc2, zb1_ite, zb2_ite, zb3_ite, zb4_ite, zzc1_ite, zzc2_ite, J_lit, J_n1, J_n2, J_add, J_mul, J_lt, J_le, J_eq, J_eN, N_eJ, J_eN2, J_nn, J_lN, N_lJ, J_leN, N_leJ, NN_l0, NN_eN, bJ_0, bJ_1, bJ_ite, zbz_b, zbz_0, zbz_1, zag_J, zas_J, ite_true, ite_false, if_true, if_false, ite_self, reduceIte, not_true_eq_false, not_false_eq_true, J_o, Nat.reduceEqDiff, Nat.reduceAdd, Nat.reduceMul, Nat.reduceSub, Nat.reduceLT, Nat.reduceLeDiff, Nat.one_ne_zero, V_we h, J_l, Jl_add]
    rw [if_neg (by omega)]
    rfl) (by
    intro F
    simp (disch := omega) only [gX10_weightOfAll_l4, wb1, wb2, wb3, wb4, wc1, wc2, zb1_ite, zb2_ite, zb3_ite, zb4_ite, zzc1_ite, zzc2_ite, J_lit, J_n1, J_n2, J_add, J_mul, J_lt, J_le, J_eq, J_eN, N_eJ, J_eN2, J_nn, J_lN, N_lJ, J_leN, N_leJ, NN_l0, NN_eN, bJ_0, bJ_1, bJ_ite, zbz_b, zbz_0, zbz_1, zag_J, zas_J, ite_true, ite_false, if_true, if_false, ite_self, reduceIte, not_true_eq_false, not_false_eq_true, J_o, Nat.reduceEqDiff, Nat.reduceAdd, Nat.reduceMul, Nat.reduceSub, Nat.reduceLT, Nat.reduceLeDiff, Nat.one_ne_zero]) (zfu_lt (by omega))
  exact (congrArg (zb1 · fun x => some x) hze)
theorem C_weightOfSelfSame {U : zCS} {a : Nat} {v : zV} (h : isVal U a v) : gX10_weightOfSelfSame U a = some (Jl (wsl v 8)) := by
  unfold gX10_weightOfSelfSame
  have hze := zf2_run (f := gX10_weightOfSelfSame_l4 U a) (r := some (Jl (wsl v 8))) 8 (fun i => Jl (wsl v i)) J (by
    intro i hi F
    rw [show wsl v (i + 1) = wsl v i + (if (v (3 + i) : Nat) = i then (v (19 + i) : Nat) else 0) from rfl]
    simp (disch := omega) only [gX10_weightOfSelfSame_l4, wb1, wb2, wb3, wb4, wc1, wc2, zb1_ite, zb2_ite, zb3_ite, zb4_ite, zzc1_ite, zzc2_ite, J_lit, J_n1, J_n2, J_add, J_mul, J_lt, J_le, J_eq, J_eN, N_eJ, J_eN2, J_nn, J_lN, N_lJ, J_leN, N_leJ, NN_l0, NN_eN, bJ_0, bJ_1, bJ_ite, zbz_b, zbz_0, zbz_1, zag_J, zas_J, ite_true, ite_false, if_true, if_false, ite_self, reduceIte, not_true_eq_false, not_false_eq_true, J_o, Nat.reduceEqDiff, Nat.reduceAdd, Nat.reduceMul, Nat.reduceSub, Nat.reduceLT, Nat.reduceLeDiff, Nat.one_ne_zero, V_we h, V_sh h, J_l]
    rw [if_neg (by omega)]
    by_cases hq : (v (3 + i) : Nat) = i
    · rw [if_pos hq, if_pos hq, Jl_add]
    · rw [if_neg hq, if_neg hq, ← Jl_add]; rfl) (by
    intro F
    simp (disch := omega) only [gX10_weightOfSelfSame_l4, wb1, wb2, wb3, wb4, wc1, wc2, zb1_ite, zb2_ite, zb3_ite, zb4_ite, zzc1_ite, zzc2_ite, J_lit, J_n1, J_n2, J_add, J_mul, J_lt, J_le, J_eq, J_eN, N_eJ, J_eN2, J_nn, J_lN, N_lJ, J_leN, N_leJ, NN_l0, NN_eN, bJ_0, bJ_1, bJ_ite, zbz_b, zbz_0, zbz_1, zag_J, zas_J, ite_true, ite_false, if_true, if_false, ite_self, reduceIte, not_true_eq_false, not_false_eq_true, J_o, Nat.reduceEqDiff, Nat.reduceAdd, Nat.reduceMul, Nat.reduceSub, Nat.reduceLT, Nat.reduceLeDiff, Nat.one_ne_zero]) (zfu_lt (by omega))
  exact (congrArg (zb1 · fun x => some x) hze)
theorem C_gcd_st {a b j : Nat} {F : Int64 → Int64 → Int32 → Option Int64} (h1 : a < 1000000) (h2 : b < 1000000) (h3 : b ≠ 0) (h4 : j < 100) : gX10_commonDivisor_l9 F (Jl a) (Jl b) (J j) = F (Jl b) (Jl (a % b)) (J (j + 1)) := by
  unfold gX10_commonDivisor_l9
  have h5 : ¬ (100 : Int32) ≤ J j := by rw [show (100 : Int32) = J 100 from rfl, J_le (by omega) (by omega)]; omega
  have h6 : ¬ lg_cmp (Jl b) 0 = 0 := by rw [Jl_cmp h2]; exact h3
  rw [if_neg h5, if_neg h6]
  unfold zni
  rw [if_neg (by rw [show (0 : Int64) = Jl 0 from rfl, Jl_eq h2 (by omega)]; exact h3), Jl_mod h1 h2, show (1 : Int32) = J 1 from rfl, J_add]
theorem C_gcd_e {a j : Nat} {F : Int64 → Int64 → Int32 → Option Int64} : gX10_commonDivisor_l9 F (Jl a) (Jl 0) (J j) = some (Jl a) := by
  unfold gX10_commonDivisor_l9
  simp only [Jl_cmp (show 0 < 1000000 by omega), if_true]
  split <;> rfl
theorem C_gcd_l : ∀ (k a b i N : Nat), b ≤ a → a < 2 ^ k → k ≤ 15 → i + 2 * k ≤ 100 - 2 → 2 * k + 2 ≤ N → zf3 gX10_commonDivisor_l9 N (Jl a) (Jl b) (J i) = some (Jl (Nat.gcd a b))
  | 0, a, b, i, N, hab, ha, _, hi, hN => by
    cases N with
    | zero => omega
    | succ N =>
      have ha0 : a = 0 := by simpa using ha
      have hb0 : b = 0 := by omega
      subst ha0; subst hb0
      show gX10_commonDivisor_l9 _ (Jl 0) (Jl 0) (J i) = _
      unfold gX10_commonDivisor_l9
      simp only [Jl_cmp (show 0 < 1000000 by omega), if_true, Nat.gcd_self]
      split <;> rfl
  | k + 1, a, b, i, N, hab, ha, hk, hi, hN => by
    have h15 : 2 ^ (k + 1) ≤ 2 ^ 15 := Nat.pow_le_pow_right (by decide) hk
    have ha6 : a < 1000000 := by have : 2 ^ 15 = 32768 := rfl; omega
    obtain ⟨N1, rfl⟩ : ∃ N1, N = N1 + 1 + 1 := ⟨N - 2, by omega⟩
    show gX10_commonDivisor_l9 (zf3 gX10_commonDivisor_l9 (N1 + 1)) (Jl a) (Jl b) (J i) = _
    by_cases hb0 : b = 0
    · subst hb0
      rw [C_gcd_e, Nat.gcd_zero_right]
    · rw [C_gcd_st ha6 (by omega) hb0 (by omega)]
      have hr := Nat.mod_lt a (show b > 0 by omega)
      show gX10_commonDivisor_l9 (zf3 gX10_commonDivisor_l9 N1) (Jl b) (Jl (a % b)) (J (i + 1)) = _
      by_cases hr0 : a % b = 0
      · rw [hr0, C_gcd_e, Nat.gcd_comm a b, Nat.gcd_rec b a, hr0, Nat.gcd_zero_left]
      · rw [C_gcd_st (by omega) (by omega) hr0 (by omega)]
        have h2 : a % b < 2 ^ k := by
          have h3 := Nat.div_add_mod a b
          have h4 : 1 ≤ a / b := Nat.div_pos hab (by omega)
          have h5 : b * 1 ≤ b * (a / b) := Nat.mul_le_mul_left b h4
          have h6 : 2 ^ (k + 1) = 2 * 2 ^ k := by rw [Nat.pow_succ]; omega
          omega
        have h3 := Nat.mod_lt b (show a % b > 0 by omega)
        rw [C_gcd_l k (a % b) (b % (a % b)) (i + 1 + 1) N1 (by omega) h2 (by omega) (by omega) (by omega)]
        rw [Nat.gcd_comm a b, Nat.gcd_rec b a, Nat.gcd_rec (a % b) b, Nat.gcd_comm]
theorem C_commonDivisor {a b : Nat} (hab : a ≤ b) (hb : b < 1000) : gX10_commonDivisor (Jl a) (Jl b) = some (Jl (Nat.gcd a b)) := by
  unfold gX10_commonDivisor
  obtain ⟨N, hN⟩ : ∃ N, zfu = N + 1 := ⟨zfu - 1, by have := zfu_ge; omega⟩
  have hNb : 999999 ≤ N := by have := zfu_ge; omega
  rw [hN]
  show zb1 (gX10_commonDivisor_l9 (zf3 gX10_commonDivisor_l9 N) (Jl a) (Jl b) (J 0)) _ = _
  by_cases hb0 : b = 0
  · subst hb0
    have ha0 : a = 0 := by omega
    subst ha0
    rw [C_gcd_e]
    rfl
  · have hr := Nat.mod_lt a (show b > 0 by omega)
    rw [C_gcd_st (by omega) (by omega) hb0 (by omega), C_gcd_l 10 b (a % b) (0 + 1) N (by omega) (by have : 2 ^ 10 = 1024 := rfl; omega) (by omega) (by omega) (by omega), Nat.gcd_comm a b, Nat.gcd_rec b a, Nat.gcd_comm]
    rfl
def pwr (x : Nat) : Nat → Nat := itr (fun _ y => y * x) 1
theorem C_power {x n : Nat} (hn : n < 1000) : gX10_power (Jl x) (J n) = some (Jl (pwr x n)) := by
  unfold gX10_power
  have hze := zf2_run (f := gX10_power_l5 (J n) (Jl x)) (r := some (Jl (pwr x n))) n (fun i => Jl (pwr x i)) J (by
    intro i hi F
    simp (disch := omega) only [gX10_power_l5, wb1, wb2, wb3, wb4, wc1, wc2, zb1_ite, zb2_ite, zb3_ite, zb4_ite, zzc1_ite, zzc2_ite, J_lit, J_n1, J_n2, J_add, J_mul, J_lt, J_le, J_eq, J_eN, N_eJ, J_eN2, J_nn, J_lN, N_lJ, J_leN, N_leJ, NN_l0, NN_eN, bJ_0, bJ_1, bJ_ite, zbz_b, zbz_0, zbz_1, zag_J, zas_J, ite_true, ite_false, if_true, if_false, ite_self, reduceIte, not_true_eq_false, not_false_eq_true, J_o, Nat.reduceEqDiff, Nat.reduceAdd, Nat.reduceMul, Nat.reduceSub, Nat.reduceLT, Nat.reduceLeDiff, Nat.one_ne_zero, Jl_mul]
    rw [if_neg (by omega)]
    rfl) (by
    intro F
    simp (disch := omega) only [gX10_power_l5, wb1, wb2, wb3, wb4, wc1, wc2, zb1_ite, zb2_ite, zb3_ite, zb4_ite, zzc1_ite, zzc2_ite, J_lit, J_n1, J_n2, J_add, J_mul, J_lt, J_le, J_eq, J_eN, N_eJ, J_eN2, J_nn, J_lN, N_lJ, J_leN, N_leJ, NN_l0, NN_eN, bJ_0, bJ_1, bJ_ite, zbz_b, zbz_0, zbz_1, zag_J, zas_J, ite_true, ite_false, if_true, if_false, ite_self, reduceIte, not_true_eq_false, not_false_eq_true, J_o, Nat.reduceEqDiff, Nat.reduceAdd, Nat.reduceMul, Nat.reduceSub, Nat.reduceLT, Nat.reduceLeDiff, Nat.one_ne_zero]
    simp) (zfu_lt (by omega))
  exact (congrArg (zb1 · fun x => some x) hze)
theorem R_unsure_s {M : zMS} {v : zV} (h : isMV M v) : zf3 (gX12_unsure_l36 M) zfu (J 0) (J 0) (J 0) = some (J (wsl v 8), J (wal v 8)) := by
  exact zf3_run (f := gX12_unsure_l36 M) 8 (fun i => J (wsl v i)) (fun i => J (wal v i)) J (by
    intro i hi F
    rw [show wsl v (i + 1) = wsl v i + (if (v (3 + i) : Nat) = i then (v (19 + i) : Nat) else 0) from rfl, show wal v (i + 1) = wal v i + (v (19 + i) : Nat) from rfl]
    simp (disch := omega) only [gX12_unsure_l36, wb1, wb2, wb3, wb4, wc1, wc2, zb1_ite, zb2_ite, zb3_ite, zb4_ite, zzc1_ite, zzc2_ite, J_lit, J_n1, J_n2, J_add, J_mul, J_lt, J_le, J_eq, J_eN, N_eJ, J_eN2, J_nn, J_lN, N_lJ, J_leN, N_leJ, NN_l0, NN_eN, bJ_0, bJ_1, bJ_ite, zbz_b, zbz_0, zbz_1, zag_J, zas_J, ite_true, ite_false, if_true, if_false, ite_self, reduceIte, not_true_eq_false, not_false_eq_true, J_o, Nat.reduceEqDiff, Nat.reduceAdd, Nat.reduceMul, Nat.reduceSub, Nat.reduceLT, Nat.reduceLeDiff, Nat.one_ne_zero, R_of h]
    rw [if_neg (by omega)]
    by_cases hq : (v (3 + i) : Nat) = i
    · rw [if_pos hq, if_pos hq]
    · rw [if_neg hq, if_neg hq]) (by
    intro F
    simp (disch := omega) only [gX12_unsure_l36, wb1, wb2, wb3, wb4, wc1, wc2, zb1_ite, zb2_ite, zb3_ite, zb4_ite, zzc1_ite, zzc2_ite, J_lit, J_n1, J_n2, J_add, J_mul, J_lt, J_le, J_eq, J_eN, N_eJ, J_eN2, J_nn, J_lN, N_lJ, J_leN, N_leJ, NN_l0, NN_eN, bJ_0, bJ_1, bJ_ite, zbz_b, zbz_0, zbz_1, zag_J, zas_J, ite_true, ite_false, if_true, if_false, ite_self, reduceIte, not_true_eq_false, not_false_eq_true, J_o, Nat.reduceEqDiff, Nat.reduceAdd, Nat.reduceMul, Nat.reduceSub, Nat.reduceLT, Nat.reduceLeDiff, Nat.one_ne_zero]) (zfu_lt (by omega))
theorem R_unsure_g {a b : Nat} (hab : a ≤ b) (hb0 : 0 < b) (hb : b < 1000) : zf1 (gX12_unsure_l107 (J a) (J b)) zfu (J b) = some (J (Nat.gcd a b)) := by
  have hg0 : 0 < Nat.gcd a b := Nat.gcd_pos_of_pos_right a hb0
  have hgb : Nat.gcd a b ≤ b := Nat.le_of_dvd hb0 (Nat.gcd_dvd_right a b)
  refine zf1_run (f := gX12_unsure_l107 (J a) (J b)) (b - Nat.gcd a b) (fun i => J (b - i)) (fun i hi F => ?_) (fun F => ?_) (zfu_lt (by omega))
  · have hne : ¬ (a % (b - i) = 0 ∧ b % (b - i) = 0) := fun ⟨z1, z2⟩ => by
      have := Nat.le_of_dvd hg0 (Nat.dvd_gcd (Nat.dvd_of_mod_eq_zero z1) (Nat.dvd_of_mod_eq_zero z2))
      omega
    have hdn : J (b - i) + NN = J (b - (i + 1)) := by
      have := dn_s (w := b) (i := i) (by omega)
      rw [this]; exact if_pos (by omega)
    have m1 := Nat.mod_le a (b - i)
    have m2 := Nat.mod_le b (b - i)
    unfold gX12_unsure_l107 zni
    simp (disch := omega) only [wb1, wb2, wb3, wb4, wc1, wc2, zb1_ite, zb2_ite, zb3_ite, zb4_ite, zzc1_ite, zzc2_ite, J_lit, J_n1, J_n2, J_add, J_mul, J_lt, J_le, J_eq, J_eN, N_eJ, J_eN2, J_nn, J_lN, N_lJ, J_leN, N_leJ, NN_l0, NN_eN, bJ_0, bJ_1, bJ_ite, zbz_b, zbz_0, zbz_1, zag_J, zas_J, ite_true, ite_false, if_true, if_false, ite_self, reduceIte, not_true_eq_false, not_false_eq_true, J_o, Nat.reduceEqDiff, Nat.reduceAdd, Nat.reduceMul, Nat.reduceSub, Nat.reduceLT, Nat.reduceLeDiff, Nat.one_ne_zero, J_mod, hdn]
    rw [if_neg (by omega)]
    by_cases z1 : a % (b - i) = 0
    · rw [if_pos z1, if_neg (by omega), if_neg (fun z2 => hne ⟨z1, z2⟩)]
    · rw [if_neg z1]
  · rw [show b - (b - Nat.gcd a b) = Nat.gcd a b by omega]
    have z1 : a % Nat.gcd a b = 0 := Nat.mod_eq_zero_of_dvd (Nat.gcd_dvd_left a b)
    have z2 : b % Nat.gcd a b = 0 := Nat.mod_eq_zero_of_dvd (Nat.gcd_dvd_right a b)
    unfold gX12_unsure_l107 zni
    simp (disch := omega) only [wb1, wb2, wb3, wb4, wc1, wc2, zb1_ite, zb2_ite, zb3_ite, zb4_ite, zzc1_ite, zzc2_ite, J_lit, J_n1, J_n2, J_add, J_mul, J_lt, J_le, J_eq, J_eN, N_eJ, J_eN2, J_nn, J_lN, N_lJ, J_leN, N_leJ, NN_l0, NN_eN, bJ_0, bJ_1, bJ_ite, zbz_b, zbz_0, zbz_1, zag_J, zas_J, ite_true, ite_false, if_true, if_false, ite_self, reduceIte, not_true_eq_false, not_false_eq_true, J_o, Nat.reduceEqDiff, Nat.reduceAdd, Nat.reduceMul, Nat.reduceSub, Nat.reduceLT, Nat.reduceLeDiff, Nat.one_ne_zero, J_mod, z1, z2]
    rw [if_neg (by omega)]
    try rw [if_neg (by omega)]
theorem R_unsure_p {n t a b g : Nat} (hn : n < 1000) (ht : t < 2) (ha : a < 100000) (hb : b < 100000) (hg : g < 100000) (hg0 : 0 < g) : zf2 (gX12_unsure_l135 (J n) (J t) (J a) (J b) (J g)) zfu (Jl 1) (J 0) = some (Jl (pwr ((if t = 0 then a else b) / g) n)) := by
  exact zf2_run (f := gX12_unsure_l135 (J n) (J t) (J a) (J b) (J g)) n (fun i => Jl (pwr ((if t = 0 then a else b) / g) i)) J (by
    intro i hi F
    have h1 : a / g ≤ a := Nat.div_le_self _ _
    have h2 : b / g ≤ b := Nat.div_le_self _ _
    unfold gX12_unsure_l135 zni
    simp (disch := omega) only [wb1, wb2, wb3, wb4, wc1, wc2, zb1_ite, zb2_ite, zb3_ite, zb4_ite, zzc1_ite, zzc2_ite, J_lit, J_n1, J_n2, J_add, J_mul, J_lt, J_le, J_eq, J_eN, N_eJ, J_eN2, J_nn, J_lN, N_lJ, J_leN, N_leJ, NN_l0, NN_eN, bJ_0, bJ_1, bJ_ite, zbz_b, zbz_0, zbz_1, zag_J, zas_J, ite_true, ite_false, if_true, if_false, ite_self, reduceIte, not_true_eq_false, not_false_eq_true, J_o, Nat.reduceEqDiff, Nat.reduceAdd, Nat.reduceMul, Nat.reduceSub, Nat.reduceLT, Nat.reduceLeDiff, Nat.one_ne_zero, J_div, J_l, Jl_mul]
    rw [if_neg (by omega)]
    by_cases h0 : t = 0
    · rw [if_pos h0, if_neg (by omega), if_pos h0]; rfl
    · rw [if_neg h0, if_neg (by omega), if_neg h0]; rfl) (by
    intro F
    simp (disch := omega) only [gX12_unsure_l135, wb1, wb2, wb3, wb4, wc1, wc2, zb1_ite, zb2_ite, zb3_ite, zb4_ite, zzc1_ite, zzc2_ite, J_lit, J_n1, J_n2, J_add, J_mul, J_lt, J_le, J_eq, J_eN, N_eJ, J_eN2, J_nn, J_lN, N_lJ, J_leN, N_leJ, NN_l0, NN_eN, bJ_0, bJ_1, bJ_ite, zbz_b, zbz_0, zbz_1, zag_J, zas_J, ite_true, ite_false, if_true, if_false, ite_self, reduceIte, not_true_eq_false, not_false_eq_true, J_o, Nat.reduceEqDiff, Nat.reduceAdd, Nat.reduceMul, Nat.reduceSub, Nat.reduceLT, Nat.reduceLeDiff, Nat.one_ne_zero]
    simp) (zfu_lt (by omega))
