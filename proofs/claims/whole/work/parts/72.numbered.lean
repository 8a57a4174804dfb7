/-! the sayings that may be, by their numbers -/
def sob (v s : zV) (x : Nat) : Bool := decide (x % 10 < 8) && swd v s (x / 10) (x % 10)
theorem sob_b {v s : zV} {q j : Nat} (hj : j ≤ 8) : cnt (sob v s) (10 * q + j) = cnt (sob v s) (10 * q) + cnt (swd v s q) j := by
  induction j with
  | zero => rfl
  | succ j ih =>
    rw [show 10 * q + (j + 1) = 10 * q + j + 1 by omega, cnt_s, ih (by omega), cnt_s]
    have e : sob v s (10 * q + j) = swd v s q j := by
      unfold sob
      rw [show (10 * q + j) % 10 = j by omega, show (10 * q + j) / 10 = q by omega, decide_eq_true (show j < 8 by omega)]
      rfl
    rw [e]; omega
theorem sob_B {v s : zV} : ∀ q, cnt (sob v s) (10 * q) = Bq v s q
  | 0 => rfl
  | q + 1 => by
    have e8 : sob v s (10 * q + 8) = false := by unfold sob; rw [show (10 * q + 8) % 10 = 8 by omega]; rfl
    have e9 : sob v s (10 * q + 9) = false := by unfold sob; rw [show (10 * q + 9) % 10 = 9 by omega]; rfl
    rw [show 10 * (q + 1) = 10 * q + 8 + 1 + 1 by omega, cnt_s, show 10 * q + 8 + 1 = 10 * q + 9 by omega, e9, show 10 * q + 9 = 10 * q + 8 + 1 by omega, cnt_s, e8, sob_b (Nat.le_refl 8), sob_B q, Bq_s]
    simp
theorem cnt_up {p : Nat → Bool} {x : Nat} : ∀ d, cnt p x ≤ cnt p (x + d)
  | 0 => Nat.le_refl _
  | d + 1 => Nat.le_trans (cnt_up d) (by rw [show x + (d + 1) = x + d + 1 by omega, cnt_s]; omega)
theorem cnt_st {p : Nat → Bool} {x y : Nat} (hx : p x = true) (h : x < y) : cnt p x < cnt p y := by
  have h1 := cnt_up (p := p) (x := x + 1) (y - (x + 1))
  rw [show x + 1 + (y - (x + 1)) = y by omega, cnt_s, hx] at h1
  simp at h1
  omega
def kth (v s : zV) (k N : Nat) : Option Nat := fstI (fun x => sob v s x && decide (cnt (sob v s) x = k)) N
theorem kth_u {v s : zV} {k N x : Nat} (hx : x < N) (h1 : sob v s x = true) (h2 : cnt (sob v s) x = k) : kth v s k N = some x := by
  unfold kth
  cases hf : fstI (fun x => sob v s x && decide (cnt (sob v s) x = k)) N with
  | none =>
    have := fstI_n hf x hx
    rw [h1, decide_eq_true h2] at this; cases this
  | some y =>
    obtain ⟨-, h3, -⟩ := fstI_s hf
    rw [Bool.and_eq_true, decide_eq_true_eq] at h3
    rcases Nat.lt_trichotomy x y with z | z | z
    · have := cnt_st h1 z; omega
    · rw [z]
    · have := cnt_st h3.1 z; omega
theorem kth_n {v s : zV} {k N : Nat} (h : cnt (sob v s) N ≤ k) : kth v s k N = none := by
  unfold kth
  cases hf : fstI (fun x => sob v s x && decide (cnt (sob v s) x = k)) N with
  | none => rfl
  | some y =>
    obtain ⟨h1, h3, -⟩ := fstI_s hf
    rw [Bool.and_eq_true, decide_eq_true_eq] at h3
    have := cnt_st h3.1 h1
    omega
theorem cnt_k {p : Nat → Bool} {k : Nat} : ∀ {n : Nat}, k < cnt p n → ∃ w, w < n ∧ p w = true ∧ cnt p w = k
  | 0, h => by simp [cnt] at h
  | n + 1, h => by
    rw [cnt_s] at h
    by_cases h1 : k < cnt p n
    · obtain ⟨w, a, b, c⟩ := cnt_k h1
      exact ⟨w, by omega, b, c⟩
    · cases hp : p n
      · rw [hp] at h; simp at h; omega
      · rw [hp] at h; simp at h; exact ⟨n, by omega, hp, by omega⟩
theorem C_wordNumbered {p : Nat → Bool} {k w : Nat} (hw : w < 8) (h1 : p w = true) (h2 : cnt p w = k) : gX5_wordNumbered (J (bts p 8)) (J k) = some (J w) := by
  have hk : k ≤ 8 := by have := cnt_le (p := p) w; omega
  unfold gX5_wordNumbered
  have hze := zf2_run (f := gX5_wordNumbered_l4 (J (bts p 8))) (r := some (J w)) w (fun i => J (k - cnt p i)) J (by
    intro i hi F
    have hl := cnt_up (p := p) (x := i) (w - i)
    rw [show i + (w - i) = w by omega] at hl
    have hb : (bts p 8).testBit i = p i := by rw [bts_t]; simp; omega
    simp (disch := omega) only [gX5_wordNumbered_l4, wb1, wb2, wb3, wb4, wc1, wc2, zb1_ite, zb2_ite, zb3_ite, zb4_ite, zzc1_ite, zzc2_ite, J_lit, J_n1, J_n2, J_add, J_mul, J_lt, J_le, J_eq, J_eN, N_eJ, J_eN2, J_nn, J_lN, N_lJ, J_leN, N_leJ, NN_l0, NN_eN, bJ_0, bJ_1, bJ_ite, zbz_b, zbz_0, zbz_1, zag_J, zas_J, ite_true, ite_false, if_true, if_false, ite_self, reduceIte, not_true_eq_false, not_false_eq_true, J_o, Nat.reduceEqDiff, Nat.reduceAdd, Nat.reduceMul, Nat.reduceSub, Nat.reduceLT, Nat.reduceLeDiff, Nat.one_ne_zero, J_bit8 (bts p 8) bts_256 i (by omega), hb]
    rw [if_neg (by omega), cnt_s]
    cases hpi : p i
    · simp
    · have := cnt_st hpi hi
      simp only [Bool.true_eq_false, if_false, if_true]
      rw [if_neg (by omega)]
      have e : J (k - cnt p i) + NN = J (k - (cnt p i + 1)) := by
        have := dn_s (w := k - cnt p i) (i := 0) (by omega)
        rw [Nat.sub_zero] at this
        rw [this]
        have h9 : dn (k - cnt p i) (0 + 1) = J (k - cnt p i - (0 + 1)) := if_pos (by omega)
        rw [h9]
        congr 1
      rw [e]) (by
    intro F
    have hb : (bts p 8).testBit w = true := by rw [bts_t, h1]; simp; omega
    simp (disch := omega) only [gX5_wordNumbered_l4, wb1, wb2, wb3, wb4, wc1, wc2, zb1_ite, zb2_ite, zb3_ite, zb4_ite, zzc1_ite, zzc2_ite, J_lit, J_n1, J_n2, J_add, J_mul, J_lt, J_le, J_eq, J_eN, N_eJ, J_eN2, J_nn, J_lN, N_lJ, J_leN, N_leJ, NN_l0, NN_eN, bJ_0, bJ_1, bJ_ite, zbz_b, zbz_0, zbz_1, zag_J, zas_J, ite_true, ite_false, if_true, if_false, ite_self, reduceIte, not_true_eq_false, not_false_eq_true, J_o, Nat.reduceEqDiff, Nat.reduceAdd, Nat.reduceMul, Nat.reduceSub, Nat.reduceLT, Nat.reduceLeDiff, Nat.one_ne_zero, J_bit8 (bts p 8) bts_256 w hw, hb]
    rw [if_neg (by omega), h2, Nat.sub_self]
    simp) (zfu_lt (by omega))
  have e0 : cnt p 0 = 0 := rfl
  rw [e0, Nat.sub_zero] at hze
  exact hze
theorem C_numbered {U : zCS} {a sa : Nat} {v s : zV} (h : isVal U a v) (hs : isSi U sa s) (hV : VOK v) (hS : SOK s) (hI : SIN v s) {k : Nat} (hk : k < 2147483648) : gX5_numbered U a sa (J k) = some (oJ (kth v s k (1000 * (v 0 + 1)))) := by
  have hw := hV.2.1
  -- the minutes of a place
  have inn : ∀ c F, c ≤ (v 0 : Nat) → Bq v s (100 * c) ≤ k → zf2 (gX5_numbered_l21 F (J c) U a sa) zfu (J (k - Bq v s (100 * c))) (J 0) = if k < Bq v s (100 * c + 100) then some (oJ (kth v s k (1000 * (v 0 + 1)))) else F (J (k - Bq v s (100 * c + 100))) (J (c + 1)) := by
    intro c F hc hB
    have hb : ∀ i, i ≤ 100 → (∀ j, j < i → ¬ k < Bq v s (100 * c + j + 1)) → Bq v s (100 * c + i) ≤ k := fun i hi hj => by
      cases i with
      | zero => exact hB
      | succ i => have := hj i (by omega); rw [show 100 * c + (i + 1) = 100 * c + i + 1 by omega]; omega
    have hze := zf2_fnd (f := gX5_numbered_l21 F (J c) U a sa) 100 (fun i => J (k - Bq v s (100 * c + i))) J (fun i => decide (k < Bq v s (100 * c + i + 1))) (fun _ => some (oJ (kth v s k (1000 * (v 0 + 1))))) (F (J (k - Bq v s (100 * c + 100))) (J (c + 1))) (by omega) (by
      intro i hi hq G
      have h0 := hb i (by omega) (fun j hj => of_decide_eq_false (hq j (by omega)))
      have h1 := of_decide_eq_false (hq i (Nat.le_refl _))
      rw [Bq_s] at h1
      have h3 := cnt_le (p := swd v s (100 * c + i)) 8
      simp (disch := omega) only [gX5_numbered_l21, wb1, wb2, wb3, wb4, wc1, wc2, zb1_ite, zb2_ite, zb3_ite, zb4_ite, zzc1_ite, zzc2_ite, J_lit, J_n1, J_n2, J_add, J_mul, J_lt, J_le, J_eq, J_eN, N_eJ, J_eN2, J_nn, J_lN, N_lJ, J_leN, N_leJ, NN_l0, NN_eN, bJ_0, bJ_1, bJ_ite, zbz_b, zbz_0, zbz_1, zag_J, zas_J, ite_true, ite_false, if_true, if_false, ite_self, reduceIte, not_true_eq_false, not_false_eq_true, J_o, Nat.reduceEqDiff, Nat.reduceAdd, Nat.reduceMul, Nat.reduceSub, Nat.reduceLT, Nat.reduceLeDiff, Nat.one_ne_zero, C_mb h hs hV hS hI, C_bitCount bts_256, bts_pop]
      rw [if_neg (by omega), if_pos (by omega), J_sub (by omega), show 100 * c + (i + 1) = 100 * c + i + 1 by omega, Bq_s, Nat.sub_sub]) (by
      intro i hi hq hj G
      have h0 := hb i (by omega) (fun j hj2 => of_decide_eq_false (hj j hj2))
      have h1 := of_decide_eq_true hq
      rw [Bq_s] at h1
      have h3 := cnt_le (p := swd v s (100 * c + i)) 8
      obtain ⟨w, w1, w2, w3⟩ := cnt_k (p := swd v s (100 * c + i)) (k := k - Bq v s (100 * c + i)) (n := 8) (by omega)
      have hx : kth v s k (1000 * (v 0 + 1)) = some (10 * (100 * c + i) + w) := kth_u (by omega) (by
        unfold sob
        rw [show (10 * (100 * c + i) + w) % 10 = w by omega, show (10 * (100 * c + i) + w) / 10 = 100 * c + i by omega, decide_eq_true w1, w2]; rfl) (by rw [sob_b (by omega), sob_B, w3]; omega)
      rw [hx, oJ_s]
      simp (disch := omega) only [gX5_numbered_l21, wb1, wb2, wb3, wb4, wc1, wc2, zb1_ite, zb2_ite, zb3_ite, zb4_ite, zzc1_ite, zzc2_ite, J_lit, J_n1, J_n2, J_add, J_mul, J_lt, J_le, J_eq, J_eN, N_eJ, J_eN2, J_nn, J_lN, N_lJ, J_leN, N_leJ, NN_l0, NN_eN, bJ_0, bJ_1, bJ_ite, zbz_b, zbz_0, zbz_1, zag_J, zas_J, ite_true, ite_false, if_true, if_false, ite_self, reduceIte, not_true_eq_false, not_false_eq_true, J_o, Nat.reduceEqDiff, Nat.reduceAdd, Nat.reduceMul, Nat.reduceSub, Nat.reduceLT, Nat.reduceLeDiff, Nat.one_ne_zero, C_mb h hs hV hS hI, C_bitCount bts_256, bts_pop, C_wordNumbered w1 w2 w3]
      rw [if_neg (by omega), if_neg (by omega), show 10 * (100 * c + i) + w = 1000 * c + 10 * i + w by omega]) (by
      intro hq G
      simp (disch := omega) only [gX5_numbered_l21, wb1, wb2, wb3, wb4, wc1, wc2, zb1_ite, zb2_ite, zb3_ite, zb4_ite, zzc1_ite, zzc2_ite, J_lit, J_n1, J_n2, J_add, J_mul, J_lt, J_le, J_eq, J_eN, N_eJ, J_eN2, J_nn, J_lN, N_lJ, J_leN, N_leJ, NN_l0, NN_eN, bJ_0, bJ_1, bJ_ite, zbz_b, zbz_0, zbz_1, zag_J, zas_J, ite_true, ite_false, if_true, if_false, ite_self, reduceIte, not_true_eq_false, not_false_eq_true, J_o, Nat.reduceEqDiff, Nat.reduceAdd, Nat.reduceMul, Nat.reduceSub, Nat.reduceLT, Nat.reduceLeDiff, Nat.one_ne_zero])
    refine hze.trans ?_
    cases hf : fstI (fun i => decide (k < Bq v s (100 * c + i + 1))) 100 with
    | none =>
      have := of_decide_eq_false (fstI_n hf 99 (by omega))
      rw [if_neg this]
    | some i =>
      obtain ⟨f1, f2, -⟩ := fstI_s hf
      have f2 := of_decide_eq_true f2
      have := Bq_mo (v := v) (s := s) (q := 100 * c + i + 1) (99 - i)
      rw [show 100 * c + i + 1 + (99 - i) = 100 * c + 100 by omega] at this
      rw [if_pos (by omega)]
  unfold gX5_numbered
  have hb : ∀ i, (∀ j, j < i → ¬ k < Bq v s (100 * j + 100)) → Bq v s (100 * i) ≤ k := fun i hj => by
    cases i with
    | zero => exact Nat.zero_le _
    | succ i => have := hj i (by omega); rw [show 100 * (i + 1) = 100 * i + 100 by omega]; omega
  have hze := zf2_fnd (f := gX5_numbered_l5 U a sa) (v 0 + 1) (fun i => J (k - Bq v s (100 * i))) J (fun i => decide (k < Bq v s (100 * i + 100))) (fun _ => some (oJ (kth v s k (1000 * (v 0 + 1))))) (some (oJ (kth v s k (1000 * (v 0 + 1))))) (by omega) (by
    intro i hi hq F
    have h0 := hb i (fun j hj => of_decide_eq_false (hq j (by omega)))
    have h1 := of_decide_eq_false (hq i (Nat.le_refl _))
    unfold gX5_numbered_l5
    rw [V_w h]
    simp (disch := omega) only [wb1, wb2, wb3, wb4, wc1, wc2, zb1_ite, zb2_ite, zb3_ite, zb4_ite, zzc1_ite, zzc2_ite, J_lit, J_n1, J_n2, J_add, J_mul, J_lt, J_le, J_eq, J_eN, N_eJ, J_eN2, J_nn, J_lN, N_lJ, J_leN, N_leJ, NN_l0, NN_eN, bJ_0, bJ_1, bJ_ite, zbz_b, zbz_0, zbz_1, zag_J, zas_J, ite_true, ite_false, if_true, if_false, ite_self, reduceIte, not_true_eq_false, not_false_eq_true, J_o, Nat.reduceEqDiff, Nat.reduceAdd, Nat.reduceMul, Nat.reduceSub, Nat.reduceLT, Nat.reduceLeDiff, Nat.one_ne_zero, inn i F (by omega) h0]
    rw [if_neg (by omega), if_neg h1, show 100 * (i + 1) = 100 * i + 100 by omega]
    try rw [if_neg (by omega)]) (by
    intro i hi hq hj F
    have h0 := hb i (fun j hj2 => of_decide_eq_false (hj j hj2))
    have h1 := of_decide_eq_true hq
    unfold gX5_numbered_l5
    rw [V_w h]
    simp (disch := omega) only [wb1, wb2, wb3, wb4, wc1, wc2, zb1_ite, zb2_ite, zb3_ite, zb4_ite, zzc1_ite, zzc2_ite, J_lit, J_n1, J_n2, J_add, J_mul, J_lt, J_le, J_eq, J_eN, N_eJ, J_eN2, J_nn, J_lN, N_lJ, J_leN, N_leJ, NN_l0, NN_eN, bJ_0, bJ_1, bJ_ite, zbz_b, zbz_0, zbz_1, zag_J, zas_J, ite_true, ite_false, if_true, if_false, ite_self, reduceIte, not_true_eq_false, not_false_eq_true, J_o, Nat.reduceEqDiff, Nat.reduceAdd, Nat.reduceMul, Nat.reduceSub, Nat.reduceLT, Nat.reduceLeDiff, Nat.one_ne_zero, inn i F (by omega) h0]
    rw [if_neg (by omega), if_pos h1]
    try rw [if_neg (by omega)]) (by
    intro hq F
    have h0 := hb (v 0 + 1) (fun j hj => of_decide_eq_false (hq j hj))
    have hn : kth v s k (1000 * (v 0 + 1)) = none := kth_n (by rw [show 1000 * ((v 0 : Nat) + 1) = 10 * (100 * ((v 0 : Nat) + 1)) by omega, sob_B]; exact h0)
    rw [hn]
    unfold gX5_numbered_l5
    rw [V_w h]
    simp (disch := omega) only [wb1, wb2, wb3, wb4, wc1, wc2, zb1_ite, zb2_ite, zb3_ite, zb4_ite, zzc1_ite, zzc2_ite, J_lit, J_n1, J_n2, J_add, J_mul, J_lt, J_le, J_eq, J_eN, N_eJ, J_eN2, J_nn, J_lN, N_lJ, J_leN, N_leJ, NN_l0, NN_eN, bJ_0, bJ_1, bJ_ite, zbz_b, zbz_0, zbz_1, zag_J, zas_J, ite_true, ite_false, if_true, if_false, ite_self, reduceIte, not_true_eq_false, not_false_eq_true, J_o, Nat.reduceEqDiff, Nat.reduceAdd, Nat.reduceMul, Nat.reduceSub, Nat.reduceLT, Nat.reduceLeDiff, Nat.one_ne_zero]
    rw [if_pos (by omega)]
    rfl)
  have e0 : Bq v s (100 * 0) = 0 := rfl
  rw [e0, Nat.sub_zero] at hze
  refine hze.trans ?_
  cases fstI (fun i => decide (k < Bq v s (100 * i + 100))) (v 0 + 1) <;> rfl
theorem C_numberedN {U : zCS} {a sa : Nat} {v s : zV} (h : isVal U a v) (hV : VOK v) {x : Int32} (hx : x < J 0) : gX5_numbered U a sa x = some NN := by
  unfold gX5_numbered
  refine zf2_run (f := gX5_numbered_l5 U a sa) 0 (fun _ => x) J (by intro i hi; omega) ?_ (zfu_lt (by omega))
  intro F
  unfold gX5_numbered_l5
  rw [V_w h]
  simp (disch := omega) only [wb1, wb2, wb3, wb4, wc1, wc2, zb1_ite, zb2_ite, zb3_ite, zb4_ite, zzc1_ite, zzc2_ite, J_lit, J_n1, J_n2, J_add, J_mul, J_lt, J_le, J_eq, J_eN, N_eJ, J_eN2, J_nn, J_lN, N_lJ, J_leN, N_leJ, NN_l0, NN_eN, bJ_0, bJ_1, bJ_ite, zbz_b, zbz_0, zbz_1, zag_J, zas_J, ite_true, ite_false, if_true, if_false, ite_self, reduceIte, not_true_eq_false, not_false_eq_true, J_o, Nat.reduceEqDiff, Nat.reduceAdd, Nat.reduceMul, Nat.reduceSub, Nat.reduceLT, Nat.reduceLeDiff, Nat.one_ne_zero]
  simp only [eq_true hx, if_true]
  split <;> rfl
/-! the reference -/
def spf (v s : zV) : Nat → Int32
  | 0 => NN
  | c + 1 => if sob v s c then (if cnt (sob v s) c = 0 ∨ spf v s c = J (c / 1000) then J (c / 1000) else NN2) else spf v s c
theorem zsI_I {M : zMS} {k : Nat} {x y : Int32} : zsI (zsI M k x) k y = zsI M k y := by
  unfold zsI
  refine Prod.ext (funext fun j => ?_) rfl
  simp only
  split <;> rfl
theorem R_said_st {M : zMS} {v s : zV} (hm : isMV M v) (hs : isMS M s) (hV : VOK v) (hS : SOK s) (hI : SIN v s) {x1 : Int32} {i : Nat} (hi : i < 1000 * ((v 0 : Nat) + 1)) (hx : (sob v s i && decide (J (cnt (sob v s) i) = x1)) = false) (F : Int32 → Int32 → zMS → Option (Int32 × zMS)) : gX12_findSaid_l9 x1 F (J (cnt (sob v s) i)) (J i) (zsI M 48 (spf v s i)) = F (J (cnt (sob v s) (i + 1))) (J (i + 1)) (zsI M 48 (spf v s (i + 1))) := by
  have hw := hV.2.1
  have hcl := cnt_le (p := sob v s) i
  have hm' : isMV (zsI M 48 (spf v s i)) v := isMV_I (by omega) hm
  have hs' : isMS (zsI M 48 (spf v s i)) s := by
    obtain ⟨t, h1, h2, h3⟩ := hs
    exact ⟨t, h1, by rw [zsI_o (by omega)]; exact h2, h3⟩
  have hmod : i - i / 10 * 10 = i % 10 := by omega
  have hmod2 : i / 10 - i / 10 / 100 * 100 = i / 10 % 100 := by omega
  have e : sob v s i = (decide (i % 10 < 8) && so v s (i / 1000) (i / 10 % 100) (i % 10) (s 0)) := by
    unfold sob swd
    rw [show i / 10 / 100 = i / 1000 by omega]
  unfold gX12_findSaid_l9 gX12_findSaid_b79
  rw [R_w hm', zsI_1]
  rw [show spf v s (i + 1) = (if sob v s i then (if cnt (sob v s) i = 0 ∨ spf v s i = J (i / 1000) then J (i / 1000) else NN2) else spf v s i) from rfl, cnt_s]
  by_cases h8 : i % 10 < 8
  · rw [decide_eq_true h8, Bool.true_and] at e
    rw [e] at hx ⊢
    simp (disch := omega) only [wb1, wb2, wb3, wb4, wc1, wc2, zb1_ite, zb2_ite, zb3_ite, zb4_ite, zzc1_ite, zzc2_ite, J_lit, J_n1, J_n2, J_add, J_mul, J_lt, J_le, J_eq, J_eN, N_eJ, J_eN2, J_nn, J_lN, N_lJ, J_leN, N_leJ, NN_l0, NN_eN, bJ_0, bJ_1, bJ_ite, zbz_b, zbz_0, zbz_1, zag_J, zas_J, ite_true, ite_false, if_true, if_false, ite_self, reduceIte, not_true_eq_false, not_false_eq_true, J_o, Nat.reduceEqDiff, Nat.reduceAdd, Nat.reduceMul, Nat.reduceSub, Nat.reduceLT, Nat.reduceLeDiff, Nat.one_ne_zero, J_div, J_sub, hmod, hmod2, zsI_I]
    rw [if_neg (by omega), if_neg (by omega), R_isSo hm' hs' hV hS hI (by omega) (by omega) h8]
    simp (disch := omega) only [wb1, wb2, wb3, wb4, wc1, wc2, zb1_ite, zb2_ite, zb3_ite, zb4_ite, zzc1_ite, zzc2_ite, J_lit, J_n1, J_n2, J_add, J_mul, J_lt, J_le, J_eq, J_eN, N_eJ, J_eN2, J_nn, J_lN, N_lJ, J_leN, N_leJ, NN_l0, NN_eN, bJ_0, bJ_1, bJ_ite, zbz_b, zbz_0, zbz_1, zag_J, zas_J, ite_true, ite_false, if_true, if_false, ite_self, reduceIte, not_true_eq_false, not_false_eq_true, J_o, Nat.reduceEqDiff, Nat.reduceAdd, Nat.reduceMul, Nat.reduceSub, Nat.reduceLT, Nat.reduceLeDiff, Nat.one_ne_zero, zsI_I]
    cases hso : so v s (i / 1000) (i / 10 % 100) (i % 10) (s 0)
    · simp
    · rw [hso, Bool.true_and] at hx
      simp only [Bool.true_eq_false, if_false, if_neg (of_decide_eq_false hx), if_true]
      by_cases h0 : cnt (sob v s) i = 0
      · simp [h0]
      · by_cases h1 : spf v s i = J (i / 1000)
        · simp [h0, h1]
        · simp [h0, h1]
  · rw [decide_eq_false h8, Bool.false_and] at e
    rw [e]
    simp (disch := omega) only [wb1, wb2, wb3, wb4, wc1, wc2, zb1_ite, zb2_ite, zb3_ite, zb4_ite, zzc1_ite, zzc2_ite, J_lit, J_n1, J_n2, J_add, J_mul, J_lt, J_le, J_eq, J_eN, N_eJ, J_eN2, J_nn, J_lN, N_lJ, J_leN, N_leJ, NN_l0, NN_eN, bJ_0, bJ_1, bJ_ite, zbz_b, zbz_0, zbz_1, zag_J, zas_J, ite_true, ite_false, if_true, if_false, ite_self, reduceIte, not_true_eq_false, not_false_eq_true, J_o, Nat.reduceEqDiff, Nat.reduceAdd, Nat.reduceMul, Nat.reduceSub, Nat.reduceLT, Nat.reduceLeDiff, Nat.one_ne_zero, J_div, J_sub, hmod]
    rw [if_neg (by omega), if_pos (by omega)]
    simp
theorem R_said_end {M : zMS} {v s : zV} (hm : isMV M v) (hV : VOK v) {x1 : Int32} (F : Int32 → Int32 → zMS → Option (Int32 × zMS)) : gX12_findSaid_l9 x1 F (J (cnt (sob v s) (1000 * ((v 0 : Nat) + 1)))) (J (1000 * ((v 0 : Nat) + 1))) (zsI M 48 (spf v s (1000 * ((v 0 : Nat) + 1)))) = some (if x1 = NN then J (cnt (sob v s) (1000 * ((v 0 : Nat) + 1))) else NN, zsI M 48 (spf v s (1000 * ((v 0 : Nat) + 1)))) := by
  have hw := hV.2.1
  have hm' : isMV (zsI M 48 (spf v s (1000 * ((v 0 : Nat) + 1)))) v := isMV_I (by omega) hm
  unfold gX12_findSaid_l9
  rw [R_w hm']
  simp (disch := omega) only [wb1, wb2, wb3, wb4, wc1, wc2, zb1_ite, zb2_ite, zb3_ite, zb4_ite, zzc1_ite, zzc2_ite, J_lit, J_n1, J_n2, J_add, J_mul, J_lt, J_le, J_eq, J_eN, N_eJ, J_eN2, J_nn, J_lN, N_lJ, J_leN, N_leJ, NN_l0, NN_eN, bJ_0, bJ_1, bJ_ite, zbz_b, zbz_0, zbz_1, zag_J, zas_J, ite_true, ite_false, if_true, if_false, ite_self, reduceIte, not_true_eq_false, not_false_eq_true, J_o, Nat.reduceEqDiff, Nat.reduceAdd, Nat.reduceMul, Nat.reduceSub, Nat.reduceLT, Nat.reduceLeDiff, Nat.one_ne_zero]
  rw [if_pos (Nat.le_refl _)]
  split <;> rfl
theorem R_findSaidA {M : zMS} {v s : zV} (hm : isMV M v) (hs : isMS M s) (hV : VOK v) (hS : SOK s) (hI : SIN v s) {x1 : Int32} (hx : x1 < J 0) : gX12_findSaid M x1 = some (if x1 = NN then J (Bq v s (100 * ((v 0 : Nat) + 1))) else NN, zsI M 48 (spf v s (1000 * ((v 0 : Nat) + 1)))) := by
  have hw := hV.2.1
  rw [← sob_B, show 10 * (100 * ((v 0 : Nat) + 1)) = 1000 * ((v 0 : Nat) + 1) by omega]
  unfold gX12_findSaid
  exact zf3_run (f := gX12_findSaid_l9 x1) (1000 * ((v 0 : Nat) + 1)) (fun i => J (cnt (sob v s) i)) J (fun i => zsI M 48 (spf v s i)) (fun i hi F => R_said_st hm hs hV hS hI hi (by
    have hcl := cnt_le (p := sob v s) i
    rw [decide_eq_false (fun z => by rw [← z, J_nn (by omega)] at hx; exact hx), Bool.and_false]) F) (fun F => R_said_end hm hV F) (zfu_lt (by omega))
theorem R_findSaidK {M : zMS} {v s : zV} (hm : isMV M v) (hs : isMS M s) (hV : VOK v) (hS : SOK s) (hI : SIN v s) {k : Nat} (hk : k < 2147483648) : ∃ z, gX12_findSaid M (J k) = some (oJ (kth v s k (1000 * ((v 0 : Nat) + 1))), zsI M 48 z) := by
  have hw := hV.2.1
  have hcl := fun i => cnt_le (p := sob v s) i
  unfold gX12_findSaid
  cases hf : kth v s k (1000 * ((v 0 : Nat) + 1)) with
  | none =>
    have h1 := fstI_n hf
    refine ⟨spf v s (1000 * ((v 0 : Nat) + 1)), ?_⟩
    have := zf3_run (f := gX12_findSaid_l9 (J k)) (r := some (if J k = NN then J (cnt (sob v s) (1000 * ((v 0 : Nat) + 1))) else NN, zsI M 48 (spf v s (1000 * ((v 0 : Nat) + 1))))) (1000 * ((v 0 : Nat) + 1)) (fun i => J (cnt (sob v s) i)) J (fun i => zsI M 48 (spf v s i)) (fun i hi F => R_said_st hm hs hV hS hI hi (by
      have h2 := h1 i hi
      have h3 := hcl i
      have e : decide (J (cnt (sob v s) i) = J k) = decide (cnt (sob v s) i = k) := by rw [decide_eq_decide, J_eq (by omega) hk]
      rw [e]; exact h2) F) (fun F => R_said_end hm hV F) (zfu_lt (by omega))
    rw [if_neg (by rw [J_eN hk]; exact id)] at this
    exact this
  | some c =>
    obtain ⟨h1, h2, h3⟩ := fstI_s hf
    refine ⟨spf v s c, ?_⟩
    exact zf3_run (f := gX12_findSaid_l9 (J k)) c (fun i => J (cnt (sob v s) i)) J (fun i => zsI M 48 (spf v s i)) (fun i hi F => R_said_st hm hs hV hS hI (by omega) (by
      have h4 := h3 i hi
      have h5 := hcl i
      have e : decide (J (cnt (sob v s) i) = J k) = decide (cnt (sob v s) i = k) := by rw [decide_eq_decide, J_eq (by omega) hk]
      rw [e]; exact h4) F) (fun F => by
      have hm' : isMV (zsI M 48 (spf v s c)) v := isMV_I (by omega) hm
      have hs' : isMS (zsI M 48 (spf v s c)) s := by
        obtain ⟨t, t1, t2, t3⟩ := hs
        exact ⟨t, t1, by rw [zsI_o (by omega)]; exact t2, t3⟩
      have hmod : c - c / 10 * 10 = c % 10 := by omega
      have hmod2 : c / 10 - c / 10 / 100 * 100 = c / 10 % 100 := by omega
      rw [Bool.and_eq_true, decide_eq_true_eq] at h2
      have h5 := hcl c
      have e := h2.1
      unfold sob swd at e
      rw [show c / 10 / 100 = c / 1000 by omega, Bool.and_eq_true, decide_eq_true_eq] at e
      unfold gX12_findSaid_l9
      rw [R_w hm']
      simp (disch := omega) only [wb1, wb2, wb3, wb4, wc1, wc2, zb1_ite, zb2_ite, zb3_ite, zb4_ite, zzc1_ite, zzc2_ite, J_lit, J_n1, J_n2, J_add, J_mul, J_lt, J_le, J_eq, J_eN, N_eJ, J_eN2, J_nn, J_lN, N_lJ, J_leN, N_leJ, NN_l0, NN_eN, bJ_0, bJ_1, bJ_ite, zbz_b, zbz_0, zbz_1, zag_J, zas_J, ite_true, ite_false, if_true, if_false, ite_self, reduceIte, not_true_eq_false, not_false_eq_true, J_o, Nat.reduceEqDiff, Nat.reduceAdd, Nat.reduceMul, Nat.reduceSub, Nat.reduceLT, Nat.reduceLeDiff, Nat.one_ne_zero, J_div, J_sub, hmod, hmod2]
      rw [if_neg (by omega), if_neg (by omega), R_isSo hm' hs' hV hS hI (by omega) (by omega) e.1, e.2]
      simp (disch := omega) only [wb1, wb2, wb3, wb4, wc1, wc2, zb1_ite, zb2_ite, zb3_ite, zb4_ite, zzc1_ite, zzc2_ite, J_lit, J_n1, J_n2, J_add, J_mul, J_lt, J_le, J_eq, J_eN, N_eJ, J_eN2, J_nn, J_lN, N_lJ, J_leN, N_leJ, NN_l0, NN_eN, bJ_0, bJ_1, bJ_ite, zbz_b, zbz_0, zbz_1, zag_J, zas_J, ite_true, ite_false, if_true, if_false, ite_self, reduceIte, not_true_eq_false, not_false_eq_true, J_o, Nat.reduceEqDiff, Nat.reduceAdd, Nat.reduceMul, Nat.reduceSub, Nat.reduceLT, Nat.reduceLeDiff, Nat.one_ne_zero, h2.2, Bool.true_eq_false]
      rfl) (zfu_lt (by omega))
