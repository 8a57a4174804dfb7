theorem J_subL {a b : Nat} (ha : a < 1073741824) (hb : b < 1073741824) : (J a - J b < J 0) ↔ a < b := by
  rw [Int32.lt_iff_toInt_lt, J_subI ha hb, J_toInt (by omega)]; omega
theorem zf2_fnd {A B R : Type} {f : (A → B → Option R) → A → B → Option R} (n : Nat) (s0 : Nat → A) (s1 : Nat → B) (p : Nat → Bool) (hit : Nat → Option R) (miss : Option R) (hn : n < 1000000) (hs : ∀ i, i < n → (∀ j, j ≤ i → p j = false) → ∀ F, f F (s0 i) (s1 i) = F (s0 (i + 1)) (s1 (i + 1))) (hh : ∀ i, i < n → p i = true → (∀ j, j < i → p j = false) → ∀ F, f F (s0 i) (s1 i) = hit i) (he : (∀ j, j < n → p j = false) → ∀ F, f F (s0 n) (s1 n) = miss) : zf2 f zfu (s0 0) (s1 0) = match fstI p n with
    | some i => hit i
    | none => miss := by
  cases h : fstI p n with
  | none => exact zf2_run n s0 s1 (fun i hi F => hs i hi (fun j hj => fstI_n h j (by omega)) F) (he (fstI_n h)) (zfu_lt hn)
  | some k =>
    obtain ⟨h1, h2, h3⟩ := fstI_s h
    exact zf2_run k s0 s1 (fun i hi F => hs i (by omega) (fun j hj => h3 j (by omega)) F) (hh k h1 h2 h3) (zfu_lt (by omega))
/-! the class's sets -/
theorem C_wordsJudged {U : zCS} {a : Nat} {v : zV} (h : isVal U a v) (hV : VOK v) {g r : Nat} (hg : g < 100) (hr : r < 1000) : gX5_wordsJudged U a (J g) (J r) = some (J (bts (fun w => decide ((v (3 + w) : Nat) = g) && decide ((v (11 + w) : Nat) = r)) 8)) := by
  unfold gX5_wordsJudged
  by_cases h10 : r < 10
  · have hze := zf2_run (f := gX5_wordsJudged_l5 (J r) U a (J g)) (r := some (J (bts (fun w => decide ((v (3 + w) : Nat) = g) && decide ((v (11 + w) : Nat) = r)) 8))) 8 (fun i => J (bts (fun w => decide ((v (3 + w) : Nat) = g) && decide ((v (11 + w) : Nat) = r)) i)) J (by
      intro i hi F
      rw [show bts (fun w => decide ((v (3 + w) : Nat) = g) && decide ((v (11 + w) : Nat) = r)) (i + 1) = bts (fun w => decide ((v (3 + w) : Nat) = g) && decide ((v (11 + w) : Nat) = r)) i ||| (if (decide ((v (3 + i) : Nat) = g) && decide ((v (11 + i) : Nat) = r)) = true then 2 ^ i else 0) from rfl]
      simp (disch := omega) only [gX5_wordsJudged_l5, wb1, wb2, wb3, wb4, wc1, wc2, zb1_ite, zb2_ite, zb3_ite, zb4_ite, zzc1_ite, zzc2_ite, J_lit, J_n1, J_n2, J_add, J_mul, J_lt, J_le, J_eq, J_eN, N_eJ, J_eN2, J_nn, J_lN, N_lJ, J_leN, N_leJ, NN_l0, NN_eN, bJ_0, bJ_1, bJ_ite, zbz_b, zbz_0, zbz_1, zag_J, zas_J, ite_true, ite_false, if_true, if_false, ite_self, reduceIte, not_true_eq_false, not_false_eq_true, J_o, Nat.reduceEqDiff, Nat.reduceAdd, Nat.reduceMul, Nat.reduceSub, Nat.reduceLT, Nat.reduceLeDiff, Nat.one_ne_zero, V_sh h, V_th h, J_shl, J_or]
      rw [if_neg (by omega), if_neg (by omega)]
      by_cases c1 : (v (3 + i) : Nat) = g
      · by_cases c2 : (v (11 + i) : Nat) = r
        · simp [c1, c2]
        · simp [c2]
      · simp [c1]) (by
      intro F
      simp (disch := omega) only [gX5_wordsJudged_l5, wb1, wb2, wb3, wb4, wc1, wc2, zb1_ite, zb2_ite, zb3_ite, zb4_ite, zzc1_ite, zzc2_ite, J_lit, J_n1, J_n2, J_add, J_mul, J_lt, J_le, J_eq, J_eN, N_eJ, J_eN2, J_nn, J_lN, N_lJ, J_leN, N_leJ, NN_l0, NN_eN, bJ_0, bJ_1, bJ_ite, zbz_b, zbz_0, zbz_1, zag_J, zas_J, ite_true, ite_false, if_true, if_false, ite_self, reduceIte, not_true_eq_false, not_false_eq_true, J_o, Nat.reduceEqDiff, Nat.reduceAdd, Nat.reduceMul, Nat.reduceSub, Nat.reduceLT, Nat.reduceLeDiff, Nat.one_ne_zero]) (zfu_lt (by omega))
    exact (congrArg (zb1 · fun x => some x) hze)
  · have hze := zf2_run (f := gX5_wordsJudged_l5 (J r) U a (J g)) (r := some (J 0)) 0 (fun _ => J 0) J (by intro i hi; omega) (by
      intro F
      simp (disch := omega) only [gX5_wordsJudged_l5, wb1, wb2, wb3, wb4, wc1, wc2, zb1_ite, zb2_ite, zb3_ite, zb4_ite, zzc1_ite, zzc2_ite, J_lit, J_n1, J_n2, J_add, J_mul, J_lt, J_le, J_eq, J_eN, N_eJ, J_eN2, J_nn, J_lN, N_lJ, J_leN, N_leJ, NN_l0, NN_eN, bJ_0, bJ_1, bJ_ite, zbz_b, zbz_0, zbz_1, zag_J, zas_J, ite_true, ite_false, if_true, if_false, ite_self, reduceIte, not_true_eq_false, not_false_eq_true, J_o, Nat.reduceEqDiff, Nat.reduceAdd, Nat.reduceMul, Nat.reduceSub, Nat.reduceLT, Nat.reduceLeDiff, Nat.one_ne_zero]
      rw [if_pos (by omega)]) (zfu_lt (by omega))
    rw [bts_0 (fun i hi => by
      have := hV.2.2.2.2.2.1 i hi
      simp [show ¬ (v (11 + i) : Nat) = r by omega])]
    exact (congrArg (zb1 · fun x => some x) hze)
theorem hb3_e {v s : zV} (hV : VOK v) {k c m w b : Nat} (hc : c ≤ (v 0 : Nat)) (hp : (s (2 + 4 * k) : Nat) ≤ (v 0 : Nat)) : hb3 v s k c m w b = (!mute v b m && decide (m + way v c (s (2 + 4 * k)) b ≤ (s (3 + 4 * k) : Nat)) && (if b = jdg v m then decide ((v (3 + w) : Nat) = (s (4 + 4 * k) : Nat)) && decide ((v (11 + w) : Nat) = (s (3 + 4 * k) : Nat) - m - way v c (s (2 + 4 * k)) b) else decide ((s (3 + 4 * k) : Nat) - m - way v c (s (2 + 4 * k)) b = 0) && decide (w = (s (4 + 4 * k) : Nat)))) := by
  have h1 := way_le (b := b) hV hc hp
  unfold hb3 arr wby thk
  rw [if_neg (show ¬ rng 2 < way v c (s (2 + 4 * k)) b by show ¬ 99 < _; omega)]
  cases mute v b m
  · simp only [Bool.false_eq_true, if_false, Bool.not_false, Bool.true_and, Option.some.injEq]
    by_cases hj : b = jdg v m
    · simp only [hj, if_true]
      generalize way v c (s (2 + 4 * k)) (jdg v m) = W at *
      rw [Bool.eq_iff_iff]
      simp
      omega
    · simp only [hj, if_false]
      generalize way v c (s (2 + 4 * k)) b = W at *
      rw [Bool.eq_iff_iff]
      simp
      omega
  · simp
theorem C_wordsHeardAs {U : zCS} {a sa : Nat} {v s : zV} (h : isVal U a v) (hs : isSi U sa s) (hV : VOK v) (hS : SOK s) (hI : SIN v s) {k c m : Nat} (hk : k < (s 0 : Nat)) (hc : c ≤ (v 0 : Nat)) (hm : m < 100) : gX5_wordsHeardAs U a sa (J k) (J c) (J m) = some (J (bts (fun w => hbs v s k c m w) 8)) := by
  have h8 := hS.1
  have hp := hI k hk
  have hw8 := (hS.2 k hk).2
  obtain ⟨-, s2, s3, s4⟩ := hs.2 k hk
  unfold gX5_wordsHeardAs
  simp (disch := omega) only [wb1, wb2, wb3, wb4, wc1, wc2, zb1_ite, zb2_ite, zb3_ite, zb4_ite, zzc1_ite, zzc2_ite, J_lit, J_n1, J_n2, J_add, J_mul, J_lt, J_le, J_eq, J_eN, N_eJ, J_eN2, J_nn, J_lN, N_lJ, J_leN, N_leJ, NN_l0, NN_eN, bJ_0, bJ_1, bJ_ite, zbz_b, zbz_0, zbz_1, zag_J, zas_J, ite_true, ite_false, if_true, if_false, ite_self, reduceIte, not_true_eq_false, not_false_eq_true, J_o, Nat.reduceEqDiff, Nat.reduceAdd, Nat.reduceMul, Nat.reduceSub, Nat.reduceLT, Nat.reduceLeDiff, Nat.one_ne_zero, s3]
  by_cases hlt : (s (3 + 4 * k) : Nat) < m
  · have hze := zf2_run (f := gX5_wordsHeardAs_l17 (J (s (3 + 4 * k))) (J m) U sa (J k) a (J c)) (r := some (J 0)) 0 (fun _ => J 0) J (by intro i hi; omega) (by
      intro F
      simp (disch := omega) only [gX5_wordsHeardAs_l17, wb1, wb2, wb3, wb4, wc1, wc2, zb1_ite, zb2_ite, zb3_ite, zb4_ite, zzc1_ite, zzc2_ite, J_lit, J_n1, J_n2, J_add, J_mul, J_lt, J_le, J_eq, J_eN, N_eJ, J_eN2, J_nn, J_lN, N_lJ, J_leN, N_leJ, NN_l0, NN_eN, bJ_0, bJ_1, bJ_ite, zbz_b, zbz_0, zbz_1, zag_J, zas_J, ite_true, ite_false, if_true, if_false, ite_self, reduceIte, not_true_eq_false, not_false_eq_true, J_o, Nat.reduceEqDiff, Nat.reduceAdd, Nat.reduceMul, Nat.reduceSub, Nat.reduceLT, Nat.reduceLeDiff, Nat.one_ne_zero, J_subL]
      rw [if_pos hlt]) (zfu_lt (by omega))
    rw [bts_0 (fun w hw => by
      unfold hbs
      rw [rng3, hb3_e hV hc hp, hb3_e hV hc hp, hb3_e hV hc hp]
      simp
      omega)]
    exact (congrArg (zb1 · fun x => some x) hze)
  · have hze := zf2_run (f := gX5_wordsHeardAs_l17 (J (s (3 + 4 * k))) (J m) U sa (J k) a (J c)) (r := some (J (bts (fun w => hbs v s k c m w) 8))) 3 (fun i => J (bts (fun w => (List.range i).any (hb3 v s k c m w)) 8)) J (by
      intro b hb F
      have hW := way_le (b := b) hV hc hp
      have hj := @jdg_le v m
      have e1 : bts (fun w => (List.range (b + 1)).any (hb3 v s k c m w)) 8 = bts (fun w => (List.range b).any (hb3 v s k c m w)) 8 ||| bts (fun w => hb3 v s k c m w b) 8 := by
        rw [bts_or]
        exact bts_c (fun w _ => any_S)
      rw [e1]
      simp (disch := omega) only [gX5_wordsHeardAs_l17, wb1, wb2, wb3, wb4, wc1, wc2, zb1_ite, zb2_ite, zb3_ite, zb4_ite, zzc1_ite, zzc2_ite, J_lit, J_n1, J_n2, J_add, J_mul, J_lt, J_le, J_eq, J_eN, N_eJ, J_eN2, J_nn, J_lN, N_lJ, J_leN, N_leJ, NN_l0, NN_eN, bJ_0, bJ_1, bJ_ite, zbz_b, zbz_0, zbz_1, zag_J, zas_J, ite_true, ite_false, if_true, if_false, ite_self, reduceIte, not_true_eq_false, not_false_eq_true, J_o, Nat.reduceEqDiff, Nat.reduceAdd, Nat.reduceMul, Nat.reduceSub, Nat.reduceLT, Nat.reduceLeDiff, Nat.one_ne_zero, J_subL, J_sub, s2, C_way h hV, C_isMute h, C_judge h, s4]
      rw [if_neg (by omega)]
      try rw [if_neg (show ¬ (s (3 + 4 * k) : Nat) - m < 0 by omega)]
      by_cases hst : (s (3 + 4 * k) : Nat) - m < way v c (s (2 + 4 * k)) b
      · rw [if_pos hst, bts_0 (p := fun w => hb3 v s k c m w b) (fun w hw => by
          rw [hb3_e hV hc hp]
          have : ¬ m + way v c (s (2 + 4 * k)) b ≤ (s (3 + 4 * k) : Nat) := by omega
          simp [this]), Nat.or_zero]
      · rw [if_neg hst]
        have hle : m + way v c (s (2 + 4 * k)) b ≤ (s (3 + 4 * k) : Nat) := by omega
        cases hmu : mute v b m
        · simp (disch := omega) only [wb1, wb2, wb3, wb4, wc1, wc2, zb1_ite, zb2_ite, zb3_ite, zb4_ite, zzc1_ite, zzc2_ite, J_lit, J_n1, J_n2, J_add, J_mul, J_lt, J_le, J_eq, J_eN, N_eJ, J_eN2, J_nn, J_lN, N_lJ, J_leN, N_leJ, NN_l0, NN_eN, bJ_0, bJ_1, bJ_ite, zbz_b, zbz_0, zbz_1, zag_J, zas_J, ite_true, ite_false, if_true, if_false, ite_self, reduceIte, not_true_eq_false, not_false_eq_true, J_o, Nat.reduceEqDiff, Nat.reduceAdd, Nat.reduceMul, Nat.reduceSub, Nat.reduceLT, Nat.reduceLeDiff, Nat.one_ne_zero, J_sub]
          by_cases hjb : b = jdg v m
          · rw [if_pos hjb, C_wordsJudged h hV (by omega) (by omega)]
            simp (disch := omega) only [wb1, wb2, wb3, wb4, wc1, wc2, zb1_ite, zb2_ite, zb3_ite, zb4_ite, zzc1_ite, zzc2_ite, J_lit, J_n1, J_n2, J_add, J_mul, J_lt, J_le, J_eq, J_eN, N_eJ, J_eN2, J_nn, J_lN, N_lJ, J_leN, N_leJ, NN_l0, NN_eN, bJ_0, bJ_1, bJ_ite, zbz_b, zbz_0, zbz_1, zag_J, zas_J, ite_true, ite_false, if_true, if_false, ite_self, reduceIte, not_true_eq_false, not_false_eq_true, J_o, Nat.reduceEqDiff, Nat.reduceAdd, Nat.reduceMul, Nat.reduceSub, Nat.reduceLT, Nat.reduceLeDiff, Nat.one_ne_zero, J_or]
            rw [bts_c (p := fun w => hb3 v s k c m w b) (q := fun w => decide ((v (3 + w) : Nat) = (s (4 + 4 * k) : Nat)) && decide ((v (11 + w) : Nat) = (s (3 + 4 * k) : Nat) - m - way v c (s (2 + 4 * k)) b)) (fun w hw => by rw [hb3_e hV hc hp, hmu, decide_eq_true hle, if_pos hjb]; rfl)]
          · rw [if_neg hjb]
            by_cases h0 : (s (3 + 4 * k) : Nat) - m - way v c (s (2 + 4 * k)) b = 0
            · simp (disch := omega) only [wb1, wb2, wb3, wb4, wc1, wc2, zb1_ite, zb2_ite, zb3_ite, zb4_ite, zzc1_ite, zzc2_ite, J_lit, J_n1, J_n2, J_add, J_mul, J_lt, J_le, J_eq, J_eN, N_eJ, J_eN2, J_nn, J_lN, N_lJ, J_leN, N_leJ, NN_l0, NN_eN, bJ_0, bJ_1, bJ_ite, zbz_b, zbz_0, zbz_1, zag_J, zas_J, ite_true, ite_false, if_true, if_false, ite_self, reduceIte, not_true_eq_false, not_false_eq_true, J_o, Nat.reduceEqDiff, Nat.reduceAdd, Nat.reduceMul, Nat.reduceSub, Nat.reduceLT, Nat.reduceLeDiff, Nat.one_ne_zero, h0, J_shl, J_or]
              rw [bts_c (p := fun w => hb3 v s k c m w b) (q := fun w => decide (w = (s (4 + 4 * k) : Nat))) (fun w hw => by rw [hb3_e hV hc hp, hmu, decide_eq_true hle, if_neg hjb, decide_eq_true h0]; rfl)]
              have e2 : bts (fun w => decide (w = (s (4 + 4 * k) : Nat))) 8 = 2 ^ (s (4 + 4 * k) : Nat) := by
                apply Nat.eq_of_testBit_eq
                intro i
                rw [bts_t, Nat.testBit_two_pow, Bool.eq_iff_iff]
                simp
                omega
              rw [e2]
            · simp (disch := omega) only [wb1, wb2, wb3, wb4, wc1, wc2, zb1_ite, zb2_ite, zb3_ite, zb4_ite, zzc1_ite, zzc2_ite, J_lit, J_n1, J_n2, J_add, J_mul, J_lt, J_le, J_eq, J_eN, N_eJ, J_eN2, J_nn, J_lN, N_lJ, J_leN, N_leJ, NN_l0, NN_eN, bJ_0, bJ_1, bJ_ite, zbz_b, zbz_0, zbz_1, zag_J, zas_J, ite_true, ite_false, if_true, if_false, ite_self, reduceIte, not_true_eq_false, not_false_eq_true, J_o, Nat.reduceEqDiff, Nat.reduceAdd, Nat.reduceMul, Nat.reduceSub, Nat.reduceLT, Nat.reduceLeDiff, Nat.one_ne_zero, eq_false h0]
              rw [bts_0 (p := fun w => hb3 v s k c m w b) (fun w hw => by rw [hb3_e hV hc hp, hmu, if_neg hjb, decide_eq_false h0]; simp), Nat.or_zero]
        · simp only [Bool.true_eq_false, if_false]
          rw [bts_0 (p := fun w => hb3 v s k c m w b) (fun w hw => by rw [hb3_e hV hc hp, hmu]; simp), Nat.or_zero]) (by
      intro F
      simp (disch := omega) only [gX5_wordsHeardAs_l17, wb1, wb2, wb3, wb4, wc1, wc2, zb1_ite, zb2_ite, zb3_ite, zb4_ite, zzc1_ite, zzc2_ite, J_lit, J_n1, J_n2, J_add, J_mul, J_lt, J_le, J_eq, J_eN, N_eJ, J_eN2, J_nn, J_lN, N_lJ, J_leN, N_leJ, NN_l0, NN_eN, bJ_0, bJ_1, bJ_ite, zbz_b, zbz_0, zbz_1, zag_J, zas_J, ite_true, ite_false, if_true, if_false, ite_self, reduceIte, not_true_eq_false, not_false_eq_true, J_o, Nat.reduceEqDiff, Nat.reduceAdd, Nat.reduceMul, Nat.reduceSub, Nat.reduceLT, Nat.reduceLeDiff, Nat.one_ne_zero]
      rfl) (zfu_lt (by omega))
    have e0 : bts (fun w => (List.range 0).any (hb3 v s k c m w)) 8 = 0 := bts_0 (fun _ _ => rfl)
    rw [e0] at hze
    exact (congrArg (zb1 · fun x => some x) hze)
theorem so_mo {v s : zV} {c m w : Nat} {i : Nat} (h : so v s c m w i = false) : ∀ d, so v s c m w (i + d) = false
  | 0 => h
  | d + 1 => by
    show (so v s c m w (i + d) && _) = false
    rw [so_mo h d]; rfl
theorem C_wordsMaybe {U : zCS} {a sa : Nat} {v s : zV} (h : isVal U a v) (hs : isSi U sa s) (hV : VOK v) (hS : SOK s) (hI : SIN v s) {c m : Nat} (hc : c ≤ (v 0 : Nat)) (hm : m < 100) : gX5_wordsMaybe U a sa (J c) (J m) = some (J (bts (fun w => so v s c m w (s 0)) 8)) := by
  have h8 := hS.1
  unfold gX5_wordsMaybe
  have hze := zf2_find (f := gX5_wordsMaybe_l8 U sa a (J c) (J m)) (s 0) (fun i => J (bts (fun w => so v s c m w i) 8)) J (fun i => decide (bts (fun w => so v s c m w i) 8 = 0)) (fun _ => some (J 0)) (some (J (bts (fun w => so v s c m w (s 0)) 8))) (by omega) (by
    intro k hk hq F
    have hq := of_decide_eq_false hq
    have hl := @bts_256 (fun w => so v s c m w k)
    obtain ⟨s1, -⟩ := hs.2 k hk
    have h1 := (hS.2 k hk).1
    simp (disch := omega) only [gX5_wordsMaybe_l8, wb1, wb2, wb3, wb4, wc1, wc2, zb1_ite, zb2_ite, zb3_ite, zb4_ite, zzc1_ite, zzc2_ite, J_lit, J_n1, J_n2, J_add, J_mul, J_lt, J_le, J_eq, J_eN, N_eJ, J_eN2, J_nn, J_lN, N_lJ, J_leN, N_leJ, NN_l0, NN_eN, bJ_0, bJ_1, bJ_ite, zbz_b, zbz_0, zbz_1, zag_J, zas_J, ite_true, ite_false, if_true, if_false, ite_self, reduceIte, not_true_eq_false, not_false_eq_true, J_o, Nat.reduceEqDiff, Nat.reduceAdd, Nat.reduceMul, Nat.reduceSub, Nat.reduceLT, Nat.reduceLeDiff, Nat.one_ne_zero, hs.1, s1, C_wordsHeardAs h hs hV hS hI, eq_false hq]
    rw [if_neg (by omega)]
    by_cases h2 : (s (1 + 4 * k) : Nat) = 1
    · rw [if_pos h2, J_and, bts_and]
      congr 2
      exact bts_c (fun w _ => by
        show (so v s c m w k && hbs v s k c m w) = (so v s c m w k && (hbs v s k c m w == decide ((s (1 + 4 * k) : Nat) = 1)))
        rw [decide_eq_true h2]
        cases hbs v s k c m w <;> rfl)
    · rw [if_neg h2, J_not]
      congr 2
      exact bts_c (fun w _ => by
        show (so v s c m w k && !hbs v s k c m w) = (so v s c m w k && (hbs v s k c m w == decide ((s (1 + 4 * k) : Nat) = 1)))
        rw [decide_eq_false h2]
        cases hbs v s k c m w <;> rfl)) (by
    intro k hk hq F
    have hq := of_decide_eq_true hq
    simp (disch := omega) only [gX5_wordsMaybe_l8, wb1, wb2, wb3, wb4, wc1, wc2, zb1_ite, zb2_ite, zb3_ite, zb4_ite, zzc1_ite, zzc2_ite, J_lit, J_n1, J_n2, J_add, J_mul, J_lt, J_le, J_eq, J_eN, N_eJ, J_eN2, J_nn, J_lN, N_lJ, J_leN, N_leJ, NN_l0, NN_eN, bJ_0, bJ_1, bJ_ite, zbz_b, zbz_0, zbz_1, zag_J, zas_J, ite_true, ite_false, if_true, if_false, ite_self, reduceIte, not_true_eq_false, not_false_eq_true, J_o, Nat.reduceEqDiff, Nat.reduceAdd, Nat.reduceMul, Nat.reduceSub, Nat.reduceLT, Nat.reduceLeDiff, Nat.one_ne_zero, hs.1, hq]) (by
    intro F
    simp (disch := omega) only [gX5_wordsMaybe_l8, wb1, wb2, wb3, wb4, wc1, wc2, zb1_ite, zb2_ite, zb3_ite, zb4_ite, zzc1_ite, zzc2_ite, J_lit, J_n1, J_n2, J_add, J_mul, J_lt, J_le, J_eq, J_eN, N_eJ, J_eN2, J_nn, J_lN, N_lJ, J_leN, N_leJ, NN_l0, NN_eN, bJ_0, bJ_1, bJ_ite, zbz_b, zbz_0, zbz_1, zag_J, zas_J, ite_true, ite_false, if_true, if_false, ite_self, reduceIte, not_true_eq_false, not_false_eq_true, J_o, Nat.reduceEqDiff, Nat.reduceAdd, Nat.reduceMul, Nat.reduceSub, Nat.reduceLT, Nat.reduceLeDiff, Nat.one_ne_zero, hs.1]
    simp)
  have e0 : bts (fun w => so v s c m w 0) 8 = 255 := by rw [bts_255]; rfl
  rw [e0] at hze
  refine (congrArg (zb1 · fun x => some x) hze).trans ?_
  cases hf : fstI (fun i => decide (bts (fun w => so v s c m w i) 8 = 0)) (s 0) with
  | none => rfl
  | some i =>
    obtain ⟨h1, h2, -⟩ := fstI_s hf
    have h2 := of_decide_eq_true h2
    rw [bts_0 (p := fun w => so v s c m w (s 0)) (fun w hw => by
      have := so_mo (bts_z h2 hw) ((s 0 : Nat) - i)
      rwa [show i + ((s 0 : Nat) - i) = (s 0 : Nat) by omega] at this)]
    rfl
/-! counting what may have been said -/
def swd (v s : zV) (q w : Nat) : Bool := so v s (q / 100) (q % 100) w (s 0)
def Bq (v s : zV) : Nat → Nat := itr (fun q x => x + cnt (swd v s q) 8) 0
theorem Bq_s {v s : zV} {q : Nat} : Bq v s (q + 1) = Bq v s q + cnt (swd v s q) 8 := rfl
theorem Bq_le {v s : zV} : ∀ q, Bq v s q ≤ 8 * q
  | 0 => Nat.le_refl _
  | q + 1 => by have := Bq_le (v := v) (s := s) q; have := cnt_le (p := swd v s q) 8; rw [Bq_s]; omega
theorem Bq_mo {v s : zV} {q : Nat} : ∀ d, Bq v s q ≤ Bq v s (q + d)
  | 0 => Nat.le_refl _
  | d + 1 => Nat.le_trans (Bq_mo d) (Nat.le_add_right _ _)
theorem C_mb {U : zCS} {a sa : Nat} {v s : zV} (h : isVal U a v) (hs : isSi U sa s) (hV : VOK v) (hS : SOK s) (hI : SIN v s) {c m : Nat} (hc : c ≤ (v 0 : Nat)) (hm : m < 100) : gX5_wordsMaybe U a sa (J c) (J m) = some (J (bts (swd v s (100 * c + m)) 8)) := by
  rw [C_wordsMaybe h hs hV hS hI hc hm]
  unfold swd
  rw [show (100 * c + m) / 100 = c by omega, show (100 * c + m) % 100 = m by omega]
theorem C_howManyAt {U : zCS} {a sa : Nat} {v s : zV} (h : isVal U a v) (hs : isSi U sa s) (hV : VOK v) (hS : SOK s) (hI : SIN v s) {c : Nat} (hc : c ≤ (v 0 : Nat)) : gX5_howManyAt U a sa (J c) = some (J (Bq v s (100 * c + 100) - Bq v s (100 * c))) := by
  have hw := hV.2.1
  unfold gX5_howManyAt
  have hze := zf2_run (f := gX5_howManyAt_l5 U a sa (J c)) (r := some (J (Bq v s (100 * c + 100) - Bq v s (100 * c)))) 100 (fun i => J (Bq v s (100 * c + i) - Bq v s (100 * c))) J (by
    intro i hi F
    have h1 := Bq_le (v := v) (s := s) (100 * c + i)
    have h2 := Bq_mo (v := v) (s := s) (q := 100 * c) i
    have h3 := cnt_le (p := swd v s (100 * c + i)) 8
    simp (disch := omega) only [gX5_howManyAt_l5, wb1, wb2, wb3, wb4, wc1, wc2, zb1_ite, zb2_ite, zb3_ite, zb4_ite, zzc1_ite, zzc2_ite, J_lit, J_n1, J_n2, J_add, J_mul, J_lt, J_le, J_eq, J_eN, N_eJ, J_eN2, J_nn, J_lN, N_lJ, J_leN, N_leJ, NN_l0, NN_eN, bJ_0, bJ_1, bJ_ite, zbz_b, zbz_0, zbz_1, zag_J, zas_J, ite_true, ite_false, if_true, if_false, ite_self, reduceIte, not_true_eq_false, not_false_eq_true, J_o, Nat.reduceEqDiff, Nat.reduceAdd, Nat.reduceMul, Nat.reduceSub, Nat.reduceLT, Nat.reduceLeDiff, Nat.one_ne_zero, C_mb h hs hV hS hI, C_bitCount bts_256, bts_pop]
    rw [if_neg (by omega)]
    have e1 : Bq v s (100 * c + (i + 1)) = Bq v s (100 * c + i) + cnt (swd v s (100 * c + i)) 8 := Bq_s
    rw [e1, show Bq v s (100 * c + i) - Bq v s (100 * c) + cnt (swd v s (100 * c + i)) 8 = Bq v s (100 * c + i) + cnt (swd v s (100 * c + i)) 8 - Bq v s (100 * c) by omega]) (by
    intro F
    simp (disch := omega) only [gX5_howManyAt_l5, wb1, wb2, wb3, wb4, wc1, wc2, zb1_ite, zb2_ite, zb3_ite, zb4_ite, zzc1_ite, zzc2_ite, J_lit, J_n1, J_n2, J_add, J_mul, J_lt, J_le, J_eq, J_eN, N_eJ, J_eN2, J_nn, J_lN, N_lJ, J_leN, N_leJ, NN_l0, NN_eN, bJ_0, bJ_1, bJ_ite, zbz_b, zbz_0, zbz_1, zag_J, zas_J, ite_true, ite_false, if_true, if_false, ite_self, reduceIte, not_true_eq_false, not_false_eq_true, J_o, Nat.reduceEqDiff, Nat.reduceAdd, Nat.reduceMul, Nat.reduceSub, Nat.reduceLT, Nat.reduceLeDiff, Nat.one_ne_zero]) (zfu_lt (by omega))
  rw [Nat.add_zero, Nat.sub_self] at hze
  exact (congrArg (zb1 · fun x => some x) hze)
theorem C_howManyS {U : zCS} {a sa : Nat} {v s : zV} (h : isVal U a v) (hs : isSi U sa s) (hV : VOK v) (hS : SOK s) (hI : SIN v s) : gX5_howMany U a sa = some (J (Bq v s (100 * (v 0 + 1)))) := by
  have hw := hV.2.1
  unfold gX5_howMany
  have hze := zf2_run (f := gX5_howMany_l4 U a sa) (r := some (J (Bq v s (100 * (v 0 + 1))))) (v 0 + 1) (fun i => J (Bq v s (100 * i))) J (by
    intro i hi F
    have h2 := Bq_mo (v := v) (s := s) (q := 100 * i) 100
    simp (disch := omega) only [gX5_howMany_l4, wb1, wb2, wb3, wb4, wc1, wc2, zb1_ite, zb2_ite, zb3_ite, zb4_ite, zzc1_ite, zzc2_ite, J_lit, J_n1, J_n2, J_add, J_mul, J_lt, J_le, J_eq, J_eN, N_eJ, J_eN2, J_nn, J_lN, N_lJ, J_leN, N_leJ, NN_l0, NN_eN, bJ_0, bJ_1, bJ_ite, zbz_b, zbz_0, zbz_1, zag_J, zas_J, ite_true, ite_false, if_true, if_false, ite_self, reduceIte, not_true_eq_false, not_false_eq_true, J_o, Nat.reduceEqDiff, Nat.reduceAdd, Nat.reduceMul, Nat.reduceSub, Nat.reduceLT, Nat.reduceLeDiff, Nat.one_ne_zero, V_w h, C_howManyAt h hs hV hS hI]
    rw [if_neg (by omega), show 100 * (i + 1) = 100 * i + 100 by omega, show Bq v s (100 * i) + (Bq v s (100 * i + 100) - Bq v s (100 * i)) = Bq v s (100 * i + 100) by omega]) (by
    intro F
    simp (disch := omega) only [gX5_howMany_l4, wb1, wb2, wb3, wb4, wc1, wc2, zb1_ite, zb2_ite, zb3_ite, zb4_ite, zzc1_ite, zzc2_ite, J_lit, J_n1, J_n2, J_add, J_mul, J_lt, J_le, J_eq, J_eN, N_eJ, J_eN2, J_nn, J_lN, N_lJ, J_leN, N_leJ, NN_l0, NN_eN, bJ_0, bJ_1, bJ_ite, zbz_b, zbz_0, zbz_1, zag_J, zas_J, ite_true, ite_false, if_true, if_false, ite_self, reduceIte, not_true_eq_false, not_false_eq_true, J_o, Nat.reduceEqDiff, Nat.reduceAdd, Nat.reduceMul, Nat.reduceSub, Nat.reduceLT, Nat.reduceLeDiff, Nat.one_ne_zero, V_w h]
    simp) (zfu_lt (by omega))
  exact (congrArg (zb1 · fun x => some x) hze)
