/-! the only place -/
def Dc (v s : zV) (c : Nat) : Nat := Bq v s (100 * c + 100) - Bq v s (100 * c)
theorem Dc_c {v s : zV} {c : Nat} : cnt (sob v s) (1000 * c + 1000) = cnt (sob v s) (1000 * c) + Dc v s c := by
  have h1 := sob_B (v := v) (s := s) (100 * c)
  have h2 := sob_B (v := v) (s := s) (100 * c + 100)
  have h3 := Bq_mo (v := v) (s := s) (q := 100 * c) 100
  rw [show 10 * (100 * c) = 1000 * c by omega] at h1
  rw [show 10 * (100 * c + 100) = 1000 * c + 1000 by omega] at h2
  unfold Dc
  omega
theorem Dc_p {v s : zV} {c : Nat} : Dc v s c ≠ 0 ↔ ∃ x, sob v s x = true ∧ x / 1000 = c := by
  have h := Dc_c (v := v) (s := s) (c := c)
  constructor
  · intro hd
    have hk : ∃ x, x < 1000 * c + 1000 ∧ sob v s x = true ∧ cnt (sob v s) x = cnt (sob v s) (1000 * c) := cnt_k (by omega)
    obtain ⟨x, h1, h2, h3⟩ := hk
    refine ⟨x, h2, ?_⟩
    have : ¬ x < 1000 * c := fun z => by have := cnt_st h2 z; omega
    omega
  · rintro ⟨x, h1, h2⟩
    have h3 := cnt_st h1 (show x < 1000 * c + 1000 by omega)
    have h4 := cnt_up (p := sob v s) (x := 1000 * c) (x - 1000 * c)
    rw [show 1000 * c + (x - 1000 * c) = x by omega] at h4
    omega
theorem spf_ok {v s : zV} : ∀ c, c ≤ 31000 → (cnt (sob v s) c = 0 ∧ spf v s c = NN) ∨ (∃ p, spf v s c = J p ∧ (∃ x, x < c ∧ sob v s x = true ∧ x / 1000 = p) ∧ ∀ x, x < c → sob v s x = true → x / 1000 = p) ∨ (spf v s c = NN2 ∧ ∃ x y, x < c ∧ y < c ∧ sob v s x = true ∧ sob v s y = true ∧ x / 1000 ≠ y / 1000)
  | 0, _ => .inl ⟨rfl, rfl⟩
  | c + 1, hcl => by
    have e : spf v s (c + 1) = (if sob v s c then (if cnt (sob v s) c = 0 ∨ spf v s c = J (c / 1000) then J (c / 1000) else NN2) else spf v s c) := rfl
    have ih := spf_ok (v := v) (s := s) c (by omega)
    cases hs : sob v s c
    · rw [hs] at e
      simp only [Bool.false_eq_true, if_false] at e
      rw [e, cnt_s, hs]
      simp only [Bool.false_eq_true, if_false, Nat.add_zero]
      rcases ih with ih | ⟨p, i1, ⟨x, x1, x2, x3⟩, i2⟩ | ⟨i1, x, y, x1, y1, x2, y2, h⟩
      · exact .inl ih
      · refine .inr (.inl ⟨p, i1, ⟨x, by omega, x2, x3⟩, fun y hy hys => ?_⟩)
        by_cases hyc : y = c
        · rw [hyc, hs] at hys; cases hys
        · exact i2 y (by omega) hys
      · exact .inr (.inr ⟨i1, x, y, by omega, by omega, x2, y2, h⟩)
    · rw [hs] at e
      simp only [if_true] at e
      rcases ih with ih | ⟨p, i1, ⟨x, x1, x2, x3⟩, i2⟩ | ⟨i1, x, y, x1, y1, x2, y2, h⟩
      · rw [if_pos (.inl ih.1)] at e
        refine .inr (.inl ⟨c / 1000, e, ⟨c, by omega, hs, rfl⟩, fun y hy hys => ?_⟩)
        by_cases hyc : y = c
        · rw [hyc]
        · have := cnt_0 ih.1 y (by omega); rw [hys] at this; cases this
      · have h0 : cnt (sob v s) c ≠ 0 := fun z => by have := cnt_0 z x x1; rw [x2] at this; cases this
        by_cases hpc : p = c / 1000
        · rw [if_pos (.inr (by rw [i1, hpc]))] at e
          refine .inr (.inl ⟨c / 1000, e, ⟨c, by omega, hs, rfl⟩, fun y hy hys => ?_⟩)
          by_cases hyc : y = c
          · rw [hyc]
          · rw [← hpc]; exact i2 y (by omega) hys
        · rw [if_neg (fun z => by
            rcases z with z | z
            · exact h0 z
            · rw [i1, J_eq (by omega) (by omega)] at z; exact hpc z)] at e
          exact .inr (.inr ⟨e, x, c, by omega, by omega, x2, hs, fun z => hpc (by omega)⟩)
      · have h0 : cnt (sob v s) c ≠ 0 := fun z => by have := cnt_0 z x x1; rw [x2] at this; cases this
        rw [if_neg (fun z => by
          rcases z with z | z
          · exact h0 z
          · rw [i1] at z; exact (J_eN2 (by omega)).mp z.symm)] at e
        exact .inr (.inr ⟨e, x, y, by omega, by omega, x2, y2, h⟩)
theorem C_onlyPlace {U : zCS} {a sa : Nat} {v s : zV} (h : isVal U a v) (hs : isSi U sa s) (hV : VOK v) (hS : SOK s) (hI : SIN v s) : gX5_onlyPlace U a sa = some (if Bq v s (100 * ((v 0 : Nat) + 1)) = 0 then NN else if spf v s (1000 * ((v 0 : Nat) + 1)) = NN2 then NN else spf v s (1000 * ((v 0 : Nat) + 1))) := by
  have hw := hV.2.1
  have hBc : cnt (sob v s) (1000 * ((v 0 : Nat) + 1)) = Bq v s (100 * ((v 0 : Nat) + 1)) := by rw [← sob_B, show 10 * (100 * ((v 0 : Nat) + 1)) = 1000 * ((v 0 : Nat) + 1) by omega]
  have hDl : ∀ c, Dc v s c < 100000 ∨ (v 0 : Nat) < c := fun c => by
    by_cases hc : (v 0 : Nat) < c
    · exact .inr hc
    · left; have := Bq_le (v := v) (s := s) (100 * c + 100); unfold Dc; omega
  have st0 : ∀ i x F, i ≤ (v 0 : Nat) → Dc v s i = 0 → gX5_onlyPlace_l4 U a sa F x (J i) = F x (J (i + 1)) := fun i x F hi hd => by
    unfold gX5_onlyPlace_l4
    rw [V_w h, C_howManyAt h hs hV hS hI hi, show Bq v s (100 * i + 100) - Bq v s (100 * i) = 0 from hd]
    simp (disch := omega) only [wb1, wb2, wb3, wb4, wc1, wc2, zb1_ite, zb2_ite, zb3_ite, zb4_ite, zzc1_ite, zzc2_ite, J_lit, J_n1, J_n2, J_add, J_mul, J_lt, J_le, J_eq, J_eN, N_eJ, J_eN2, J_nn, J_lN, N_lJ, J_leN, N_leJ, NN_l0, NN_eN, bJ_0, bJ_1, bJ_ite, zbz_b, zbz_0, zbz_1, zag_J, zas_J, ite_true, ite_false, if_true, if_false, ite_self, reduceIte, not_true_eq_false, not_false_eq_true, J_o, Nat.reduceEqDiff, Nat.reduceAdd, Nat.reduceMul, Nat.reduceSub, Nat.reduceLT, Nat.reduceLeDiff, Nat.one_ne_zero]
    rw [if_neg (by omega)]
  have stN : ∀ i F, i ≤ (v 0 : Nat) → Dc v s i ≠ 0 → gX5_onlyPlace_l4 U a sa F NN (J i) = F (J i) (J (i + 1)) := fun i F hi hd => by
    have hb := (hDl i).resolve_right (by omega)
    unfold gX5_onlyPlace_l4
    rw [V_w h, C_howManyAt h hs hV hS hI hi, show Bq v s (100 * i + 100) - Bq v s (100 * i) = Dc v s i from rfl]
    simp (disch := omega) only [wb1, wb2, wb3, wb4, wc1, wc2, zb1_ite, zb2_ite, zb3_ite, zb4_ite, zzc1_ite, zzc2_ite, J_lit, J_n1, J_n2, J_add, J_mul, J_lt, J_le, J_eq, J_eN, N_eJ, J_eN2, J_nn, J_lN, N_lJ, J_leN, N_leJ, NN_l0, NN_eN, bJ_0, bJ_1, bJ_ite, zbz_b, zbz_0, zbz_1, zag_J, zas_J, ite_true, ite_false, if_true, if_false, ite_self, reduceIte, not_true_eq_false, not_false_eq_true, J_o, Nat.reduceEqDiff, Nat.reduceAdd, Nat.reduceMul, Nat.reduceSub, Nat.reduceLT, Nat.reduceLeDiff, Nat.one_ne_zero, eq_false hd]
    rw [if_neg (by omega)]
  have stX : ∀ i c F, i ≤ (v 0 : Nat) → Dc v s i ≠ 0 → c ≤ 100 → gX5_onlyPlace_l4 U a sa F (J c) (J i) = some NN := fun i c F hi hd hc => by
    have hb := (hDl i).resolve_right (by omega)
    unfold gX5_onlyPlace_l4
    rw [V_w h, C_howManyAt h hs hV hS hI hi, show Bq v s (100 * i + 100) - Bq v s (100 * i) = Dc v s i from rfl]
    simp (disch := omega) only [wb1, wb2, wb3, wb4, wc1, wc2, zb1_ite, zb2_ite, zb3_ite, zb4_ite, zzc1_ite, zzc2_ite, J_lit, J_n1, J_n2, J_add, J_mul, J_lt, J_le, J_eq, J_eN, N_eJ, J_eN2, J_nn, J_lN, N_lJ, J_leN, N_leJ, NN_l0, NN_eN, bJ_0, bJ_1, bJ_ite, zbz_b, zbz_0, zbz_1, zag_J, zas_J, ite_true, ite_false, if_true, if_false, ite_self, reduceIte, not_true_eq_false, not_false_eq_true, J_o, Nat.reduceEqDiff, Nat.reduceAdd, Nat.reduceMul, Nat.reduceSub, Nat.reduceLT, Nat.reduceLeDiff, Nat.one_ne_zero, eq_false hd]
    rw [if_neg (by omega)]
  have stE : ∀ x F, gX5_onlyPlace_l4 U a sa F x (J ((v 0 : Nat) + 1)) = some x := fun x F => by
    unfold gX5_onlyPlace_l4
    rw [V_w h]
    simp (disch := omega) only [wb1, wb2, wb3, wb4, wc1, wc2, zb1_ite, zb2_ite, zb3_ite, zb4_ite, zzc1_ite, zzc2_ite, J_lit, J_n1, J_n2, J_add, J_mul, J_lt, J_le, J_eq, J_eN, N_eJ, J_eN2, J_nn, J_lN, N_lJ, J_leN, N_leJ, NN_l0, NN_eN, bJ_0, bJ_1, bJ_ite, zbz_b, zbz_0, zbz_1, zag_J, zas_J, ite_true, ite_false, if_true, if_false, ite_self, reduceIte, not_true_eq_false, not_false_eq_true, J_o, Nat.reduceEqDiff, Nat.reduceAdd, Nat.reduceMul, Nat.reduceSub, Nat.reduceLT, Nat.reduceLeDiff, Nat.one_ne_zero]
    rw [if_pos (by omega)]
  unfold gX5_onlyPlace
  rcases spf_ok (v := v) (s := s) (1000 * ((v 0 : Nat) + 1)) (by omega) with ⟨h1, h2⟩ | ⟨p, h1, ⟨x, x1, x2, x3⟩, h3⟩ | ⟨h1, x, y, x1, y1, x2, y2, hxy⟩
  · rw [if_pos (by rw [← hBc]; exact h1)]
    refine zf2_run (f := gX5_onlyPlace_l4 U a sa) ((v 0 : Nat) + 1) (fun _ => NN) J (fun i hi F => st0 i NN F (by omega) ?_) (fun F => stE NN F) (zfu_lt (by omega))
    exact Decidable.by_contra fun z => by
      obtain ⟨x, x1, x2⟩ := Dc_p.mp z
      have := cnt_0 h1 x (by omega)
      rw [x1] at this; cases this
  · have hB0 : Bq v s (100 * ((v 0 : Nat) + 1)) ≠ 0 := fun z => by
      rw [← hBc] at z
      have := cnt_0 z x x1; rw [x2] at this; cases this
    have hp : p ≤ (v 0 : Nat) := by omega
    rw [if_neg hB0, h1, if_neg (by rw [J_eN2 (by omega)]; exact id)]
    refine zf2_run (f := gX5_onlyPlace_l4 U a sa) ((v 0 : Nat) + 1) (fun i => if i ≤ p then NN else J p) J (fun i hi F => ?_) (fun F => by rw [if_neg (by omega)]; exact stE _ F) (zfu_lt (by omega))
    by_cases hip : i = p
    · subst hip
      rw [if_pos (Nat.le_refl _), if_neg (by omega)]
      exact stN i F (by omega) (Dc_p.mpr ⟨x, x2, x3⟩)
    · have hd : Dc v s i = 0 := Decidable.by_contra fun z => by
        obtain ⟨y, y1, y2⟩ := Dc_p.mp z
        have := h3 y (by omega) y1
        omega
      by_cases hlt : i < p
      · rw [if_pos (by omega), if_pos (by omega)]; exact st0 i _ F (by omega) hd
      · rw [if_neg (by omega), if_neg (by omega)]; exact st0 i _ F (by omega) hd
  · have hB0 : Bq v s (100 * ((v 0 : Nat) + 1)) ≠ 0 := fun z => by
      rw [← hBc] at z
      have := cnt_0 z x x1; rw [x2] at this; cases this
    rw [if_neg hB0, h1, if_pos rfl]
    have dx : Dc v s (x / 1000) ≠ 0 := Dc_p.mpr ⟨x, x2, rfl⟩
    have dy : Dc v s (y / 1000) ≠ 0 := Dc_p.mpr ⟨y, y2, rfl⟩
    cases hf : fstI (fun c => decide (Dc v s c ≠ 0)) ((v 0 : Nat) + 1) with
    | none =>
      have := of_decide_eq_false (fstI_n hf (x / 1000) (by omega))
      exact absurd dx this
    | some c0 =>
      obtain ⟨f1, f2, f3⟩ := fstI_s hf
      have f2 := of_decide_eq_true f2
      cases hg : fstI (fun c => decide (c0 < c) && decide (Dc v s c ≠ 0)) ((v 0 : Nat) + 1) with
      | none =>
        exfalso
        have g1 := fstI_n hg
        have only : ∀ c, c < (v 0 : Nat) + 1 → Dc v s c ≠ 0 → c = c0 := fun c hc hd => by
          rcases Nat.lt_trichotomy c c0 with z | z | z
          · have := of_decide_eq_false (f3 c z); exact absurd hd this
          · exact z
          · have := g1 c hc; rw [decide_eq_true z, decide_eq_true hd] at this; cases this
        exact hxy ((only _ (by omega) dx).trans (only _ (by omega) dy).symm)
      | some c1 =>
        obtain ⟨g1, g2, g3⟩ := fstI_s hg
        rw [Bool.and_eq_true, decide_eq_true_eq, decide_eq_true_eq] at g2
        refine zf2_run (f := gX5_onlyPlace_l4 U a sa) c1 (fun i => if i ≤ c0 then NN else J c0) J (fun i hi F => ?_) (fun F => by rw [if_neg (by omega)]; exact stX c1 c0 F (by omega) g2.2 (by omega)) (zfu_lt (by omega))
        by_cases hip : i = c0
        · subst hip
          rw [if_pos (Nat.le_refl _), if_neg (by omega)]
          exact stN i F (by omega) f2
        · by_cases hlt : i < c0
          · have hd : Dc v s i = 0 := Decidable.by_contra fun z => absurd z (of_decide_eq_false (f3 i hlt))
            rw [if_pos (by omega), if_pos (by omega)]; exact st0 i _ F (by omega) hd
          · have hd : Dc v s i = 0 := Decidable.by_contra fun z => by
              have := g3 i hi
              rw [decide_eq_true (show c0 < i by omega), decide_eq_true z] at this; cases this
            rw [if_neg (by omega), if_neg (by omega)]; exact st0 i _ F (by omega) hd
