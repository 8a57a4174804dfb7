/-! texts: read through, both sides -/
def phB (v : zV) : Bool := (List.range (v 1 : Nat)).all (fun j => decide ((v (33 + j) : Nat) ≤ (v 0 : Nat)))
theorem phB_t {v : zV} : phB v = true ↔ ∀ j, j < (v 1 : Nat) → (v (33 + j) : Nat) ≤ (v 0 : Nat) := by
  unfold phB
  rw [List.all_eq_true]
  exact ⟨fun h j hj => of_decide_eq_true (h j (List.mem_range.mpr hj)), fun h j hj => decide_eq_true (h j (List.mem_range.mp hj))⟩
theorem C_holds {U : zCS} {a : Nat} {v : zV} (h : isVal U a v) (hp : (v 1 : Nat) ≤ 6) : gX9_holdsItsPeople U a = some (bJ (phB v)) := by
  have hst : ∀ i, i < (v 1 : Nat) → ∀ F, gX9_holdsItsPeople_l2 U a F (J i) = if (v (33 + i) : Nat) ≤ (v 0 : Nat) then F (J (i + 1)) else some (J 0) := by
    intro i hi F
    unfold gX9_holdsItsPeople_l2
    rw [h.2.1, if_neg (show ¬ J (v 1) ≤ J i by rw [J_le (by omega) (by omega)]; omega), zag_J (by omega) (by omega), wb1, (h.2.2.2.2.2.2.1 i hi).2.1, C_hasPlace h (by omega), wb1]
    by_cases c : (v (33 + i) : Nat) ≤ (v 0 : Nat)
    · rw [decide_eq_true c, if_neg (show ¬ bJ true = 0 by decide), if_pos c]
      show F (J i + J 1) = _
      rw [J_add]
    · rw [decide_eq_false c, if_pos (show bJ false = 0 from rfl), if_neg c]; rfl
  have hze := zf1_any (f := gX9_holdsItsPeople_l2 U a) (v 1 : Nat) (fun j => !decide ((v (33 + j) : Nat) ≤ (v 0 : Nat))) (some (J 0)) (some (J 1)) (by omega) (fun i hi hq F => by
    rw [hst i hi F, if_pos (by simpa using hq)]) (fun i hi hq F => by
    rw [hst i hi F, if_neg (by simpa using hq)]) (fun F => by
    unfold gX9_holdsItsPeople_l2
    rw [h.2.1, if_pos (show J (v 1) ≤ J (v 1) by rw [J_le (by omega) (by omega)]; omega)]; rfl)
  unfold gX9_holdsItsPeople
  show zf1 _ zfu (J 0) = _
  rw [hze, any_not (List.range (v 1 : Nat)) (fun j => decide ((v (33 + j) : Nat) ≤ (v 0 : Nat)))]
  unfold phB
  cases (List.range (v 1 : Nat)).all (fun j => decide ((v (33 + j) : Nat) ≤ (v 0 : Nat))) <;> rfl
theorem mxI_le {a b c : Int32} : mxI a b ≤ c ↔ a ≤ c ∧ b ≤ c := by
  unfold mxI
  by_cases h : a < b
  · rw [if_pos h]
    rw [Int32.lt_iff_toInt_lt] at h
    simp only [Int32.le_iff_toInt_le]
    omega
  · rw [if_neg h]
    rw [Int32.lt_iff_toInt_lt] at h
    simp only [Int32.le_iff_toInt_le]
    omega
theorem farV_le {v : zV} : (farV v ≤ J (v 0)) ↔ phB v = true := by
  rw [phB_t]
  unfold farV
  have h : ∀ k, (itr (fun q y => mxI y (J (v (33 + q)))) NN k ≤ J (v 0)) ↔ ∀ j, j < k → (v (33 + j) : Nat) ≤ (v 0 : Nat) := by
    intro k
    induction k with
    | zero =>
      rw [itr_0, N_leJ (by omega)]
      exact ⟨fun _ j hj => by omega, fun _ => trivial⟩
    | succ k ih =>
      rw [itr_s, mxI_le, ih, J_le (by omega) (by omega)]
      refine ⟨fun z j hj => ?_, fun z => ⟨fun j hj => z j (by omega), z k (by omega)⟩⟩
      by_cases hjk : j = k
      · rw [hjk]; exact z.2
      · exact z.1 j (by omega)
  exact h _
def DRf (σ : Nat) (U : zCS) (M : zMS) (r : Nat) : Prop := match σ with
  | 0 => ∃ v, RV M v ∧ isVal U (r + 1) v ∧ VOK v
  | 1 => ∃ d, RDy M d ∧ isDay U (r + 12) d ∧ DOK d
  | 2 => ∃ l, RLs M l ∧ isLe U (r + 16) l ∧ LOK l
  | _ => ∃ s, RSi M s ∧ isSi U (r + 19) s ∧ SOK s
theorem DRf_M {σ : Nat} {U : zCS} {M M' : zMS} {r : Nat} (h19 : M'.2.2 19 = M.2.2 19) (h : DRf σ U M r) : DRf σ U M' r := by
  match σ, h with
  | 0, ⟨v, a1, a2⟩ => exact ⟨v, RV_M h19 a1, a2⟩
  | 1, ⟨d, a1, a2⟩ => exact ⟨d, RDy_M h19 a1, a2⟩
  | 2, ⟨l, a1, a2⟩ => exact ⟨l, RLs_M h19 a1, a2⟩
  | _ + 3, ⟨s, a1, a2⟩ => exact ⟨s, fun k hk => by rw [h19]; exact a1 k hk, a2⟩
noncomputable def finR (v13 : Int32) (m14 : zMS) : Option (Int32 × zMS) :=
  zb1 (if v13 = 0 then (
  some 1)
  else (
  some (m14.1 17)) : Option (Int32)) fun (s18 : Int32) =>
  zb1 (zas 4 (m14.2.2 3) 0 s18) fun f20 =>
  zb1 (some (zsA m14 3 f20)) fun M20 =>
  zb1 (if v13 = 0 then (
  some (M20.1 16))
  else (
  if (M20.1 17) ≤ 0 then (
  some (-1))
  else (
  some (M20.1 18))) : Option (Int32)) fun (s24 : Int32) =>
  zb1 (zas 4 (M20.2.2 4) 0 s24) fun f26 =>
  zb1 (some (zsA M20 4 f26)) fun M26 =>
  zb1 (zag 4 (M26.2.2 3) 0) fun v30 =>
  zb1 (if v30 = 0 then (
  some 1)
  else (
  some 0) : Option (Int32)) fun (s32 : Int32) =>
  zb1 (zbz s32) fun v34 =>
  some (v34, M26)
theorem R_fin {m : zMS} {v13 P : Int32} {F : Nat} (h18 : (if v13 = 0 then some 1 else some (m.1 17) : Option Int32) = some (J F)) (h24 : (if v13 = 0 then some (m.1 16) else if m.1 17 ≤ 0 then some (-1) else some (m.1 18) : Option Int32) = some P) (hF : F < 5) : finR v13 m = some (bJ (decide (F = 0)), zsA (zsA m 3 (upd (m.2.2 3) 0 (J F))) 4 (upd (m.2.2 4) 0 P)) := by
  unfold finR
  rw [h18, wb1, show zas 4 (m.2.2 3) 0 (J F) = some (upd (m.2.2 3) 0 (J F)) from zas_J (i := 0) (by omega) (by omega), wb1, wb1, zsA_i, h24, wb1, zsA_o (k := 3) (j := 4) (by omega), show zas 4 (m.2.2 4) 0 P = some (upd (m.2.2 4) 0 P) from zas_J (i := 0) (by omega) (by omega), wb1, wb1, zsA_o (k := 4) (j := 3) (by omega), zsA_1, show zag 4 (upd (m.2.2 3) 0 (J F)) 0 = some (J F) by rw [show (0 : Int32) = J 0 from rfl, zag_J (by omega) (by omega), upd_1], wb1]
  by_cases c : F = 0
  · rw [if_pos (show J F = 0 by rw [c]; rfl), decide_eq_true c]; rfl
  · rw [if_neg (show ¬ J F = 0 by rw [show (0 : Int32) = J 0 from rfl, J_eq (by omega) (by omega)]; exact c), decide_eq_false c]; rfl
theorem J_read {ν : zM} {sh : Nat → Nat} {U : zCS} {M : zMS} {r n σ : Nat} {t : Nat → Nat} (h4 : isX4 sh r) (hst : stOk ν sh) (hx : txOk ν sh) (hσ : σ < 4) (hn : n ≤ 600) (htU : ∀ k, k < 600 → bq (U.2.1 (r - 53) k) (t k)) (htM : tRow M t) (h11 : M.1 11 = J n) :
    ∃ U' M' F P, fX4_read (cmem ν sh U) r (J n) (J σ) = some (cmem ν sh U') ∧ gX12_readText M (J σ) = some (bJ (decide (F = 0)), M') ∧ F < 5 ∧ Ufr U U' (rdr r) ∧ (∀ k, k ≠ 3 → k ≠ 4 → (1 ≤ k ∧ k ≤ 9) ∨ k = 53 → M'.2.2 k = M.2.2 k) ∧ M'.2.2 3 = upd (M.2.2 3) 0 (J F) ∧ M'.2.2 4 = upd (M.2.2 4) 0 P ∧ U'.1 r 4 = J F ∧ U'.1 r 5 = P ∧ (F = 0 → DRf σ U' M' r) := by
  have h53 := h4.2.2.2.2.2.2.2.2
  obtain ⟨U1, hU1⟩ : ∃ V, V = csI (csI (csI (csI U r 7 (J n)) r 4 (J 0)) r 5 NN) r 10 (J 0) := ⟨_, rfl⟩
  have u1f : Ufr U U1 (rdr r) := by
    rw [hU1]
    exact Ufr_t (Ufr_I ⟨by omega, by omega⟩) (Ufr_t (Ufr_I ⟨by omega, by omega⟩) (Ufr_t (Ufr_I ⟨by omega, by omega⟩) (Ufr_I ⟨by omega, by omega⟩)))
  obtain ⟨U2, c1, c2, c3, c4, c5, c6, c7⟩ := C_clearDraft (U := U1) (r := r) hσ
  have k7 : U2.1 r 7 = J n := by rw [c3, hU1, csI_o2 (.inr (by omega)), csI_o2 (.inr (by omega)), csI_o2 (.inr (by omega)), csI_1]
  have k4 : U2.1 r 4 = J 0 := by rw [c3, hU1, csI_o2 (.inr (by omega)), csI_o2 (.inr (by omega)), csI_1]
  have k5 : U2.1 r 5 = NN := by rw [c3, hU1, csI_o2 (.inr (by omega)), csI_1]
  have k10 : U2.1 r 10 = J 0 := by rw [c3, hU1, csI_1]
  have ht2 : ∀ k, k < 600 → bq (U2.2.1 (r - 53) k) (t k) := fun k hk => by
    rw [(c2.1 (r - 53) (fun z => by have := z.1; omega)).2, (u1f.1 (r - 53) (fun z => by have := z.1; omega)).2]; exact htU k hk
  have hadv := C_advance hn (Nat.zero_le n) k7 k10 ht2
  obtain ⟨U3, hU3⟩ : ∃ V, V = csI (csI (csI U2 r 9 (J (Sk t n 0))) r 8 (J (Kk t n 0))) r 10 (J (Ek t n 0)) := ⟨_, rfl⟩
  rw [← hU3] at hadv
  have hC3 : CL U3 r t n 0 := by
    rw [hU3]
    refine ⟨hn, Nat.zero_le n, ?_, ?_, ?_, csI_1, ht2⟩
    · rw [csI_o2 (.inr (by omega)), csI_o2 (.inr (by omega)), csI_o2 (.inr (by omega))]; exact k7
    · rw [csI_o2 (.inr (by omega)), csI_1]
    · rw [csI_o2 (.inr (by omega)), csI_o2 (.inr (by omega)), csI_1]
  have hCF3 : CF U3 r (0, 0) := by
    rw [hU3]
    refine ⟨?_, ?_⟩
    · rw [csI_o2 (.inr (by omega)), csI_o2 (.inr (by omega)), csI_o2 (.inr (by omega))]; exact k4
    · rw [csI_o2 (.inr (by omega)), csI_o2 (.inr (by omega)), csI_o2 (.inr (by omega)), if_pos rfl]; exact k5
  have f23 : Ufr U2 U3 (fun q => q = r) := by
    rw [hU3]
    exact Ufr_t (Ufr_I rfl) (Ufr_t (Ufr_I rfl) (Ufr_I rfl))
  have f03 : Ufr U U3 (rdr r) := Ufr_t u1f (Ufr_t c2 (Ufr_m f23 (fun q hq => by rw [hq]; exact ⟨by omega, by omega⟩)))
  obtain ⟨M2, b1, b2, b3, b4, b5, b6⟩ := R_blank (M := M) hσ
  obtain ⟨M7, hM7⟩ : ∃ m, m = zsI (zsI (zsI M2 21 NN) 10 (J 0)) 17 (J 0) := ⟨_, rfl⟩
  have q11 : M7.1 11 = J n := by rw [hM7, zsI_o (by omega), zsI_o (by omega), zsI_o (by omega), b2]; exact h11
  have q10 : M7.1 10 = J 0 := by rw [hM7, zsI_o (by omega), zsI_1]
  have q21 : M7.1 21 = NN := by rw [hM7, zsI_o (by omega), zsI_o (by omega), zsI_1]
  have q17 : M7.1 17 = J 0 := by rw [hM7, zsI_1]
  have qa : M7.2.2 = M2.2.2 := by rw [hM7]; rfl
  have ht7 : tRow M7 t := fun k hk => by rw [qa, b4 1 (by omega)]; exact htM k hk
  obtain ⟨M10, d1, d2, d3, d4, d5, d6, d7⟩ := R_token ht7 hn (Nat.zero_le n) q11 q10
  have hR10 : RLx M10 t n 0 := ⟨hn, Nat.zero_le n, by rw [d2.1 11 (by omega) (by omega) (by omega) (by omega)]; exact q11, d3, d4, d5, d6, d7, fun k hk => by rw [d2.2]; exact ht7 k hk⟩
  have hRF : RF M10 (0, 0) := ⟨by rw [d2.1 17 (by omega) (by omega) (by omega) (by omega)]; exact q17, fun z => absurd rfl z⟩
  have q21' : M10.1 21 = NN := by rw [d2.1 21 (by omega) (by omega) (by omega) (by omega)]; exact q21
  have qs : ∀ k, ((1 ≤ k ∧ k ≤ 9) ∨ k = 53) → M10.2.2 k = M.2.2 k := fun k hk => by rw [d2.2, qa, b4 k (by omega)]
  have q19 : M10.2.2 19 = M2.2.2 19 := by rw [d2.2, qa]
  have hD : DR σ U3 M10 r (0, 0) := by
    match σ, hσ, c4, c5, c6, c7, b5, b6 with
    | 0, _, c4, _, _, _, b5, _ => exact ⟨vB, fun k hk => by rw [q19]; exact b5 rfl k (by omega), by rw [vB_1]; omega, by rw [vB_2]; omega, fun _ => ⟨isVal_F f23 (fun j hj z => by omega) (c4 rfl), vB_d, by rw [q21']; rfl⟩⟩
    | 1, _, _, c5, _, _, _, b6 => exact ⟨zB, ⟨by rw [q19]; exact b6 (by omega) 0 (by omega), fun k hk => absurd (show k < 0 from hk) (by omega)⟩, Nat.zero_le _, fun _ => ⟨isDay_F f23 (fun j hj z => by omega) (c5 rfl), ⟨Nat.zero_le _, fun k hk => absurd (show k < 0 from hk) (by omega)⟩⟩⟩
    | 2, _, _, _, c6, _, _, b6 => exact ⟨zB, fun k hk => by rw [q19]; exact b6 (by omega) k (by omega), Nat.zero_le _, fun _ => ⟨isLe_F f23 (fun j hj z => by omega) (c6 rfl), ⟨Nat.zero_le _, Nat.zero_le _, fun k hk => absurd (show k < 0 from hk) (by omega)⟩⟩⟩
    | 3, _, _, _, _, c7, _, b6 => exact ⟨zB, fun k hk => by rw [q19]; exact b6 (by omega) k (by omega), Nat.zero_le _, fun _ => ⟨isSi_F f23 (fun j hj z => by omega) (c7 rfl), ⟨Nat.zero_le _, fun k hk => absurd (show k < 0 from hk) (by omega)⟩⟩⟩
  have hfu := zfu_ge
  obtain ⟨U4, M12, b, g1, g2, g3, g4, g5⟩ := J_lines (ν := ν) (sh := sh) h4 hst hx hσ n U3 M10 0 (0, 0) 0 (by omega) (Nat.zero_le _) ⟨hC3, hR10, hRF, hCF3, by decide, by decide, fun z => absurd rfl z, hD⟩
  have g1 := g1 zfu (by omega)
  have g2 := g2 zfu (by omega)
  have hread : fX4_read (cmem ν sh U) r (J n) (J σ) = zb1 (some (U4.1 r 4)) fun v32 => zc1 (if v32 = 0 then (if J σ = 0 then zb1 (zm_gR (cmem ν sh U4) 4 r 0) fun v36 => zb1 (fX9_holdsItsPeople (cmem ν sh U4) v36) fun v39 => if v39 = 0 then zb1 (zm_gI (cmem ν sh U4) 4 r 7) fun v40 => zb1 (fX4_mark (cmem ν sh U4) r 4 v40) fun m43 => some m43 else some (cmem ν sh U4) else some (cmem ν sh U4)) else some (cmem ν sh U4)) fun m34 => some m34 := by
    unfold fX4_read
    rw [ck_X4 h4, zgd_t, cgr_X4_6 h4, wb1, clr_9001 (isX4_m53 h4), wb1, show (if Int32.ofNat 600 < J n then Int32.ofNat 600 else J n : Int32) = J n from if_neg (show ¬ J 600 < J n by rw [J_lt (by omega) (by omega)]; omega), cpr_X4_7 h4, wb1, cpr_X4_4 h4, wb1, cpr_X4_5 h4, wb1, cpr_X4_10 h4, wb1, show (-1 : Int32) = NN from rfl, show (0 : Int32) = J 0 from rfl, ← hU1, eX4_clearDraft h4, c1, zmap_some, wb1, eX4_advance h4, hadv, zmap_some, wb1, g1, wb1, cgr_X4_4 h4]
  have hlines : gX12_lines M10 (J σ) = some (bJ b, M12) := by
    unfold gX12_lines
    rw [g2, wb2, zbz_b, wb1]
  have htext : gX12_readText M (J σ) = zc1 (if bJ b = 0 then some M12 else if J σ = 0 then (if (M12.1 17) = 0 then zb1 (zag 121 (M12.2.2 19) 0) fun v50 => if (M12.1 21) ≤ v50 then some M12 else zb1 (gX12_later M12 4 (M12.1 12)) fun M55 => some M55 else some M12) else some M12) (finR (bJ b)) := by
    unfold gX12_readText
    rw [b1, wb1, wb1, wb1, wb1, show (-1 : Int32) = NN from rfl, show (0 : Int32) = J 0 from rfl, ← hM7, d1, wb1, hlines, wb2]
    rfl
  have hfr : Ufr U U4 (rdr r) := Ufr_t f03 g3
  have qs4 : ∀ k, ((1 ≤ k ∧ k ≤ 9) ∨ k = 53) → M12.2.2 k = M.2.2 k := fun k hk => (g4 k hk).trans (qs k hk)
  have hout : ∀ (m : zMS) F P, (∀ k, ((1 ≤ k ∧ k ≤ 9) ∨ k = 53) → m.2.2 k = M.2.2 k) → (∀ k, k ≠ 3 → k ≠ 4 → (1 ≤ k ∧ k ≤ 9) ∨ k = 53 → (zsA (zsA m 3 (upd (m.2.2 3) 0 (J F))) 4 (upd (m.2.2 4) 0 P)).2.2 k = M.2.2 k) ∧ (zsA (zsA m 3 (upd (m.2.2 3) 0 (J F))) 4 (upd (m.2.2 4) 0 P)).2.2 3 = upd (M.2.2 3) 0 (J F) ∧ (zsA (zsA m 3 (upd (m.2.2 3) 0 (J F))) 4 (upd (m.2.2 4) 0 P)).2.2 4 = upd (M.2.2 4) 0 P ∧ (zsA (zsA m 3 (upd (m.2.2 3) 0 (J F))) 4 (upd (m.2.2 4) 0 P)).2.2 19 = m.2.2 19 := by
    intro m F P hm
    refine ⟨fun k z1 z2 z3 => by rw [zsA_o z2, zsA_o z1]; exact hm k z3, by rw [zsA_o (by omega), zsA_1, hm 3 (by omega)], by rw [zsA_1, hm 4 (by omega)], by rw [zsA_o (by omega), zsA_o (by omega)]⟩
  rcases g5 with ⟨rfl, p, p1, p2, p3⟩ | ⟨rfl, i', f', hJ, hk0⟩
  · have ho := hout M12 1 (J p) qs4
    have hfin := R_fin (m := M12) (v13 := bJ false) (F := 1) (P := J p) (by rw [if_pos (show bJ false = 0 from rfl)]; rfl) (by rw [if_pos (show bJ false = 0 from rfl), p3]) (by omega)
    refine ⟨U4, _, 1, J p, ?_, ?_, by omega, hfr, ho.1, ho.2.1, ho.2.2.1, p1, p2, fun z => by omega⟩
    · rw [hread, wb1, p1, if_neg (show ¬ J 1 = 0 by decide), wc1]
    · rw [htext, if_pos (show bJ false = 0 from rfl), wc1]; exact hfin
  · obtain ⟨jC, jR, jRF, jCF, j4, j1, jo, jD⟩ := hJ
    have hSn : Sk t n i' = n := (Ek_p (t := t) jC.2.1).2.2.2.mp hk0
    have h17 : ∀ F', f'.1 = F' → M12.1 17 = J F' := fun F' z => by rw [jRF.1, z]
    by_cases cf : f'.1 = 0
    · have z17 : M12.1 17 = J 0 := h17 0 cf
      have c4U : U4.1 r 4 = J 0 := by rw [jCF.1, cf]
      have c5U : U4.1 r 5 = NN := by rw [jCF.2, if_pos cf]
      by_cases cs : σ = 0
      · subst cs
        obtain ⟨v, v1, v2, v3, v4⟩ := jD
        obtain ⟨v5, v6, v7⟩ := v4 cf
        have hho := C_holds v5 v2
        by_cases cp : phB v = true
        · have ho := hout M12 0 NN qs4
          have hfin := R_fin (m := M12) (v13 := bJ true) (F := 0) (P := NN) (by rw [if_neg (show ¬ bJ true = 0 by decide), z17]) (by rw [if_neg (show ¬ bJ true = 0 by decide), z17, if_pos (show J 0 ≤ 0 by decide)]; rfl) (by omega)
          refine ⟨U4, _, 0, NN, ?_, ?_, by omega, hfr, ho.1, ho.2.1, ho.2.2.1, c4U, c5U, fun _ => DRf_M ho.2.2.2 ⟨v, v1, v5, VOKd_ok v6 (phB_t.mp cp)⟩⟩
          · rw [hread, wb1, c4U, if_pos (show J 0 = 0 from rfl), if_pos (show J 0 = 0 from rfl), cgr_X4_0 h4, wb1, eX9_holdsItsPeople (isX4_1 h4), hho, wb1, cp, if_neg (show ¬ bJ true = 0 by decide), wc1]
          · rw [htext, if_neg (show ¬ bJ true = 0 by decide), if_pos (show J 0 = 0 from rfl), z17, if_pos (show J 0 = 0 from rfl), show zag 121 (M12.2.2 19) 0 = some (J (v 0)) by rw [show (0 : Int32) = J 0 from rfl, zag_J (by omega) (by omega), v1 0 (by omega)], wb1, v7, if_pos (farV_le.mpr cp), wc1]; exact hfin
        · have cp' : phB v = false := by cases hq : phB v with | true => exact absurd hq cp | false => rfl
          obtain ⟨U5, m1, m2, m3⟩ := C_mark (g := 4) (p := n) jCF (by omega) (by omega)
          obtain ⟨M55, l1, l2, l3⟩ := R_later (g := 4) (p := n) jRF j4 (by omega) (fun z => absurd cf z)
          have hmk : mk1 f' true 4 n = (4, n) := if_pos ⟨cf, rfl⟩
          rw [hmk] at m2 l2
          have l17 : M55.1 17 = J 4 := l2.1
          have l18 : M55.1 18 = J n := l2.2 (show (4 : Nat) ≠ 0 by decide)
          have qs5 : ∀ k, ((1 ≤ k ∧ k ≤ 9) ∨ k = 53) → M55.2.2 k = M.2.2 k := fun k hk => by rw [l3.2]; exact qs4 k hk
          have ho := hout M55 4 (J n) qs5
          have hfin := R_fin (m := M55) (v13 := bJ true) (F := 4) (P := J n) (by rw [if_neg (show ¬ bJ true = 0 by decide), l17]) (by rw [if_neg (show ¬ bJ true = 0 by decide), l17, if_neg (show ¬ J 4 ≤ 0 by decide), l18]) (by omega)
          refine ⟨U5, _, 4, J n, ?_, ?_, by omega, Ufr_t hfr (Ufr_m (Umk_F m3) (fun q hq => by rw [hq]; exact ⟨by omega, by omega⟩)), ho.1, ho.2.1, ho.2.2.1, m2.1, by rw [m2.2]; rfl, fun z => by omega⟩
          · rw [hread, wb1, c4U, if_pos (show J 0 = 0 from rfl), if_pos (show J 0 = 0 from rfl), cgr_X4_0 h4, wb1, eX9_holdsItsPeople (isX4_1 h4), hho, wb1, cp', if_pos (show bJ false = 0 from rfl), cgr_X4_7 h4, wb1, jC.2.2.1, eX4_mark h4, show gX4_mark U4 r 4 (J n) = some U5 from m1, zmap_some, wb1, wc1]
          · rw [htext, if_neg (show ¬ bJ true = 0 by decide), if_pos (show J 0 = 0 from rfl), z17, if_pos (show J 0 = 0 from rfl), show zag 121 (M12.2.2 19) 0 = some (J (v 0)) by rw [show (0 : Int32) = J 0 from rfl, zag_J (by omega) (by omega), v1 0 (by omega)], wb1, v7, if_neg (fun z => cp (farV_le.mp z)), jR.2.2.2.1, hSn, show gX12_later M12 4 (J n) = some M55 from l1, wb1, wc1]; exact hfin
      · have hs0 : ¬ J σ = 0 := by rw [show (0 : Int32) = J 0 from rfl, J_eq (by omega) (by omega)]; exact cs
        have ho := hout M12 0 NN qs4
        have hfin := R_fin (m := M12) (v13 := bJ true) (F := 0) (P := NN) (by rw [if_neg (show ¬ bJ true = 0 by decide), z17]) (by rw [if_neg (show ¬ bJ true = 0 by decide), z17, if_pos (show J 0 ≤ 0 by decide)]; rfl) (by omega)
        refine ⟨U4, _, 0, NN, ?_, ?_, by omega, hfr, ho.1, ho.2.1, ho.2.2.1, c4U, c5U, fun _ => DRf_M ho.2.2.2 ?_⟩
        · rw [hread, wb1, c4U, if_pos (show J 0 = 0 from rfl), if_neg hs0, wc1]
        · rw [htext, if_neg (show ¬ bJ true = 0 by decide), if_neg hs0, wc1]; exact hfin
        · match σ, hσ, cs, jD with
          | 0, _, cs, _ => exact absurd rfl cs
          | 1, _, _, ⟨d, w1, w2, w3⟩ => exact ⟨d, w1, w3 cf⟩
          | 2, _, _, ⟨l, w1, w2, w3⟩ => exact ⟨l, w1, w3 cf⟩
          | 3, _, _, ⟨s, w1, w2, w3⟩ => exact ⟨s, w1, w3 cf⟩
    · have n17 : ¬ M12.1 17 = 0 := by rw [jRF.1, show (0 : Int32) = J 0 from rfl, J_eq (by omega) (by omega)]; exact cf
      have hlt := jo cf
      have ho := hout M12 f'.1 (J f'.2) qs4
      have hfin := R_fin (m := M12) (v13 := bJ true) (F := f'.1) (P := J f'.2) (by rw [if_neg (show ¬ bJ true = 0 by decide), jRF.1]) (by rw [if_neg (show ¬ bJ true = 0 by decide), jRF.1, if_neg (show ¬ J f'.1 ≤ 0 by rw [show (0 : Int32) = J 0 from rfl, J_le (by omega) (by omega)]; omega), jRF.2 cf]) (by omega)
      refine ⟨U4, _, f'.1, J f'.2, ?_, ?_, by omega, hfr, ho.1, ho.2.1, ho.2.2.1, jCF.1, by rw [jCF.2, if_neg cf], fun z => absurd z cf⟩
      · rw [hread, wb1, jCF.1, if_neg (show ¬ J f'.1 = 0 by rw [show (0 : Int32) = J 0 from rfl, J_eq (by omega) (by omega)]; exact cf), wc1]
      · rw [htext, if_neg (show ¬ bJ true = 0 by decide), if_neg n17, ite_self, wc1]; exact hfin
