/-! texts: the class takes a sky, a deed, a pair, a fact -/
theorem sky_or : ∀ a b : Bool, (J ((if a = true then 1 else 0) + (if b = true then 2 else 0)) ||| J 1 = J (1 + (if b = true then 2 else 0))) ∧ (J ((if a = true then 1 else 0) + (if b = true then 2 else 0)) ||| J 2 = J ((if a = true then 1 else 0) + 2)) := by decide +kernel
theorem skyB_s {v v' : zV} {s m κ a b : Nat} (hc : (v 2 : Nat) ≤ 4) (h2 : (v' 2 : Nat) = (v 2 : Nat) + 1) (ho : ∀ j, j < (v 2 : Nat) → v' (45 + j) = v (45 + j) ∧ v' (49 + j) = v (49 + j) ∧ v' (53 + j) = v (53 + j)) (e1 : (v' (45 + (v 2 : Nat)) : Nat) = κ) (e2 : (v' (49 + (v 2 : Nat)) : Nat) = a) (e3 : (v' (53 + (v 2 : Nat)) : Nat) = b) : skyB v' s m = (skyB v s m || decide (κ = s ∧ a ≤ m ∧ m ≤ b)) := by
  unfold skyB
  rw [h2, any_sc, e1, e2, e3, any_cg (v 2 : Nat) (fun j hj => by rw [(ho j hj).1, (ho j hj).2.1, (ho j hj).2.2])]
theorem C_sky {U : zCS} {r κ : Nat} {v : zV} {x : Nat → Nat} (h : isVal U (r + 1) v) (hV : VOKd v) (hκ : κ < 2) (hc : (v 2 : Nat) < 4) (hx0 : x 0 < 100) (hx1 : x 1 < 100) (hin : x 0 ≤ x 1) (r0 : U.2.1 (r + 24) 0 = J (x 0)) (r1 : U.2.1 (r + 24) 1 = J (x 1)) : ∃ U', gX4_take U r (J (7 + κ)) = some U' ∧ isVal U' (r + 1) (upV (7 + κ) x v) ∧ VOKd (upV (7 + κ) x v) ∧ Ufr U U' (rdr r) ∧ U'.1 r = U.1 r := by
  obtain ⟨c, hcc⟩ : ∃ c, c = (v 2 : Nat) := ⟨_, rfl⟩
  have hu : upV (7 + κ) x v = vset (vset (vset (vset v (45 + c) κ) (49 + c) (x 0)) (53 + c) (x 1)) 2 (c + 1) := by
    unfold upV; rw [if_neg (by omega), if_neg (by omega), if_neg (by omega), ← hcc, Nat.add_sub_cancel_left]
  obtain ⟨h1, h2, h3, h4, h5, h6, h7, h8, h9⟩ := h
  obtain ⟨g1, g2, g3, g4, g5, g6, g7⟩ := hV
  obtain ⟨V1, hV1⟩ : ∃ V, V = csA U (r + 1 + 7) (upd (U.2.1 (r + 1 + 7)) c (J κ)) := ⟨_, rfl⟩
  obtain ⟨V2, hV2⟩ : ∃ V, V = csA V1 (r + 1 + 8) (upd (V1.2.1 (r + 1 + 8)) c (J (x 0))) := ⟨_, rfl⟩
  obtain ⟨V3, hV3⟩ : ∃ V, V = csA V2 (r + 1 + 9) (upd (V2.2.1 (r + 1 + 9)) c (J (x 1))) := ⟨_, rfl⟩
  obtain ⟨V4, hV4⟩ : ∃ V, V = csI V3 (r + 1) 8 (J (c + 1)) := ⟨_, rfl⟩
  have hi : V3.1 = U.1 := by rw [hV3, hV2, hV1]; rfl
  have hF : Ufr U V4 (rdr r) := by
    rw [hV4, hV3, hV2, hV1]
    exact Ufr_t (Ufr_A ⟨by omega, by omega⟩) (Ufr_t (Ufr_A ⟨by omega, by omega⟩) (Ufr_t (Ufr_A ⟨by omega, by omega⟩) (Ufr_I ⟨by omega, by omega⟩)))
  have hi4 : ∀ q j, q ≠ r + 1 ∨ j ≠ 8 → V4.1 q j = U.1 q j := fun q j z => by rw [hV4, csI_o2 z, hi]
  have hv4 : V4.2 = V3.2 := by rw [hV4, csI_a]
  have a7 : V4.2.1 (r + 1 + 7) = upd (U.2.1 (r + 1 + 7)) c (J κ) := by rw [hv4, hV3, csA_o2 (by omega), hV2, csA_o2 (by omega), hV1, csA_1]
  have a8 : V4.2.1 (r + 1 + 8) = upd (U.2.1 (r + 1 + 8)) c (J (x 0)) := by rw [hv4, hV3, csA_o2 (by omega), hV2, csA_1, hV1, csA_o2 (by omega)]
  have a9 : V4.2.1 (r + 1 + 9) = upd (U.2.1 (r + 1 + 9)) c (J (x 1)) := by rw [hv4, hV3, csA_1, hV2, csA_o2 (by omega), hV1, csA_o2 (by omega)]
  have ao : ∀ q, q ≠ r + 1 + 7 → q ≠ r + 1 + 8 → q ≠ r + 1 + 9 → V4.2.1 q = U.2.1 q := fun q z1 z2 z3 => by rw [hv4, hV3, csA_o2 z3, hV2, csA_o2 z2, hV1, csA_o2 z1]
  obtain ⟨W, hW1, hW2, hW3, hW4⟩ : ∃ W, zf2 (gX9_addSky_l61 (J (x 1)) (r + 1) (J (1 + κ))) zfu (J (x 0)) V4 = some W ∧ W.1 = V4.1 ∧ W.2.2 = V4.2.2 ∧ (∀ q, q ≠ r + 1 + 10 → W.2.1 q = V4.2.1 q) ∧ ∀ m, W.2.1 (r + 1 + 10) m = if x 0 ≤ m ∧ m ≤ x 1 then V4.2.1 (r + 1 + 10) m ||| J (1 + κ) else V4.2.1 (r + 1 + 10) m := by
    have hz := zf2_inv (f := gX9_addSky_l61 (J (x 1)) (r + 1) (J (1 + κ))) (x 1 + 1 - x 0) (fun i y m => y = J (x 0 + i) ∧ m.1 = V4.1 ∧ m.2.2 = V4.2.2 ∧ (∀ q, q ≠ r + 1 + 10 → m.2.1 q = V4.2.1 q) ∧ ∀ z, m.2.1 (r + 1 + 10) z = if x 0 ≤ z ∧ z < x 0 + i then V4.2.1 (r + 1 + 10) z ||| J (1 + κ) else V4.2.1 (r + 1 + 10) z) (fun m => m.1 = V4.1 ∧ m.2.2 = V4.2.2 ∧ (∀ q, q ≠ r + 1 + 10 → m.2.1 q = V4.2.1 q) ∧ ∀ z, m.2.1 (r + 1 + 10) z = if x 0 ≤ z ∧ z ≤ x 1 then V4.2.1 (r + 1 + 10) z ||| J (1 + κ) else V4.2.1 (r + 1 + 10) z) (by
      rintro i y m hii ⟨rfl, f1, f2, f3, f4⟩ F
      refine ⟨J (x 0 + (i + 1)), csA m (r + 1 + 10) (upd (m.2.1 (r + 1 + 10)) (x 0 + i) (m.2.1 (r + 1 + 10) (x 0 + i) ||| J (1 + κ))), ?_, rfl, f1, f2, fun q hq => by rw [csA_o2 hq]; exact f3 q hq, fun z => ?_⟩
      · unfold gX9_addSky_l61
        rw [if_neg (show ¬ J (x 1) < J (x 0 + i) by rw [J_lt (by omega) (by omega)]; omega), if_neg (show ¬ (100 : Int32) ≤ J (x 0 + i) by rw [show (100 : Int32) = J 100 from rfl, J_le (by omega) (by omega)]; omega), zag_J (by omega) (by omega), wb1, zas_J (by omega) (by omega), wb1, wb1]
        show F (J (x 0 + i) + J 1) _ = _
        rw [J_add]
        rfl
      · rw [csA_1]
        by_cases hz : z = x 0 + i
        · subst hz
          rw [upd_1, f4, if_neg (by omega), if_pos (by omega)]
        · rw [upd_o hz, f4]
          by_cases hzz : x 0 ≤ z ∧ z < x 0 + i
          · rw [if_pos hzz, if_pos (by omega)]
          · rw [if_neg hzz, if_neg (by omega)]) (by
      rintro y m ⟨rfl, f1, f2, f3, f4⟩ F
      refine ⟨m, ?_, f1, f2, f3, fun z => ?_⟩
      · unfold gX9_addSky_l61
        rw [if_pos (show J (x 1) < J (x 0 + (x 1 + 1 - x 0)) by rw [J_lt (by omega) (by omega)]; omega)]
      · rw [f4]
        by_cases hzz : x 0 ≤ z ∧ z ≤ x 1
        · rw [if_pos (by omega), if_pos hzz]
        · rw [if_neg (by omega), if_neg hzz]) (zfu_lt (by omega)) (x0 := J (x 0 + 0)) (x1 := V4) ⟨rfl, rfl, rfl, fun _ _ => rfl, fun z => by rw [if_neg (by omega)]⟩
    exact hz
  have hFW : Ufr V4 W (rdr r) := ⟨fun q hq => ⟨by rw [hW2], hW4.1 q (fun z => hq ⟨by omega, by omega⟩)⟩, hW3⟩
  refine ⟨W, ?_, ?_, ?_, Ufr_t hF hFW, ?_⟩
  · have hk2 : (if J (7 + κ) = 7 then some 1 else some 2 : Option Int32) = some (J (1 + κ)) := by
      match κ, hκ with
      | 0, _ => rfl
      | 1, _ => rfl
    have hk3 : (if J (1 + κ) = 1 then some 0 else some 1 : Option Int32) = some (J κ) := by
      match κ, hκ with
      | 0, _ => rfl
      | 1, _ => rfl
    have ht : gX9_addSky U (r + 1) (J (1 + κ)) (J (x 0)) (J (x 1)) = some W := by
      unfold gX9_addSky
      rw [h3, ← hcc, if_pos (show J c < 4 by rw [show (4 : Int32) = J 4 from rfl, J_lt (by omega) (by omega)]; omega), hk3, wb1, zas_J (by omega) (by omega), wb1, wb1, ← hV1, show V1.1 (r + 1) 8 = J c by rw [hV1, csA_i, h3, hcc], zas_J (by omega) (by omega), wb1, wb1, ← hV2, show V2.1 (r + 1) 8 = J c by rw [hV2, csA_i, hV1, csA_i, h3, hcc], zas_J (by omega) (by omega), wb1, wb1, ← hV3, hi, h3, ← hcc, show (J c + 1 : Int32) = J (c + 1) from J_add c 1, wb1, ← hV4, hW1, wb1]
    unfold gX4_take gX4_takeOfValley
    rw [if_pos (show J (7 + κ) < 16 by rw [show (16 : Int32) = J 16 from rfl, J_lt (by omega) (by omega)]; omega), if_pos (show J (7 + κ) < 14 by rw [show (14 : Int32) = J 14 from rfl, J_lt (by omega) (by omega)]; omega), if_pos (show J (7 + κ) < 9 by rw [show (9 : Int32) = J 9 from rfl, J_lt (by omega) (by omega)]; omega), if_neg (show ¬ J (7 + κ) < 7 by rw [show (7 : Int32) = J 7 from rfl, J_lt (by omega) (by omega)]; omega), hk2, wb1, show zag 3 (U.2.1 (r + 24)) 0 = some (J (x 0)) by rw [show (0 : Int32) = J 0 from rfl, zag_J (by omega) (by omega), r0], wb1, show zag 3 (U.2.1 (r + 24)) 1 = some (J (x 1)) by rw [show (1 : Int32) = J 1 from rfl, zag_J (by omega) (by omega), r1], wb1, ht]
    rfl
  · rw [hu]
    obtain ⟨w, hw⟩ : ∃ w, w = vset (vset (vset (vset v (45 + c) κ) (49 + c) (x 0)) (53 + c) (x 1)) 2 (c + 1) := ⟨_, rfl⟩
    have e1 : ∀ j, j ≠ 2 → j ≠ 45 + c → j ≠ 49 + c → j ≠ 53 + c → w j = v j := fun j z1 z2 z3 z4 => by rw [hw, vset_o z1, vset_o z4, vset_o z3, vset_o z2]
    have e2 : (w 2 : Nat) = c + 1 := by rw [hw, vset_1 (by omega)]
    have e45 : (w (45 + c) : Nat) = κ := by rw [hw, vset_o (by omega), vset_o (by omega), vset_o (by omega), vset_1 (by omega)]
    have e49 : (w (49 + c) : Nat) = x 0 := by rw [hw, vset_o (by omega), vset_o (by omega), vset_1 hx0]
    have e53 : (w (53 + c) : Nat) = x 1 := by rw [hw, vset_o (by omega), vset_1 hx1]
    rw [← hw]
    have wi : ∀ j, j ≠ 8 → W.1 (r + 1) j = U.1 (r + 1) j := fun j z => by rw [hW2]; exact hi4 _ _ (.inr z)
    have w8 : W.1 (r + 1) 8 = J (c + 1) := by rw [hW2, hV4, csI_1]
    refine ⟨by rw [wi 0 (by omega), e1 0 (by omega) (by omega) (by omega) (by omega)]; exact h1, by rw [wi 4 (by omega), e1 1 (by omega) (by omega) (by omega) (by omega)]; exact h2, by rw [w8, e2], fun j hj => ?_, fun j hj => ?_, fun j hj => ?_, fun j hj => ?_, fun j hj => ?_, fun m hm => ?_⟩
    · rw [hW4.1 _ (by omega), ao _ (by omega) (by omega) (by omega), e1 _ (by omega) (by omega) (by omega) (by omega)]; exact h4 j hj
    · rw [hW4.1 _ (by omega), ao _ (by omega) (by omega) (by omega), e1 _ (by omega) (by omega) (by omega) (by omega)]; exact h5 j hj
    · rw [hW4.1 _ (by omega), ao _ (by omega) (by omega) (by omega), e1 _ (by omega) (by omega) (by omega) (by omega)]; exact h6 j hj
    · rw [e1 1 (by omega) (by omega) (by omega) (by omega)] at hj
      rw [hW4.1 _ (by omega), hW4.1 _ (by omega), hW4.1 _ (by omega), ao _ (by omega) (by omega) (by omega), ao _ (by omega) (by omega) (by omega), ao _ (by omega) (by omega) (by omega), e1 _ (by omega) (by omega) (by omega) (by omega), e1 _ (by omega) (by omega) (by omega) (by omega), e1 _ (by omega) (by omega) (by omega) (by omega)]
      exact h7 j hj
    · rw [e2] at hj
      rw [hW4.1 _ (by omega), hW4.1 _ (by omega), hW4.1 _ (by omega), a7, a8, a9]
      by_cases hjc : j = c
      · subst hjc
        rw [upd_1, upd_1, upd_1, e45, e49, e53]
        exact ⟨rfl, rfl, rfl⟩
      · rw [upd_o hjc, upd_o hjc, upd_o hjc, e1 _ (by omega) (by omega) (by omega) (by omega), e1 _ (by omega) (by omega) (by omega) (by omega), e1 _ (by omega) (by omega) (by omega) (by omega)]
        exact h8 j (by omega)
    · have hsk : ∀ s, skyB w s m = (skyB v s m || decide (κ = s ∧ x 0 ≤ m ∧ m ≤ x 1)) := fun s => skyB_s (v := v) (by omega) (by rw [e2, hcc]) (fun j hj => ⟨e1 _ (by omega) (by omega) (by omega) (by omega), e1 _ (by omega) (by omega) (by omega) (by omega), e1 _ (by omega) (by omega) (by omega) (by omega)⟩) (by rw [← hcc]; exact e45) (by rw [← hcc]; exact e49) (by rw [← hcc]; exact e53)
      have h10 : V4.2.1 (r + 1 + 10) m = J ((if skyB v 0 m = true then 1 else 0) + (if skyB v 1 m = true then 2 else 0)) := by rw [ao _ (by omega) (by omega) (by omega)]; exact h9 m hm
      have hso := sky_or (skyB v 0 m) (skyB v 1 m)
      rw [hW4.2 m, hsk 0, hsk 1, h10]
      by_cases cm : x 0 ≤ m ∧ m ≤ x 1
      · rw [if_pos cm]
        match κ, hκ with
        | 0, _ =>
          rw [show decide (0 = 0 ∧ x 0 ≤ m ∧ m ≤ x 1) = true from decide_eq_true ⟨rfl, cm⟩, show decide (0 = 1 ∧ x 0 ≤ m ∧ m ≤ x 1) = false from decide_eq_false (fun z => by omega), Bool.or_true, Bool.or_false, if_pos rfl]
          exact hso.1
        | 1, _ =>
          rw [show decide (1 = 0 ∧ x 0 ≤ m ∧ m ≤ x 1) = false from decide_eq_false (fun z => by omega), show decide (1 = 1 ∧ x 0 ≤ m ∧ m ≤ x 1) = true from decide_eq_true ⟨rfl, cm⟩, Bool.or_true, Bool.or_false, if_pos (c := true = true) rfl]
          exact hso.2
      · rw [if_neg cm, show decide (κ = 0 ∧ x 0 ≤ m ∧ m ≤ x 1) = false from decide_eq_false (fun z => cm z.2), show decide (κ = 1 ∧ x 0 ≤ m ∧ m ≤ x 1) = false from decide_eq_false (fun z => cm z.2), Bool.or_false, Bool.or_false]
  · rw [hu]
    have e1 : ∀ j, j ≠ 2 → j ≠ 45 + c → j ≠ 49 + c → j ≠ 53 + c → (vset (vset (vset (vset v (45 + c) κ) (49 + c) (x 0)) (53 + c) (x 1)) 2 (c + 1)) j = v j := fun j z1 z2 z3 z4 => by rw [vset_o z1, vset_o z4, vset_o z3, vset_o z2]
    refine ⟨by rw [e1 0 (by omega) (by omega) (by omega) (by omega)]; exact g1, by rw [e1 0 (by omega) (by omega) (by omega) (by omega)]; exact g2, by rw [e1 1 (by omega) (by omega) (by omega) (by omega)]; exact g3, by rw [vset_1 (by omega)]; omega, fun j hj => by rw [e1 _ (by omega) (by omega) (by omega) (by omega)]; exact g5 j hj, fun j hj => by rw [e1 _ (by omega) (by omega) (by omega) (by omega)]; exact g6 j hj, fun j hj => ?_⟩
    rw [e1 1 (by omega) (by omega) (by omega) (by omega)] at hj
    rw [e1 _ (by omega) (by omega) (by omega) (by omega)]; exact g7 j hj
  · exact funext fun j => by rw [hW2]; exact hi4 r j (.inl (by omega))
theorem C_deed {U : zCS} {r κ : Nat} {d : zV} {x : Nat → Nat} (h : isDay U (r + 12) d) (hD : DOK d) (hκ : κ < 5) (hc : (d 0 : Nat) < 40) (hx0 : x 0 < 100) (hx1 : κ ≠ 4 → x 1 < 100 ∧ (κ < 3 → x 1 < 8)) (r0 : U.2.1 (r + 24) 0 = J (x 0)) (r1 : κ ≠ 4 → U.2.1 (r + 24) 1 = J (x 1)) : ∃ U', gX4_take U r (J (9 + κ)) = some U' ∧ isDay U' (r + 12) (upD (9 + κ) x d) ∧ DOK (upD (9 + κ) x d) ∧ Ufr U U' (rdr r) ∧ U'.1 r = U.1 r := by
  obtain ⟨c, hcc⟩ : ∃ c, c = (d 0 : Nat) := ⟨_, rfl⟩
  obtain ⟨y, hy⟩ : ∃ y : Int32, y = if κ = 4 then NN else J (x 1) := ⟨_, rfl⟩
  obtain ⟨V1, hV1⟩ : ∃ V, V = csA U (r + 12 + 1) (upd (U.2.1 (r + 12 + 1)) c (J κ)) := ⟨_, rfl⟩
  obtain ⟨V2, hV2⟩ : ∃ V, V = csA V1 (r + 12 + 2) (upd (V1.2.1 (r + 12 + 2)) c (J (x 0))) := ⟨_, rfl⟩
  obtain ⟨V3, hV3⟩ : ∃ V, V = csA V2 (r + 12 + 3) (upd (V2.2.1 (r + 12 + 3)) c y) := ⟨_, rfl⟩
  have hi : V3.1 = U.1 := by rw [hV3, hV2, hV1]; rfl
  have hF : Ufr U V3 (rdr r) := by
    rw [hV3, hV2, hV1]
    exact Ufr_t (Ufr_A ⟨by omega, by omega⟩) (Ufr_t (Ufr_A ⟨by omega, by omega⟩) (Ufr_A ⟨by omega, by omega⟩))
  have a1 : V3.2.1 (r + 12 + 1) = upd (U.2.1 (r + 12 + 1)) c (J κ) := by rw [hV3, csA_o2 (by omega), hV2, csA_o2 (by omega), hV1, csA_1]
  have a2 : V3.2.1 (r + 12 + 2) = upd (U.2.1 (r + 12 + 2)) c (J (x 0)) := by rw [hV3, csA_o2 (by omega), hV2, csA_1, hV1, csA_o2 (by omega)]
  have a3 : V3.2.1 (r + 12 + 3) = upd (U.2.1 (r + 12 + 3)) c y := by rw [hV3, csA_1, hV2, csA_o2 (by omega), hV1, csA_o2 (by omega)]
  have hu0 : ((upD (9 + κ) x d) 0 : Nat) = c + 1 := by rw [upD_0 (by omega), hcc]
  have q1 : ((upD (9 + κ) x d) (1 + 3 * c) : Nat) = κ := by rw [hcc, upD_1 (by omega)]; omega
  have q2 : ((upD (9 + κ) x d) (2 + 3 * c) : Nat) = x 0 := by rw [hcc, upD_2 hx0]
  have q3 : κ ≠ 4 → ((upD (9 + κ) x d) (3 + 3 * c) : Nat) = x 1 := fun z => by rw [hcc, upD_3 (hx1 z).1]
  have qo : ∀ k, k < c → (upD (9 + κ) x d) (1 + 3 * k) = d (1 + 3 * k) ∧ (upD (9 + κ) x d) (2 + 3 * k) = d (2 + 3 * k) ∧ (upD (9 + κ) x d) (3 + 3 * k) = d (3 + 3 * k) := fun k hk => ⟨upD_o (by omega) (by omega) (by omega) (by omega), upD_o (by omega) (by omega) (by omega) (by omega), upD_o (by omega) (by omega) (by omega) (by omega)⟩
  refine ⟨csI V3 (r + 12) 0 (J (c + 1)), ?_, ⟨by rw [csI_1, hu0], fun k hk => ?_⟩, ⟨by rw [hu0]; omega, fun k hk => ?_⟩, Ufr_t hF (Ufr_I ⟨by omega, by omega⟩), ?_⟩
  · have ht : gX2_add U (r + 12) (J κ) (J (x 0)) y = some (csI V3 (r + 12) 0 (J (c + 1))) := by
      unfold gX2_add
      rw [h.1, ← hcc, if_pos (show J c < 40 by rw [show (40 : Int32) = J 40 from rfl, J_lt (by omega) (by omega)]; omega), zas_J (by omega) (by omega), wb1, wb1, ← hV1, show V1.1 (r + 12) 0 = J c by rw [hV1, csA_i, h.1, hcc], zas_J (by omega) (by omega), wb1, wb1, ← hV2, show V2.1 (r + 12) 0 = J c by rw [hV2, csA_i, hV1, csA_i, h.1, hcc], zas_J (by omega) (by omega), wb1, wb1, ← hV3, hi, h.1, ← hcc, show (J c + 1 : Int32) = J (c + 1) from J_add c 1, wb1]
    have hy2 : (if J (9 + κ) = 13 then some (-1) else zb1 (zag 3 (U.2.1 (r + 24)) 1) fun v17 => some v17 : Option Int32) = some y := by
      rw [hy]
      by_cases c4 : κ = 4
      · rw [if_pos (show J (9 + κ) = 13 by rw [c4]; rfl), if_pos c4]; rfl
      · rw [if_neg (show ¬ J (9 + κ) = 13 by rw [show (13 : Int32) = J 13 from rfl, J_eq (by omega) (by omega)]; omega), if_neg c4, show zag 3 (U.2.1 (r + 24)) 1 = some (J (x 1)) by rw [show (1 : Int32) = J 1 from rfl, zag_J (by omega) (by omega), r1 c4], wb1]
    unfold gX4_take
    rw [if_pos (show J (9 + κ) < 16 by rw [show (16 : Int32) = J 16 from rfl, J_lt (by omega) (by omega)]; omega), if_pos (show J (9 + κ) < 14 by rw [show (14 : Int32) = J 14 from rfl, J_lt (by omega) (by omega)]; omega), if_neg (show ¬ J (9 + κ) < 9 by rw [show (9 : Int32) = J 9 from rfl, J_lt (by omega) (by omega)]; omega), show zag 3 (U.2.1 (r + 24)) 0 = some (J (x 0)) by rw [show (0 : Int32) = J 0 from rfl, zag_J (by omega) (by omega), r0], wb1, hy2, wb1, show (J (9 + κ) - 9 : Int32) = J κ by rw [show (9 : Int32) = J 9 from rfl, J_sub (by omega), Nat.add_sub_cancel_left], ht]
    rfl
  · rw [hu0] at hk
    rw [csI_a, a1, a2, a3]
    by_cases hkc : k = c
    · subst hkc
      rw [upd_1, upd_1, upd_1, q1, q2]
      refine ⟨rfl, rfl, ?_⟩
      unfold sec
      rw [q1, hy]
      by_cases c4 : κ = 4
      · rw [if_pos c4, if_pos c4]
      · rw [if_neg c4, if_neg c4, q3 c4]
    · have ho := qo k (by omega)
      rw [upd_o hkc, upd_o hkc, upd_o hkc]
      unfold sec
      rw [ho.1, ho.2.1, ho.2.2]
      exact h.2 k (by omega)
  · rw [hu0] at hk
    by_cases hkc : k = c
    · subst hkc
      rw [q1]
      refine ⟨by omega, fun z => ?_⟩
      rw [q3 (by omega)]
      exact (hx1 (by omega)).2 z
    · have ho := qo k (by omega)
      rw [ho.1, ho.2.2]
      exact hD.2 k (by omega)
  · exact (funext fun j => csI_o2 (.inl (by omega))).trans (congrFun hi r)
theorem C_gave {U : zCS} {r : Nat} {l : zV} {x : Nat → Nat} (h : isLe U (r + 16) l) (hL : LOK l) (hc : (l 1 : Nat) < 10) (hx0 : x 0 < 8) (hx1 : x 1 < 8) (r0 : U.2.1 (r + 24) 0 = J (x 0)) (r1 : U.2.1 (r + 24) 1 = J (x 1)) : ∃ U', gX4_take U r (J 14) = some U' ∧ isLe U' (r + 16) (upL 14 x l) ∧ LOK (upL 14 x l) ∧ Ufr U U' (rdr r) ∧ U'.1 r = U.1 r := by
  obtain ⟨c, hcc⟩ : ∃ c, c = (l 1 : Nat) := ⟨_, rfl⟩
  have hu : upL 14 x l = vset (vset (vset l (2 + 2 * c) (x 0)) (3 + 2 * c) (x 1)) 1 (c + 1) := by rw [hcc]; exact if_pos rfl
  obtain ⟨V1, hV1⟩ : ∃ V, V = csA U (r + 16 + 1) (upd (U.2.1 (r + 16 + 1)) c (J (x 0))) := ⟨_, rfl⟩
  obtain ⟨V2, hV2⟩ : ∃ V, V = csA V1 (r + 16 + 2) (upd (V1.2.1 (r + 16 + 2)) c (J (x 1))) := ⟨_, rfl⟩
  have hi : V2.1 = U.1 := by rw [hV2, hV1]; rfl
  have hF : Ufr U V2 (rdr r) := by
    rw [hV2, hV1]
    exact Ufr_t (Ufr_A ⟨by omega, by omega⟩) (Ufr_A ⟨by omega, by omega⟩)
  have a1 : V2.2.1 (r + 16 + 1) = upd (U.2.1 (r + 16 + 1)) c (J (x 0)) := by rw [hV2, csA_o2 (by omega), hV1, csA_1]
  have a2 : V2.2.1 (r + 16 + 2) = upd (U.2.1 (r + 16 + 2)) c (J (x 1)) := by rw [hV2, csA_1, hV1, csA_o2 (by omega)]
  obtain ⟨w, hw⟩ : ∃ w, w = vset (vset (vset l (2 + 2 * c) (x 0)) (3 + 2 * c) (x 1)) 1 (c + 1) := ⟨_, rfl⟩
  rw [hu, ← hw]
  have w0 : w 0 = l 0 := by rw [hw, vset_o (by omega), vset_o (by omega), vset_o (by omega)]
  have w1 : (w 1 : Nat) = c + 1 := by rw [hw, vset_1 (by omega)]
  have w2 : (w (2 + 2 * c) : Nat) = x 0 := by rw [hw, vset_o (by omega), vset_o (by omega), vset_1 (by omega)]
  have w3 : (w (3 + 2 * c) : Nat) = x 1 := by rw [hw, vset_o (by omega), vset_1 (by omega)]
  have wo : ∀ k, k < c → w (2 + 2 * k) = l (2 + 2 * k) ∧ w (3 + 2 * k) = l (3 + 2 * k) := fun k hk => ⟨by rw [hw, vset_o (by omega), vset_o (by omega), vset_o (by omega)], by rw [hw, vset_o (by omega), vset_o (by omega), vset_o (by omega)]⟩
  refine ⟨csI V2 (r + 16) 1 (J (c + 1)), ?_, ⟨by rw [csI_o2 (.inr (by omega)), hi, w0]; exact h.1, by rw [csI_1, w1], fun k hk => ?_⟩, ⟨by rw [w0]; exact hL.1, by rw [w1]; omega, fun k hk => ?_⟩, Ufr_t hF (Ufr_I ⟨by omega, by omega⟩), ?_⟩
  · have ht : gX3_add U (r + 16) (J (x 0)) (J (x 1)) = some (csI V2 (r + 16) 1 (J (c + 1))) := by
      unfold gX3_add
      rw [h.2.1, ← hcc, if_pos (show J c < 10 by rw [show (10 : Int32) = J 10 from rfl, J_lt (by omega) (by omega)]; omega), zas_J (by omega) (by omega), wb1, wb1, ← hV1, show V1.1 (r + 16) 1 = J c by rw [hV1, csA_i, h.2.1, hcc], zas_J (by omega) (by omega), wb1, wb1, ← hV2, hi, h.2.1, ← hcc, show (J c + 1 : Int32) = J (c + 1) from J_add c 1, wb1]
    unfold gX4_take gX4_takeOfLesson
    rw [if_pos (show J 14 < 16 by decide), if_neg (show ¬ J 14 < 14 by decide), if_neg (show ¬ J 14 = 15 by decide), show zag 3 (U.2.1 (r + 24)) 0 = some (J (x 0)) by rw [show (0 : Int32) = J 0 from rfl, zag_J (by omega) (by omega), r0], wb1, show zag 3 (U.2.1 (r + 24)) 1 = some (J (x 1)) by rw [show (1 : Int32) = J 1 from rfl, zag_J (by omega) (by omega), r1], wb1, ht]
    rfl
  · rw [w1] at hk
    rw [csI_a, a1, a2]
    by_cases hkc : k = c
    · subst hkc
      rw [upd_1, upd_1, w2, w3]; exact ⟨rfl, rfl⟩
    · rw [upd_o hkc, upd_o hkc, (wo k (by omega)).1, (wo k (by omega)).2]
      exact h.2.2 k (by omega)
  · rw [w1] at hk
    by_cases hkc : k = c
    · subst hkc
      rw [w2, w3]; exact ⟨hx0, hx1⟩
    · rw [(wo k (by omega)).1, (wo k (by omega)).2]
      exact hL.2.2 k (by omega)
  · exact (funext fun j => csI_o2 (.inl (by omega))).trans (congrFun hi r)
theorem C_lies {U : zCS} {r : Nat} {l : zV} {x : Nat → Nat} (h : isLe U (r + 16) l) (hL : LOK l) (hx0 : x 0 ≤ 9) (r0 : U.2.1 (r + 24) 0 = J (x 0)) : ∃ U', gX4_take U r (J 15) = some U' ∧ isLe U' (r + 16) (upL 15 x l) ∧ LOK (upL 15 x l) ∧ Ufr U U' (rdr r) ∧ U'.1 r = U.1 r := by
  have hu : upL 15 x l = vset l 0 (x 0) := if_neg (by omega)
  rw [hu]
  refine ⟨csI U (r + 16) 0 (J (x 0)), ?_, ⟨by rw [csI_1, vset_1 (by omega)], by rw [csI_o2 (.inr (by omega)), vset_o (by omega)]; exact h.2.1, fun k hk => ?_⟩, ⟨by rw [vset_1 (by omega)]; exact hx0, by rw [vset_o (by omega)]; exact hL.2.1, fun k hk => ?_⟩, Ufr_I ⟨by omega, by omega⟩, funext fun j => csI_o2 (.inl (by omega))⟩
  · unfold gX4_take gX4_takeOfLesson
    rw [if_pos (show J 15 < 16 by decide), if_neg (show ¬ J 15 < 14 by decide), if_pos (show J 15 = 15 from rfl), show zag 3 (U.2.1 (r + 24)) 0 = some (J (x 0)) by rw [show (0 : Int32) = J 0 from rfl, zag_J (by omega) (by omega), r0], wb1]
    rfl
  · rw [vset_o (by omega)] at hk
    rw [csI_a, vset_o (by omega), vset_o (by omega)]; exact h.2.2 k hk
  · rw [vset_o (by omega)] at hk
    rw [vset_o (by omega), vset_o (by omega)]; exact hL.2.2 k hk
theorem C_fact {U : zCS} {r κ : Nat} {s : zV} {x : Nat → Nat} (h : isSi U (r + 19) s) (hS : SOK s) (hκ : κ < 2) (hc : (s 0 : Nat) < 8) (hx0 : x 0 < 100) (hx1 : x 1 < 100) (hx2 : x 2 < 8) (r0 : U.2.1 (r + 24) 0 = J (x 0)) (r1 : U.2.1 (r + 24) 1 = J (x 1)) (r2 : U.2.1 (r + 24) 2 = J (x 2)) : ∃ U', gX4_take U r (J (16 + κ)) = some U' ∧ isSi U' (r + 19) (upS (16 + κ) x s) ∧ SOK (upS (16 + κ) x s) ∧ Ufr U U' (rdr r) ∧ U'.1 r = U.1 r := by
  obtain ⟨c, hcc⟩ : ∃ c, c = (s 0 : Nat) := ⟨_, rfl⟩
  have hu : upS (16 + κ) x s = vset (vset (vset (vset (vset s (1 + 4 * c) κ) (2 + 4 * c) (x 0)) (3 + 4 * c) (x 1)) (4 + 4 * c) (x 2)) 0 (c + 1) := by
    unfold upS; rw [← hcc, Nat.add_sub_cancel_left]
  obtain ⟨V1, hV1⟩ : ∃ V, V = csA U (r + 19 + 1) (upd (U.2.1 (r + 19 + 1)) c (J κ)) := ⟨_, rfl⟩
  obtain ⟨V2, hV2⟩ : ∃ V, V = csA V1 (r + 19 + 2) (upd (V1.2.1 (r + 19 + 2)) c (J (x 0))) := ⟨_, rfl⟩
  obtain ⟨V3, hV3⟩ : ∃ V, V = csA V2 (r + 19 + 3) (upd (V2.2.1 (r + 19 + 3)) c (J (x 1))) := ⟨_, rfl⟩
  obtain ⟨V4, hV4⟩ : ∃ V, V = csA V3 (r + 19 + 4) (upd (V3.2.1 (r + 19 + 4)) c (J (x 2))) := ⟨_, rfl⟩
  have hi : V4.1 = U.1 := by rw [hV4, hV3, hV2, hV1]; rfl
  have hF : Ufr U V4 (rdr r) := by
    rw [hV4, hV3, hV2, hV1]
    exact Ufr_t (Ufr_A ⟨by omega, by omega⟩) (Ufr_t (Ufr_A ⟨by omega, by omega⟩) (Ufr_t (Ufr_A ⟨by omega, by omega⟩) (Ufr_A ⟨by omega, by omega⟩)))
  have a1 : V4.2.1 (r + 19 + 1) = upd (U.2.1 (r + 19 + 1)) c (J κ) := by rw [hV4, csA_o2 (by omega), hV3, csA_o2 (by omega), hV2, csA_o2 (by omega), hV1, csA_1]
  have a2 : V4.2.1 (r + 19 + 2) = upd (U.2.1 (r + 19 + 2)) c (J (x 0)) := by rw [hV4, csA_o2 (by omega), hV3, csA_o2 (by omega), hV2, csA_1, hV1, csA_o2 (by omega)]
  have a3 : V4.2.1 (r + 19 + 3) = upd (U.2.1 (r + 19 + 3)) c (J (x 1)) := by rw [hV4, csA_o2 (by omega), hV3, csA_1, hV2, csA_o2 (by omega), hV1, csA_o2 (by omega)]
  have a4 : V4.2.1 (r + 19 + 4) = upd (U.2.1 (r + 19 + 4)) c (J (x 2)) := by rw [hV4, csA_1, hV3, csA_o2 (by omega), hV2, csA_o2 (by omega), hV1, csA_o2 (by omega)]
  obtain ⟨w, hw⟩ : ∃ w, w = vset (vset (vset (vset (vset s (1 + 4 * c) κ) (2 + 4 * c) (x 0)) (3 + 4 * c) (x 1)) (4 + 4 * c) (x 2)) 0 (c + 1) := ⟨_, rfl⟩
  rw [hu, ← hw]
  have w0 : (w 0 : Nat) = c + 1 := by rw [hw, vset_1 (by omega)]
  have w1 : (w (1 + 4 * c) : Nat) = κ := by rw [hw, vset_o (by omega), vset_o (by omega), vset_o (by omega), vset_o (by omega), vset_1 (by omega)]
  have w2 : (w (2 + 4 * c) : Nat) = x 0 := by rw [hw, vset_o (by omega), vset_o (by omega), vset_o (by omega), vset_1 (by omega)]
  have w3 : (w (3 + 4 * c) : Nat) = x 1 := by rw [hw, vset_o (by omega), vset_o (by omega), vset_1 (by omega)]
  have w4 : (w (4 + 4 * c) : Nat) = x 2 := by rw [hw, vset_o (by omega), vset_1 (by omega)]
  have wo : ∀ k, k < c → ∀ j, 1 ≤ j → j < 5 → w (j + 4 * k) = s (j + 4 * k) := fun k hk j h1 h2 => by rw [hw, vset_o (by omega), vset_o (by omega), vset_o (by omega), vset_o (by omega), vset_o (by omega)]
  refine ⟨csI V4 (r + 19) 0 (J (c + 1)), ?_, ⟨by rw [csI_1, w0], fun k hk => ?_⟩, ⟨by rw [w0]; omega, fun k hk => ?_⟩, Ufr_t hF (Ufr_I ⟨by omega, by omega⟩), ?_⟩
  · have ht : gX6_add U (r + 19) (J κ) (J (x 0)) (J (x 1)) (J (x 2)) = some (csI V4 (r + 19) 0 (J (c + 1))) := by
      unfold gX6_add
      rw [h.1, ← hcc, if_pos (show J c < 8 by rw [show (8 : Int32) = J 8 from rfl, J_lt (by omega) (by omega)]; omega), zas_J (by omega) (by omega), wb1, wb1, ← hV1, show V1.1 (r + 19) 0 = J c by rw [hV1, csA_i, h.1, hcc], zas_J (by omega) (by omega), wb1, wb1, ← hV2, show V2.1 (r + 19) 0 = J c by rw [hV2, csA_i, hV1, csA_i, h.1, hcc], zas_J (by omega) (by omega), wb1, wb1, ← hV3, show V3.1 (r + 19) 0 = J c by rw [hV3, csA_i, hV2, csA_i, hV1, csA_i, h.1, hcc], zas_J (by omega) (by omega), wb1, wb1, ← hV4, hi, h.1, ← hcc, show (J c + 1 : Int32) = J (c + 1) from J_add c 1, wb1]
    unfold gX4_take
    rw [if_neg (show ¬ J (16 + κ) < 16 by rw [show (16 : Int32) = J 16 from rfl, J_lt (by omega) (by omega)]; omega), show zag 3 (U.2.1 (r + 24)) 0 = some (J (x 0)) by rw [show (0 : Int32) = J 0 from rfl, zag_J (by omega) (by omega), r0], wb1, show zag 3 (U.2.1 (r + 24)) 1 = some (J (x 1)) by rw [show (1 : Int32) = J 1 from rfl, zag_J (by omega) (by omega), r1], wb1, show zag 3 (U.2.1 (r + 24)) 2 = some (J (x 2)) by rw [show (2 : Int32) = J 2 from rfl, zag_J (by omega) (by omega), r2], wb1, show (J (16 + κ) - 16 : Int32) = J κ by rw [show (16 : Int32) = J 16 from rfl, J_sub (by omega), Nat.add_sub_cancel_left], ht]
    rfl
  · rw [w0] at hk
    rw [csI_a, a1, a2, a3, a4]
    by_cases hkc : k = c
    · subst hkc
      rw [upd_1, upd_1, upd_1, upd_1, w1, w2, w3, w4]; exact ⟨rfl, rfl, rfl, rfl⟩
    · rw [upd_o hkc, upd_o hkc, upd_o hkc, upd_o hkc, wo k (by omega) 1 (by omega) (by omega), wo k (by omega) 2 (by omega) (by omega), wo k (by omega) 3 (by omega) (by omega), wo k (by omega) 4 (by omega) (by omega)]
      exact h.2 k (by omega)
  · rw [w0] at hk
    by_cases hkc : k = c
    · subst hkc
      rw [w1, w4]; exact ⟨by omega, hx2⟩
    · rw [wo k (by omega) 1 (by omega) (by omega), wo k (by omega) 4 (by omega) (by omega)]
      exact hS.2 k (by omega)
  · exact (funext fun j => csI_o2 (.inl (by omega))).trans (congrFun hi r)
