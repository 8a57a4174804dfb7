/-! texts: the class takes a line of a valley -/
theorem any_cg {p q : Nat → Bool} : ∀ n, (∀ j, j < n → p j = q j) → (List.range n).any p = (List.range n).any q := by
  intro n h
  rw [any_fst, any_fst]
  cases h1 : fstI p n with
  | none =>
    have a1 := fstI_n h1
    cases h2 : fstI q n with
    | none => rfl
    | some k =>
      obtain ⟨b1, b2, -⟩ := fstI_s h2
      have := a1 k b1
      rw [h k b1, b2] at this
      cases this
  | some k =>
    obtain ⟨b1, b2, -⟩ := fstI_s h1
    cases h2 : fstI q n with
    | some _ => rfl
    | none =>
      have := fstI_n h2 k b1
      rw [← h k b1, b2] at this
      cases this
theorem any_sc {p : Nat → Bool} {n : Nat} : (List.range (n + 1)).any p = ((List.range n).any p || p n) := by
  rw [List.range_succ, List.any_append, List.any_cons, List.any_nil, Bool.or_false]
theorem skyB_c {v v' : zV} {s m : Nat} (h2 : v' 2 = v 2) (hb : (v 2 : Nat) ≤ 4) (h : ∀ j, 45 ≤ j → j < 57 → v' j = v j) : skyB v' s m = skyB v s m := by
  unfold skyB
  rw [h2]
  exact any_cg _ (fun j hj => by rw [h (45 + j) (by omega) (by omega), h (49 + j) (by omega) (by omega), h (53 + j) (by omega) (by omega)])
/-- a draft of a valley: its people may stand beyond its end -/
def VOKd (v : zV) : Prop := 2 ≤ (v 0 : Nat) ∧ (v 0 : Nat) ≤ 30 ∧ (v 1 : Nat) ≤ 6 ∧ (v 2 : Nat) ≤ 4 ∧ (∀ j, j < 8 → (v (3 + j) : Nat) < 8) ∧ (∀ j, j < 8 → (v (11 + j) : Nat) < 10) ∧ (∀ j, j < (v 1 : Nat) → (v (27 + j) : Nat) ≤ 2)
theorem VOKd_ok {v : zV} (h : VOKd v) (hp : ∀ j, j < (v 1 : Nat) → (v (33 + j) : Nat) ≤ (v 0 : Nat)) : VOK v := ⟨h.1, h.2.1, h.2.2.1, h.2.2.2.1, h.2.2.2.2.1, h.2.2.2.2.2.1, fun j hj => ⟨h.2.2.2.2.2.2 j hj, hp j hj⟩⟩
def inV (L : Nat) (x : Nat → Nat) : Prop := outB L x 0 = false ∧ (2 ≤ nu L → outB L x 1 = false)
abbrev rdr (r : Nat) : Nat → Prop := fun q => r ≤ q ∧ q ≤ r + 25
theorem C_wide {U : zCS} {r : Nat} {v : zV} {x : Nat → Nat} (h : isVal U (r + 1) v) (hV : VOKd v) (hx0 : x 0 < 100) (hin : 2 ≤ x 0 ∧ x 0 ≤ 30) (r0 : U.2.1 (r + 24) 0 = J (x 0)) : ∃ U', gX4_take U r (J 0) = some U' ∧ isVal U' (r + 1) (upV 0 x v) ∧ VOKd (upV 0 x v) ∧ Ufr U U' (rdr r) ∧ U'.1 r = U.1 r := by
  have hu : upV 0 x v = vset v 0 (x 0) := if_pos rfl
  obtain ⟨h1, h2, h3, h4, h5, h6, h7, h8, h9⟩ := h
  obtain ⟨g1, g2, g3, g4, g5, g6, g7⟩ := hV
  refine ⟨csI U (r + 1) 0 (J (x 0)), ?_, ?_, ?_, Ufr_I ⟨by omega, by omega⟩, ?_⟩
  · unfold gX4_take gX4_takeOfValley
    rw [if_pos (show J 0 < 16 by decide), if_pos (show J 0 < 14 by decide), if_pos (show J 0 < 9 by decide), if_pos (show J 0 < 7 by decide), if_pos (show J 0 < 4 by decide), if_pos (show J 0 = 0 from rfl), show zag 3 (U.2.1 (r + 24)) 0 = some (J (x 0)) by rw [show (0 : Int32) = J 0 from rfl, zag_J (by omega) (by omega), r0]]
    rfl
  · rw [hu]
    refine ⟨by rw [csI_1, vset_1 hx0], by rw [csI_o2 (.inr (by omega)), vset_o (by omega)]; exact h2, by rw [csI_o2 (.inr (by omega)), vset_o (by omega)]; exact h3, fun j hj => by rw [vset_o (by omega)]; exact h4 j hj, fun j hj => by rw [vset_o (by omega)]; exact h5 j hj, fun j hj => by rw [vset_o (by omega)]; exact h6 j hj, fun j hj => ?_, fun j hj => ?_, fun m hm => ?_⟩
    · rw [vset_o (by omega)] at hj
      rw [vset_o (by omega), vset_o (by omega), vset_o (by omega)]; exact h7 j hj
    · rw [vset_o (by omega)] at hj
      rw [vset_o (by omega), vset_o (by omega), vset_o (by omega)]; exact h8 j hj
    · rw [skyB_c (vset_o (by omega)) g4 (fun j h1 h2 => vset_o (by omega)), skyB_c (vset_o (by omega)) g4 (fun j h1 h2 => vset_o (by omega))]; exact h9 m hm
  · rw [hu]
    refine ⟨by rw [vset_1 hx0]; exact hin.1, by rw [vset_1 hx0]; exact hin.2, by rw [vset_o (by omega)]; exact g3, by rw [vset_o (by omega)]; exact g4, fun j hj => by rw [vset_o (by omega)]; exact g5 j hj, fun j hj => by rw [vset_o (by omega)]; exact g6 j hj, fun j hj => ?_⟩
    rw [vset_o (by omega)] at hj
    rw [vset_o (by omega)]; exact g7 j hj
  · exact funext fun j => csI_o2 (.inl (by omega))
theorem C_word {U : zCS} {r L : Nat} {v : zV} {x : Nat → Nat} (h : isVal U (r + 1) v) (hV : VOKd v) (hL1 : 1 ≤ L) (hL : L < 4) (hx1 : x 1 < 100) (hin : x 0 ≤ 7 ∧ x 1 ≤ hiW L) (r0 : U.2.1 (r + 24) 0 = J (x 0)) (r1 : U.2.1 (r + 24) 1 = J (x 1)) : ∃ U', gX4_take U r (J L) = some U' ∧ isVal U' (r + 1) (upV L x v) ∧ VOKd (upV L x v) ∧ Ufr U U' (rdr r) ∧ U'.1 r = U.1 r := by
  have hu : upV L x v = vset v (8 * L - 5 + x 0) (x 1) := by unfold upV; rw [if_neg (by omega), if_pos hL]
  obtain ⟨h1, h2, h3, h4, h5, h6, h7, h8, h9⟩ := h
  obtain ⟨g1, g2, g3, g4, g5, g6, g7⟩ := hV
  have hw : gX11_isWord (J (x 0)) = some 1 := by
    unfold gX11_isWord
    rw [if_neg (show ¬ J (x 0) < 0 by rw [show (0 : Int32) = J 0 from rfl, J_lt (by omega) (by omega)]; omega), if_neg (show ¬ 8 ≤ J (x 0) by rw [show (8 : Int32) = J 8 from rfl, J_le (by omega) (by omega)]; omega)]
    rfl
  refine ⟨csA U (r + 1 + L) (upd (U.2.1 (r + 1 + L)) (x 0) (J (x 1))), ?_, ?_, ?_, Ufr_A ⟨by omega, by omega⟩, rfl⟩
  · have ht : gX4_takeOfWord U r (J L) (J (x 0)) (J (x 1)) = some (csA U (r + 1 + L) (upd (U.2.1 (r + 1 + L)) (x 0) (J (x 1)))) := by
      unfold gX4_takeOfWord
      match L, hL1, hL with
      | 1, _, _ => rw [if_pos (show J 1 = 1 from rfl), zas_J (by omega) (by omega)]; rfl
      | 2, _, _ => rw [if_neg (show ¬ J 2 = 1 by decide), if_pos (show J 2 = 2 from rfl), zas_J (by omega) (by omega)]; rfl
      | 3, _, _ => rw [if_neg (show ¬ J 3 = 1 by decide), if_neg (show ¬ J 3 = 2 by decide), if_pos (show J 3 = 3 from rfl), zas_J (by omega) (by omega)]; rfl
    unfold gX4_take gX4_takeOfValley
    rw [if_pos (show J L < 16 by rw [show (16 : Int32) = J 16 from rfl, J_lt (by omega) (by omega)]; omega), if_pos (show J L < 14 by rw [show (14 : Int32) = J 14 from rfl, J_lt (by omega) (by omega)]; omega), if_pos (show J L < 9 by rw [show (9 : Int32) = J 9 from rfl, J_lt (by omega) (by omega)]; omega), if_pos (show J L < 7 by rw [show (7 : Int32) = J 7 from rfl, J_lt (by omega) (by omega)]; omega), if_pos (show J L < 4 by rw [show (4 : Int32) = J 4 from rfl, J_lt (by omega) (by omega)]; omega), if_neg (show ¬ J L = 0 by rw [show (0 : Int32) = J 0 from rfl, J_eq (by omega) (by omega)]; omega), show zag 3 (U.2.1 (r + 24)) 0 = some (J (x 0)) by rw [show (0 : Int32) = J 0 from rfl, zag_J (by omega) (by omega), r0], wb1, hw, wb1, if_neg (show ¬ (1 : Int32) = 0 by decide), wb1, show zag 3 (U.2.1 (r + 24)) 1 = some (J (x 1)) by rw [show (1 : Int32) = J 1 from rfl, zag_J (by omega) (by omega), r1], wb1, ht]
    rfl
  · rw [hu]
    have hrow : ∀ K, 1 ≤ K → K < 4 → (∀ j, j < 8 → U.2.1 (r + 1 + K) j = J (v (8 * K - 5 + j))) → ∀ j, j < 8 → (csA U (r + 1 + L) (upd (U.2.1 (r + 1 + L)) (x 0) (J (x 1)))).2.1 (r + 1 + K) j = J (vset v (8 * L - 5 + x 0) (x 1) (8 * K - 5 + j)) := by
      intro K hK1 hK hr j hj
      by_cases hKL : K = L
      · subst hKL
        rw [csA_1]
        by_cases hjx : j = x 0
        · subst hjx; rw [upd_1, vset_1 hx1]
        · rw [upd_o hjx, vset_o (by omega)]; exact hr j hj
      · rw [csA_o2 (by omega), vset_o (by omega)]; exact hr j hj
    have w1 := hrow 1 (by omega) (by omega) h4
    have w2 := hrow 2 (by omega) (by omega) h5
    have w3 := hrow 3 (by omega) (by omega) h6
    refine ⟨by rw [vset_o (by omega)]; exact h1, by rw [vset_o (by omega)]; exact h2, by rw [vset_o (by omega)]; exact h3, w1, w2, w3, fun j hj => ?_, fun j hj => ?_, fun m hm => ?_⟩
    · rw [vset_o (by omega)] at hj
      rw [vset_o (by omega), vset_o (by omega), vset_o (by omega), csA_o2 (by omega), csA_o2 (by omega), csA_o2 (by omega)]; exact h7 j hj
    · rw [vset_o (by omega)] at hj
      rw [vset_o (by omega), vset_o (by omega), vset_o (by omega), csA_o2 (by omega), csA_o2 (by omega), csA_o2 (by omega)]; exact h8 j hj
    · rw [csA_o2 (by omega), skyB_c (vset_o (by omega)) g4 (fun j h1 h2 => vset_o (by omega)), skyB_c (vset_o (by omega)) g4 (fun j h1 h2 => vset_o (by omega))]; exact h9 m hm
  · rw [hu]
    have hh : hiW 1 = 7 ∧ hiW 2 = 9 := ⟨rfl, rfl⟩
    refine ⟨by rw [vset_o (by omega)]; exact g1, by rw [vset_o (by omega)]; exact g2, by rw [vset_o (by omega)]; exact g3, by rw [vset_o (by omega)]; exact g4, fun j hj => ?_, fun j hj => ?_, fun j hj => ?_⟩
    · by_cases c : 3 + j = 8 * L - 5 + x 0
      · have hL1' : L = 1 := by omega
        rw [c, vset_1 hx1]
        rw [hL1', hh.1] at hin
        omega
      · rw [vset_o c]; exact g5 j hj
    · by_cases c : 11 + j = 8 * L - 5 + x 0
      · have hL1' : L = 2 := by omega
        rw [c, vset_1 hx1]
        rw [hL1', hh.2] at hin
        omega
      · rw [vset_o c]; exact g6 j hj
    · rw [vset_o (by omega)] at hj
      rw [vset_o (by omega)]; exact g7 j hj
theorem C_person {U : zCS} {r κ : Nat} {v : zV} {x : Nat → Nat} (h : isVal U (r + 1) v) (hV : VOKd v) (hκ : κ < 3) (hc : (v 1 : Nat) < 6) (hx0 : x 0 < 100) (hx1 : x 1 < 100) (r0 : U.2.1 (r + 24) 0 = J (x 0)) (r1 : U.2.1 (r + 24) 1 = J (x 1)) : ∃ U', gX4_take U r (J (4 + κ)) = some U' ∧ isVal U' (r + 1) (upV (4 + κ) x v) ∧ VOKd (upV (4 + κ) x v) ∧ Ufr U U' (rdr r) ∧ U'.1 r = U.1 r := by
  obtain ⟨c, hcc⟩ : ∃ c, c = (v 1 : Nat) := ⟨_, rfl⟩
  have hu : upV (4 + κ) x v = vset (vset (vset (vset v (27 + c) κ) (33 + c) (x 0)) (39 + c) (x 1)) 1 (c + 1) := by
    unfold upV; rw [if_neg (by omega), if_neg (by omega), if_pos (by omega), ← hcc, Nat.add_sub_cancel_left]
  obtain ⟨h1, h2, h3, h4, h5, h6, h7, h8, h9⟩ := h
  obtain ⟨g1, g2, g3, g4, g5, g6, g7⟩ := hV
  obtain ⟨V1, hV1⟩ : ∃ V, V = csA U (r + 1 + 4) (upd (U.2.1 (r + 1 + 4)) c (J κ)) := ⟨_, rfl⟩
  obtain ⟨V2, hV2⟩ : ∃ V, V = csA V1 (r + 1 + 5) (upd (V1.2.1 (r + 1 + 5)) c (J (x 0))) := ⟨_, rfl⟩
  obtain ⟨V3, hV3⟩ : ∃ V, V = csA V2 (r + 1 + 6) (upd (V2.2.1 (r + 1 + 6)) c (J (x 1))) := ⟨_, rfl⟩
  have hi : V3.1 = U.1 := by rw [hV3, hV2, hV1]; rfl
  have hF : Ufr U V3 (rdr r) := by
    rw [hV3, hV2, hV1]
    exact Ufr_t (Ufr_A ⟨by omega, by omega⟩) (Ufr_t (Ufr_A ⟨by omega, by omega⟩) (Ufr_A ⟨by omega, by omega⟩))
  have a4 : V3.2.1 (r + 1 + 4) = upd (U.2.1 (r + 1 + 4)) c (J κ) := by rw [hV3, csA_o2 (by omega), hV2, csA_o2 (by omega), hV1, csA_1]
  have a5 : V3.2.1 (r + 1 + 5) = upd (U.2.1 (r + 1 + 5)) c (J (x 0)) := by rw [hV3, csA_o2 (by omega), hV2, csA_1, hV1, csA_o2 (by omega)]
  have a6 : V3.2.1 (r + 1 + 6) = upd (U.2.1 (r + 1 + 6)) c (J (x 1)) := by rw [hV3, csA_1, hV2, csA_o2 (by omega), hV1, csA_o2 (by omega)]
  have ao : ∀ q, q ≠ r + 1 + 4 → q ≠ r + 1 + 5 → q ≠ r + 1 + 6 → V3.2.1 q = U.2.1 q := fun q z1 z2 z3 => by rw [hV3, csA_o2 z3, hV2, csA_o2 z2, hV1, csA_o2 z1]
  refine ⟨csI V3 (r + 1) 4 (J (c + 1)), ?_, ?_, ?_, Ufr_t hF (Ufr_I ⟨by omega, by omega⟩), ?_⟩
  · have ht : gX9_addPerson U (r + 1) (J κ) (J (x 0)) (J (x 1)) = some (csI V3 (r + 1) 4 (J (c + 1))) := by
      unfold gX9_addPerson
      rw [h2, ← hcc, if_pos (show J c < 6 by rw [show (6 : Int32) = J 6 from rfl, J_lt (by omega) (by omega)]; omega), zas_J (by omega) (by omega), wb1, wb1, ← hV1, show V1.1 (r + 1) 4 = J c by rw [hV1, csA_i, h2, hcc], zas_J (by omega) (by omega), wb1, wb1, ← hV2, show V2.1 (r + 1) 4 = J c by rw [hV2, csA_i, hV1, csA_i, h2, hcc], zas_J (by omega) (by omega), wb1, wb1, ← hV3, hi, h2, ← hcc, show (J c + 1 : Int32) = J (c + 1) from J_add c 1, wb1]
    unfold gX4_take gX4_takeOfValley
    rw [if_pos (show J (4 + κ) < 16 by rw [show (16 : Int32) = J 16 from rfl, J_lt (by omega) (by omega)]; omega), if_pos (show J (4 + κ) < 14 by rw [show (14 : Int32) = J 14 from rfl, J_lt (by omega) (by omega)]; omega), if_pos (show J (4 + κ) < 9 by rw [show (9 : Int32) = J 9 from rfl, J_lt (by omega) (by omega)]; omega), if_pos (show J (4 + κ) < 7 by rw [show (7 : Int32) = J 7 from rfl, J_lt (by omega) (by omega)]; omega), if_neg (show ¬ J (4 + κ) < 4 by rw [show (4 : Int32) = J 4 from rfl, J_lt (by omega) (by omega)]; omega), show zag 3 (U.2.1 (r + 24)) 0 = some (J (x 0)) by rw [show (0 : Int32) = J 0 from rfl, zag_J (by omega) (by omega), r0], wb1, show zag 3 (U.2.1 (r + 24)) 1 = some (J (x 1)) by rw [show (1 : Int32) = J 1 from rfl, zag_J (by omega) (by omega), r1], wb1, show (J (4 + κ) - 4 : Int32) = J κ by rw [show (4 : Int32) = J 4 from rfl, J_sub (by omega), Nat.add_sub_cancel_left], ht]
    rfl
  · rw [hu]
    have e1 : ∀ j, j ≠ 1 → j ≠ 27 + c → j ≠ 33 + c → j ≠ 39 + c → (vset (vset (vset (vset v (27 + c) κ) (33 + c) (x 0)) (39 + c) (x 1)) 1 (c + 1)) j = v j := fun j z1 z2 z3 z4 => by rw [vset_o z1, vset_o z4, vset_o z3, vset_o z2]
    have ci : ∀ j, j ≠ 4 → (csI V3 (r + 1) 4 (J (c + 1))).1 (r + 1) j = U.1 (r + 1) j := fun j z => by rw [csI_o2 (.inr z), hi]
    refine ⟨by rw [ci 0 (by omega), e1 0 (by omega) (by omega) (by omega) (by omega)]; exact h1, by rw [csI_1, vset_1 (by omega)], by rw [ci 8 (by omega), e1 2 (by omega) (by omega) (by omega) (by omega)]; exact h3, fun j hj => ?_, fun j hj => ?_, fun j hj => ?_, fun j hj => ?_, fun j hj => ?_, fun m hm => ?_⟩
    · rw [csI_a, ao _ (by omega) (by omega) (by omega), e1 _ (by omega) (by omega) (by omega) (by omega)]; exact h4 j hj
    · rw [csI_a, ao _ (by omega) (by omega) (by omega), e1 _ (by omega) (by omega) (by omega) (by omega)]; exact h5 j hj
    · rw [csI_a, ao _ (by omega) (by omega) (by omega), e1 _ (by omega) (by omega) (by omega) (by omega)]; exact h6 j hj
    · rw [vset_1 (by omega)] at hj
      rw [csI_a, a4, a5, a6]
      by_cases hjc : j = c
      · subst hjc
        rw [upd_1, upd_1, upd_1]
        refine ⟨?_, ?_, ?_⟩
        · rw [vset_o (by omega), vset_o (by omega), vset_o (by omega), vset_1 (by omega)]
        · rw [vset_o (by omega), vset_o (by omega), vset_1 hx0]
        · rw [vset_o (by omega), vset_1 hx1]
      · rw [upd_o hjc, upd_o hjc, upd_o hjc, e1 _ (by omega) (by omega) (by omega) (by omega), e1 _ (by omega) (by omega) (by omega) (by omega), e1 _ (by omega) (by omega) (by omega) (by omega)]
        exact h7 j (by omega)
    · rw [e1 2 (by omega) (by omega) (by omega) (by omega)] at hj
      rw [csI_a, ao _ (by omega) (by omega) (by omega), ao _ (by omega) (by omega) (by omega), ao _ (by omega) (by omega) (by omega), e1 _ (by omega) (by omega) (by omega) (by omega), e1 _ (by omega) (by omega) (by omega) (by omega), e1 _ (by omega) (by omega) (by omega) (by omega)]
      exact h8 j hj
    · rw [csI_a, ao _ (by omega) (by omega) (by omega), skyB_c (e1 2 (by omega) (by omega) (by omega) (by omega)) g4 (fun j z1 z2 => e1 j (by omega) (by omega) (by omega) (by omega)), skyB_c (e1 2 (by omega) (by omega) (by omega) (by omega)) g4 (fun j z1 z2 => e1 j (by omega) (by omega) (by omega) (by omega))]
      exact h9 m hm
  · rw [hu]
    have e1 : ∀ j, j ≠ 1 → j ≠ 27 + c → j ≠ 33 + c → j ≠ 39 + c → (vset (vset (vset (vset v (27 + c) κ) (33 + c) (x 0)) (39 + c) (x 1)) 1 (c + 1)) j = v j := fun j z1 z2 z3 z4 => by rw [vset_o z1, vset_o z4, vset_o z3, vset_o z2]
    refine ⟨by rw [e1 0 (by omega) (by omega) (by omega) (by omega)]; exact g1, by rw [e1 0 (by omega) (by omega) (by omega) (by omega)]; exact g2, by rw [vset_1 (by omega)]; omega, by rw [e1 2 (by omega) (by omega) (by omega) (by omega)]; exact g4, fun j hj => by rw [e1 _ (by omega) (by omega) (by omega) (by omega)]; exact g5 j hj, fun j hj => by rw [e1 _ (by omega) (by omega) (by omega) (by omega)]; exact g6 j hj, fun j hj => ?_⟩
    rw [vset_1 (by omega)] at hj
    by_cases hjc : j = c
    · subst hjc
      rw [vset_o (by omega), vset_o (by omega), vset_o (by omega), vset_1 (by omega)]; omega
    · rw [e1 _ (by omega) (by omega) (by omega) (by omega)]; exact g7 j (by omega)
  · exact (funext fun j => csI_o2 (.inl (by omega))).trans (congrFun hi r)
