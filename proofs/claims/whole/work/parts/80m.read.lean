/-! texts: all lines, both sides -/
theorem J_lines {ν : zM} {sh : Nat → Nat} {r n σ : Nat} {t : Nat → Nat} (h4 : isX4 sh r) (hst : stOk ν sh) (hx : txOk ν sh) (hσ : σ < 4) : ∀ m (U : zCS) (M : zMS) i f lines, n - Sk t n i ≤ m → lines ≤ Sk t n i → JT σ U M r t n i f → ∃ U' M' b, (∀ N, m + 2 ≤ N → zf2 (fX4_read_l39 r (J σ)) N (J lines) (cmem ν sh U) = some (cmem ν sh U')) ∧ (∀ N, m + 2 ≤ N → zf2 (gX12_lines_l2 (J σ)) N 1 M = some (bJ b, M')) ∧ Ufr U U' (rdr r) ∧ Msame M M' ∧ ((b = false ∧ ∃ p, U'.1 r 4 = J 1 ∧ U'.1 r 5 = J p ∧ M'.1 16 = J p) ∨ (b = true ∧ ∃ i' f', JT σ U' M' r t n i' f' ∧ Kk t n i' = 0)) := by
  have hend : ∀ (U : zCS) (M : zMS) i f lines, lines ≤ Sk t n i → JT σ U M r t n i f → Kk t n i = 0 → (∀ F, fX4_read_l39 r (J σ) F (J lines) (cmem ν sh U) = some (cmem ν sh U)) ∧ ∀ F, gX12_lines_l2 (J σ) F 1 M = some (bJ true, M) := by
    intro U M i f lines hl hJ hk
    obtain ⟨hC, hR, -⟩ := hJ
    have hS := Sk_p (t := t) hC.2.1
    have hn := hC.1
    refine ⟨fun F => ?_, fun F => ?_⟩
    · unfold fX4_read_l39
      rw [cgr_X4_7 h4, wb1, hC.2.2.1, if_neg (show ¬ J n < J lines by rw [J_lt (by omega) (by omega)]; omega), cgr_X4_8 h4, wb1, hC.2.2.2.1, hk, if_pos (show J 0 = 0 from rfl)]
    · unfold gX12_lines_l2
      rw [if_neg (show ¬ (1 : Int32) = 0 by decide), hR.2.2.2.2.1, hk, if_pos (show J (kmp 0) = 0 from rfl)]; rfl
  intro m
  induction m with
  | zero =>
    intro U M i f lines hm hl hJ
    have hS := Sk_p (t := t) hJ.1.2.1
    have hk : Kk t n i = 0 := (Ek_p (t := t) hJ.1.2.1).2.2.2.mpr (by omega)
    obtain ⟨e1, e2⟩ := hend U M i f lines hl hJ hk
    refine ⟨U, M, true, fun N hN => ?_, fun N hN => ?_, Ufr_r, Msame_r, .inr ⟨rfl, i, f, hJ, hk⟩⟩
    · obtain ⟨N', rfl⟩ : ∃ N', N = N' + 1 := ⟨N - 1, by omega⟩
      exact e1 _
    · obtain ⟨N', rfl⟩ : ∃ N', N = N' + 1 := ⟨N - 1, by omega⟩
      exact e2 _
  | succ m ih =>
    intro U M i f lines hm hl hJ
    have hS := Sk_p (t := t) hJ.1.2.1
    by_cases hk : Kk t n i = 0
    · obtain ⟨e1, e2⟩ := hend U M i f lines hl hJ hk
      refine ⟨U, M, true, fun N hN => ?_, fun N hN => ?_, Ufr_r, Msame_r, .inr ⟨rfl, i, f, hJ, hk⟩⟩
      · obtain ⟨N', rfl⟩ : ∃ N', N = N' + 1 := ⟨N - 1, by omega⟩
        exact e1 _
      · obtain ⟨N', rfl⟩ : ∃ N', N = N' + 1 := ⟨N - 1, by omega⟩
        exact e2 _
    · have hK := Kk_n0 hJ.1.2.1 hk
      have hKle := @Kk_le t n i
      have hn := hJ.1.1
      have hEn := (Ek_p (t := t) hJ.1.2.1).2.1
      obtain ⟨U1, a1, a2, a3⟩ := J_line h4 hst hx hσ hJ hk
      have hstep : ∀ F, fX4_read_l39 r (J σ) F (J lines) (cmem ν sh U) = F (J (lines + 1)) (cmem ν sh U1) := by
        intro F
        unfold fX4_read_l39
        rw [cgr_X4_7 h4, wb1, hJ.1.2.2.1, if_neg (show ¬ J n < J lines by rw [J_lt (by omega) (by omega)]; omega), cgr_X4_8 h4, wb1, hJ.1.2.2.2.1, if_neg (show ¬ J (Kk t n i) = 0 by rw [show (0 : Int32) = J 0 from rfl, J_eq (by omega) (by omega)]; exact hk), cgr_X4_4 h4, wb1, hJ.2.2.2.1.1, if_neg (show ¬ J f.1 = 1 by rw [show (1 : Int32) = J 1 from rfl, J_eq (by have := hJ.2.2.2.2.1; omega) (by omega)]; exact hJ.2.2.2.2.2.1), a1, wb1]
        show F (J lines + J 1) _ = _
        rw [J_add]
      rcases a3 with ⟨p, M1, b1, b2, b3, b4, b5⟩ | ⟨M1, f1, i1, b1, b2, b3, b4, b5⟩
      · refine ⟨U1, M1, false, fun N hN => ?_, fun N hN => ?_, a2, b2, .inl ⟨rfl, p, b3, b4, b5⟩⟩
        · obtain ⟨N', rfl⟩ : ∃ N', N = N' + 1 + 1 := ⟨N - 2, by omega⟩
          show fX4_read_l39 r (J σ) (zf2 (fX4_read_l39 r (J σ)) (N' + 1)) (J lines) (cmem ν sh U) = _
          rw [hstep]
          show fX4_read_l39 r (J σ) (zf2 (fX4_read_l39 r (J σ)) N') (J (lines + 1)) (cmem ν sh U1) = _
          unfold fX4_read_l39
          rw [cgr_X4_7 h4, wb1, cgr_X4_8 h4, wb1, cgr_X4_4 h4, wb1, b3, if_pos (show J 1 = 1 from rfl), ite_self, ite_self]
        · obtain ⟨N', rfl⟩ : ∃ N', N = N' + 1 + 1 := ⟨N - 2, by omega⟩
          show gX12_lines_l2 (J σ) (zf2 (gX12_lines_l2 (J σ)) (N' + 1)) 1 M = _
          rw [b1]
          show gX12_lines_l2 (J σ) (zf2 (gX12_lines_l2 (J σ)) N') 0 M1 = _
          unfold gX12_lines_l2
          rw [if_pos rfl]; rfl
      · have hS1 := Sk_p (t := t) b3.1.2.1
        obtain ⟨U', M', b, c1, c2, c3, c4, c5⟩ := ih U1 M1 i1 f1 (lines + 1) (by omega) (by omega) b3
        refine ⟨U', M', b, fun N hN => ?_, fun N hN => ?_, Ufr_t a2 c3, Msame_t b2 c4, c5⟩
        · obtain ⟨N', rfl⟩ : ∃ N', N = N' + 1 := ⟨N - 1, by omega⟩
          show fX4_read_l39 r (J σ) (zf2 (fX4_read_l39 r (J σ)) N') (J lines) (cmem ν sh U) = _
          rw [hstep]
          exact c1 N' (by omega)
        · obtain ⟨N', rfl⟩ : ∃ N', N = N' + 1 := ⟨N - 1, by omega⟩
          show gX12_lines_l2 (J σ) (zf2 (gX12_lines_l2 (J σ)) N') 1 M = _
          rw [b1]
          exact c2 N' (by omega)
/-! the blank drafts -/
def vB : zV := fun k => if k = 0 then 12 else if 3 ≤ k ∧ k < 11 then Fin.ofNat 100 (k - 3) else if 19 ≤ k ∧ k < 27 then 1 else 0
def zB : zV := fun _ => 0
theorem vB_0 : (vB 0 : Nat) = 12 := rfl
theorem vB_1 : (vB 1 : Nat) = 0 := rfl
theorem vB_2 : (vB 2 : Nat) = 0 := rfl
theorem vB_s : ∀ j, j < 8 → (vB (3 + j) : Nat) = j := by decide +kernel
theorem vB_t : ∀ j, j < 8 → (vB (11 + j) : Nat) = 0 := by decide +kernel
theorem vB_w : ∀ j, j < 8 → (vB (19 + j) : Nat) = 1 := by decide +kernel
theorem vB_d : VOKd vB := ⟨by rw [vB_0]; omega, by rw [vB_0]; omega, by rw [vB_1]; omega, by rw [vB_2]; omega, fun j hj => by rw [vB_s j hj]; exact hj, fun j hj => by rw [vB_t j hj]; omega, fun j hj => by rw [vB_1] at hj; omega⟩
theorem C_clearV {U : zCS} {r : Nat} : ∃ U', gX9_clear U (r + 1) = some U' ∧ isVal U' (r + 1) vB ∧ Ufr U U' (rdr r) ∧ U'.1 r = U.1 r := by
  obtain ⟨U1, hU1⟩ : ∃ V, V = csI U (r + 1) 0 (J 12) := ⟨_, rfl⟩
  obtain ⟨m7, e1, e2, e3, e4⟩ := zf2_inv (f := gX9_clear_l8 (r + 1)) 8 (fun i x m => x = J i ∧ m.1 = U1.1 ∧ Ufr U1 m (rdr r) ∧ ∀ j, j < i → m.2.1 (r + 1 + 1) j = J j ∧ m.2.1 (r + 1 + 2) j = J 0 ∧ m.2.1 (r + 1 + 3) j = J 1) (fun m => m.1 = U1.1 ∧ Ufr U1 m (rdr r) ∧ ∀ j, j < 8 → m.2.1 (r + 1 + 1) j = J j ∧ m.2.1 (r + 1 + 2) j = J 0 ∧ m.2.1 (r + 1 + 3) j = J 1) (by
    rintro i x m hi ⟨rfl, f1, f2, f3⟩ F
    obtain ⟨V1, hV1⟩ : ∃ V, V = csA m (r + 1 + 1) (upd (m.2.1 (r + 1 + 1)) i (J i)) := ⟨_, rfl⟩
    obtain ⟨V2, hV2⟩ : ∃ V, V = csA V1 (r + 1 + 2) (upd (V1.2.1 (r + 1 + 2)) i (J 0)) := ⟨_, rfl⟩
    obtain ⟨V3, hV3⟩ : ∃ V, V = csA V2 (r + 1 + 3) (upd (V2.2.1 (r + 1 + 3)) i (J 1)) := ⟨_, rfl⟩
    refine ⟨J (i + 1), V3, ?_, rfl, by rw [hV3, hV2, hV1]; exact f1, Ufr_t f2 (by rw [hV3, hV2, hV1]; exact Ufr_t (Ufr_A ⟨by omega, by omega⟩) (Ufr_t (Ufr_A ⟨by omega, by omega⟩) (Ufr_A ⟨by omega, by omega⟩))), fun j hj => ?_⟩
    · unfold gX9_clear_l8
      rw [if_neg (show ¬ (8 : Int32) ≤ J i by rw [show (8 : Int32) = J 8 from rfl, J_le (by omega) (by omega)]; omega), zas_J (by omega) (by omega), wb1, wb1, ← hV1, zas_J (by omega) (by omega), wb1, wb1, show (0 : Int32) = J 0 from rfl, ← hV2, zas_J (by omega) (by omega), wb1, wb1, show (1 : Int32) = J 1 from rfl, ← hV3, J_add]
    · rw [hV3, csA_o2 (by omega), hV2, csA_o2 (by omega), hV1, csA_1, csA_o2 (by omega), csA_1, csA_1, csA_o2 (by omega), csA_o2 (by omega), csA_o2 (by omega)]
      by_cases hji : j = i
      · subst hji; rw [upd_1, upd_1, upd_1]; exact ⟨rfl, rfl, rfl⟩
      · rw [upd_o hji, upd_o hji, upd_o hji]; exact f3 j (by omega)) (by
    rintro x m ⟨rfl, f1, f2, f3⟩ F
    refine ⟨m, ?_, f1, f2, f3⟩
    unfold gX9_clear_l8
    rw [if_pos (show (8 : Int32) ≤ J 8 by decide)]) (zfu_lt (by omega)) (x0 := 0) (x1 := U1) ⟨rfl, rfl, Ufr_r, fun j hj => by omega⟩
  obtain ⟨V4, hV4⟩ : ∃ V, V = csI m7 (r + 1) 4 (J 0) := ⟨_, rfl⟩
  obtain ⟨V5, hV5⟩ : ∃ V, V = csI V4 (r + 1) 8 (J 0) := ⟨_, rfl⟩
  obtain ⟨V6, g1, g2, g3⟩ := C_fill (U := V5) (n := 100) (a := r + 1 + 10) (x := J 0) (by omega)
  refine ⟨V6, ?_, ?_, ?_, ?_⟩
  · unfold gX9_clear
    rw [wb1, show (12 : Int32) = J 12 from rfl, ← hU1, e1, wb1, wb1, show (0 : Int32) = J 0 from rfl, ← hV4, wb1, ← hV5, g1, wb1]
  · have hv : ∀ q, q ≠ r + 1 + 10 → V6.2.1 q = m7.2.1 q := fun q hq => by rw [g2.2.2 q hq, hV5, hV4]; rfl
    have h0 : V6.1 (r + 1) 0 = J 12 := by rw [g2.1, hV5, csI_o2 (.inr (by omega)), hV4, csI_o2 (.inr (by omega)), e2, hU1, csI_1]
    have h4 : V6.1 (r + 1) 4 = J 0 := by rw [g2.1, hV5, csI_o2 (.inr (by omega)), hV4, csI_1]
    have h8 : V6.1 (r + 1) 8 = J 0 := by rw [g2.1, hV5, csI_1]
    refine ⟨by rw [h0, vB_0], by rw [h4, vB_1], by rw [h8, vB_2], fun j hj => ?_, fun j hj => ?_, fun j hj => ?_, fun j hj => by rw [vB_1] at hj; omega, fun j hj => by rw [vB_2] at hj; omega, fun m hm => ?_⟩
    · rw [hv _ (by omega), (e4 j hj).1, vB_s j hj]
    · rw [hv _ (by omega), (e4 j hj).2.1, vB_t j hj]
    · rw [hv _ (by omega), (e4 j hj).2.2, vB_w j hj]
    · rw [g3 m hm]; rfl
  · have u1 : Ufr U U1 (rdr r) := by rw [hU1]; exact Ufr_I ⟨by omega, by omega⟩
    have u4 : Ufr m7 V4 (rdr r) := by rw [hV4]; exact Ufr_I ⟨by omega, by omega⟩
    have u5 : Ufr V4 V5 (rdr r) := by rw [hV5]; exact Ufr_I ⟨by omega, by omega⟩
    exact Ufr_t (Ufr_t u1 e3) (Ufr_t u4 (Ufr_t u5 (Ufr_U g2 (fun q hq => ⟨by omega, by omega⟩))))
  · rw [g2.1]
    exact funext fun j => by rw [hV5, csI_o2 (.inl (by omega)), hV4, csI_o2 (.inl (by omega)), e2, hU1, csI_o2 (.inl (by omega))]
theorem R_blank {M : zMS} {σ : Nat} (hσ : σ < 4) : ∃ M', gX12_blank M (J σ) = some M' ∧ M'.1 = M.1 ∧ M'.2.1 = M.2.1 ∧ (∀ j, j ≠ 19 → M'.2.2 j = M.2.2 j) ∧ (σ = 0 → ∀ k, k < 121 → M'.2.2 19 k = J (vB k)) ∧ (σ ≠ 0 → ∀ k, k < 121 → M'.2.2 19 k = J 0) := by
  obtain ⟨m5, e1, e2, e3, e4, e5⟩ := zf2_inv (f := gX12_blank_l2) 121 (fun i x m => x = J i ∧ m.1 = M.1 ∧ m.2.1 = M.2.1 ∧ (∀ j, j ≠ 19 → m.2.2 j = M.2.2 j) ∧ ∀ k, k < i → m.2.2 19 k = J 0) (fun m => m.1 = M.1 ∧ m.2.1 = M.2.1 ∧ (∀ j, j ≠ 19 → m.2.2 j = M.2.2 j) ∧ ∀ k, k < 121 → m.2.2 19 k = J 0) (by
    rintro i x m hi ⟨rfl, f1, f2, f3, f4⟩ F
    refine ⟨J (i + 1), zsA m 19 (upd (m.2.2 19) i (J 0)), ?_, rfl, f1, f2, fun j hj => by rw [zsA_o hj]; exact f3 j hj, fun k hk => ?_⟩
    · unfold gX12_blank_l2
      rw [if_neg (show ¬ (121 : Int32) ≤ J i by rw [show (121 : Int32) = J 121 from rfl, J_le (by omega) (by omega)]; omega), zas_J (by omega) (by omega), wb1, wb1]
      show F (J i + J 1) _ = _
      rw [J_add]; rfl
    · rw [zsA_1]
      by_cases hki : k = i
      · subst hki; rw [upd_1]
      · rw [upd_o hki]; exact f4 k (by omega)) (by
    rintro x m ⟨rfl, f1, f2, f3, f4⟩ F
    refine ⟨m, ?_, f1, f2, f3, f4⟩
    unfold gX12_blank_l2
    rw [if_pos (show (121 : Int32) ≤ J 121 by decide)]) (zfu_lt (by omega)) (x0 := 0) (x1 := M) ⟨rfl, rfl, rfl, fun _ _ => rfl, fun k hk => by omega⟩
  unfold gX12_blank
  rw [e1, wb1]
  by_cases c : σ = 0
  · subst c
    obtain ⟨m16, d1, d2, d3, d4, d5⟩ := zf2_inv (f := gX12_blank_l23 (J 0)) 8 (fun i x m => x = J i ∧ m.1 = M.1 ∧ m.2.1 = M.2.1 ∧ (∀ j, j ≠ 19 → m.2.2 j = M.2.2 j) ∧ ∀ k, k < 121 → m.2.2 19 k = if 3 ≤ k ∧ k < 3 + i then J (k - 3) else if 19 ≤ k ∧ k < 19 + i then J 1 else J 0) (fun m => m.1 = M.1 ∧ m.2.1 = M.2.1 ∧ (∀ j, j ≠ 19 → m.2.2 j = M.2.2 j) ∧ ∀ k, k < 121 → m.2.2 19 k = if 3 ≤ k ∧ k < 3 + 8 then J (k - 3) else if 19 ≤ k ∧ k < 19 + 8 then J 1 else J 0) (by
      rintro i x m hi ⟨rfl, f1, f2, f3, f4⟩ F
      obtain ⟨m1, hm1⟩ : ∃ m1, m1 = zsA m 19 (upd (m.2.2 19) (3 + i) (J i)) := ⟨_, rfl⟩
      obtain ⟨m2, hm2⟩ : ∃ m2, m2 = zsA m1 19 (upd (m1.2.2 19) (19 + i) (J 1)) := ⟨_, rfl⟩
      refine ⟨J (i + 1), m2, ?_, rfl, by rw [hm2, hm1]; exact f1, by rw [hm2, hm1]; exact f2, fun j hj => by rw [hm2, zsA_o hj, hm1, zsA_o hj]; exact f3 j hj, fun k hk => ?_⟩
      · unfold gX12_blank_l23
        rw [if_neg (show ¬ (8 : Int32) ≤ J i by rw [show (8 : Int32) = J 8 from rfl, J_le (by omega) (by omega)]; omega), if_pos (show J 0 = 0 from rfl), show (3 + J i : Int32) = J (3 + i) from J_add 3 i, zas_J (by omega) (by omega), wb1, wb1, ← hm1, show (19 + J i : Int32) = J (19 + i) from J_add 19 i, zas_J (by omega) (by omega), wb1, wb1, show (1 : Int32) = J 1 from rfl, ← hm2, J_add]
      · rw [hm2, zsA_1]
        by_cases k1 : k = 19 + i
        · rw [k1, upd_1, if_neg (by omega), if_pos (by omega)]
        · rw [upd_o k1, hm1, zsA_1]
          by_cases k2 : k = 3 + i
          · rw [k2, upd_1, if_pos (by omega), Nat.add_sub_cancel_left]
          · rw [upd_o k2, f4 k hk]
            by_cases q1 : 3 ≤ k ∧ k < 3 + i
            · rw [if_pos q1, if_pos (show 3 ≤ k ∧ k < 3 + (i + 1) by omega)]
            · rw [if_neg q1, if_neg (show ¬ (3 ≤ k ∧ k < 3 + (i + 1)) by omega)]
              by_cases q2 : 19 ≤ k ∧ k < 19 + i
              · rw [if_pos q2, if_pos (show 19 ≤ k ∧ k < 19 + (i + 1) by omega)]
              · rw [if_neg q2, if_neg (show ¬ (19 ≤ k ∧ k < 19 + (i + 1)) by omega)]) (by
      rintro x m ⟨rfl, f1, f2, f3, f4⟩ F
      refine ⟨m, ?_, f1, f2, f3, f4⟩
      unfold gX12_blank_l23
      rw [if_pos (show (8 : Int32) ≤ J 8 by decide)]) (zfu_lt (by omega)) (x0 := 0) (x1 := m5) ⟨rfl, e2, e3, e4, fun k hk => by rw [if_neg (by omega), if_neg (by omega)]; exact e5 k hk⟩
    rw [d1, wb1, if_pos (show J 0 = 0 from rfl), wb1, show zas 121 (m16.2.2 19) 0 12 = some (upd (m16.2.2 19) 0 (J 12)) from zas_J (i := 0) (by omega) (by omega), wb1, wb1]
    refine ⟨_, rfl, d2, d3, fun j hj => by rw [zsA_o hj]; exact d4 j hj, fun _ k hk => ?_, fun z => absurd rfl z⟩
    rw [zsA_1]
    by_cases k0 : k = 0
    · subst k0; rw [upd_1]; rfl
    · rw [upd_o k0, d5 k hk]
      unfold vB
      rw [if_neg k0]
      by_cases q1 : 3 ≤ k ∧ k < 11
      · rw [if_pos (by omega), if_pos q1]
        congr 1
        exact (Nat.mod_eq_of_lt (by omega)).symm
      · rw [if_neg (by omega), if_neg q1]
        by_cases q2 : 19 ≤ k ∧ k < 27
        · rw [if_pos (by omega), if_pos q2]; rfl
        · rw [if_neg (by omega), if_neg q2]; rfl
  · have hl : zf2 (gX12_blank_l23 (J σ)) zfu 0 m5 = some m5 := by
      refine zf2_run (f := gX12_blank_l23 (J σ)) (r := some m5) 0 (fun _ => 0) (fun _ => m5) (fun i hi => by omega) (fun F => ?_) (zfu_lt (by omega))
      unfold gX12_blank_l23
      rw [if_neg (show ¬ (8 : Int32) ≤ 0 by decide), if_neg (show ¬ J σ = 0 by rw [show (0 : Int32) = J 0 from rfl, J_eq (by omega) (by omega)]; exact c)]
    rw [hl, wb1, if_neg (show ¬ J σ = 0 by rw [show (0 : Int32) = J 0 from rfl, J_eq (by omega) (by omega)]; exact c), wb1, show zas 121 (m5.2.2 19) 0 0 = some (upd (m5.2.2 19) 0 (J 0)) from zas_J (i := 0) (by omega) (by omega), wb1, wb1]
    refine ⟨_, rfl, e2, e3, fun j hj => by rw [zsA_o hj]; exact e4 j hj, fun z => absurd z c, fun _ k hk => ?_⟩
    rw [zsA_1]
    by_cases k0 : k = 0
    · subst k0; rw [upd_1]
    · rw [upd_o k0]; exact e5 k hk
theorem C_clearDraft {U : zCS} {r σ : Nat} (hσ : σ < 4) : ∃ U', gX4_clearDraft U r (J σ) = some U' ∧ Ufr U U' (rdr r) ∧ U'.1 r = U.1 r ∧ (σ = 0 → isVal U' (r + 1) vB) ∧ (σ = 1 → isDay U' (r + 12) zB) ∧ (σ = 2 → isLe U' (r + 16) zB) ∧ (σ = 3 → isSi U' (r + 19) zB) := by
  unfold gX4_clearDraft
  match σ, hσ with
  | 0, _ =>
    obtain ⟨U', e1, e2, e3, e4⟩ := C_clearV (U := U) (r := r)
    refine ⟨U', by rw [if_pos (show J 0 = 0 from rfl), e1]; rfl, e3, e4, fun _ => e2, fun z => by omega, fun z => by omega, fun z => by omega⟩
  | 1, _ =>
    refine ⟨csI U (r + 12) 0 (J 0), by rw [if_neg (show ¬ J 1 = 0 by decide), if_pos (show J 1 = 1 from rfl)]; rfl, Ufr_I ⟨by omega, by omega⟩, funext fun j => csI_o2 (.inl (by omega)), fun z => by omega, fun _ => ⟨csI_1, fun k hk => ?_⟩, fun z => by omega, fun z => by omega⟩
    have : k < 0 := hk
    omega
  | 2, _ =>
    refine ⟨csI (csI U (r + 16) 0 (J 0)) (r + 16) 1 (J 0), by rw [if_neg (show ¬ J 2 = 0 by decide), if_neg (show ¬ J 2 = 1 by decide), if_pos (show J 2 = 2 from rfl)]; rfl, Ufr_t (Ufr_I ⟨by omega, by omega⟩) (Ufr_I ⟨by omega, by omega⟩), funext fun j => (csI_o2 (.inl (by omega))).trans (csI_o2 (.inl (by omega))), fun z => by omega, fun z => by omega, fun _ => ⟨by rw [csI_o2 (.inr (by omega)), csI_1]; rfl, csI_1, fun k hk => ?_⟩, fun z => by omega⟩
    have : k < 0 := hk
    omega
  | 3, _ =>
    refine ⟨csI U (r + 19) 0 (J 0), by rw [if_neg (show ¬ J 3 = 0 by decide), if_neg (show ¬ J 3 = 1 by decide), if_neg (show ¬ J 3 = 2 by decide)]; rfl, Ufr_I ⟨by omega, by omega⟩, funext fun j => csI_o2 (.inl (by omega)), fun z => by omega, fun z => by omega, fun z => by omega, fun _ => ⟨csI_1, fun k hk => ?_⟩⟩
    have : k < 0 := hk
    omega
