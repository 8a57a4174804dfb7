/-! the loop runs to its end -/
theorem L_step {xs : Nat → Int32} {L p X : Nat} {μ m4 m10 : zM} (hμ : μ.2.1 = X) (h4 : m4.2.1 = X + 95) (hL : L ≤ 4096) (hp : p + 8 ≤ L) (hW : WS X m10) : ∃ m', WS X m' ∧ ∀ F, fL_law_l xs L μ m4 F (J p) m10 = F (J p + 8) m' := by
  by_cases c0 : xs p &&& 63 = 0
  · exact LW_0 hμ h4 hL hp hW c0
  by_cases c1 : xs p &&& 63 = 1
  · exact LW_1 hμ h4 hL hp hW c1
  by_cases c2 : xs p &&& 63 = 2
  · exact LW_2 hμ h4 hL hp hW c2
  by_cases c3 : xs p &&& 63 = 3
  · exact LW_3 hμ h4 hL hp hW c3
  by_cases c4 : xs p &&& 63 = 4
  · exact LW_4 hμ h4 hL hp hW c4
  by_cases c5 : xs p &&& 63 = 5
  · exact LW_5 hμ h4 hL hp hW c5
  by_cases c6 : xs p &&& 63 = 6
  · exact LW_6 hμ h4 hL hp hW c6
  by_cases c7 : xs p &&& 63 = 7
  · exact LW_7 hμ h4 hL hp hW c7
  by_cases c8 : xs p &&& 63 = 8
  · exact LW_8 hμ h4 hL hp hW c8
  by_cases c9 : xs p &&& 63 = 9
  · exact LW_9 hμ h4 hL hp hW c9
  by_cases c10 : xs p &&& 63 = 10
  · exact LW_10 hμ h4 hL hp hW c10
  by_cases c11 : xs p &&& 63 = 11
  · exact LW_11 hμ h4 hL hp hW c11
  by_cases c12 : xs p &&& 63 = 12
  · exact LW_12 hμ h4 hL hp hW c12
  by_cases c13 : xs p &&& 63 = 13
  · exact LW_13 hμ h4 hL hp hW c13
  by_cases c14 : xs p &&& 63 = 14
  · exact LW_14 hμ h4 hL hp hW c14
  by_cases c15 : xs p &&& 63 = 15
  · exact LW_15 hμ h4 hL hp hW c15
  by_cases c16 : xs p &&& 63 = 16
  · exact LW_16 hμ h4 hL hp hW c16
  by_cases c17 : xs p &&& 63 = 17
  · exact LW_17 hμ h4 hL hp hW c17
  by_cases c18 : xs p &&& 63 = 18
  · exact LW_18 hμ h4 hL hp hW c18
  by_cases c19 : xs p &&& 63 = 19
  · exact LW_19 hμ h4 hL hp hW c19
  by_cases c20 : xs p &&& 63 = 20
  · exact LW_20 hμ h4 hL hp hW c20
  by_cases c21 : xs p &&& 63 = 21
  · exact LW_21 hμ h4 hL hp hW c21
  by_cases c22 : xs p &&& 63 = 22
  · exact LW_22 hμ h4 hL hp hW c22
  by_cases c23 : xs p &&& 63 = 23
  · exact LW_23 hμ h4 hL hp hW c23
  by_cases c24 : xs p &&& 63 = 24
  · exact LW_24 hμ h4 hL hp hW c24
  by_cases c25 : xs p &&& 63 = 25
  · exact LW_25 hμ h4 hL hp hW c25
  by_cases c26 : xs p &&& 63 = 26
  · exact LW_26 hμ h4 hL hp hW c26
  by_cases c27 : xs p &&& 63 = 27
  · exact LW_27 hμ h4 hL hp hW c27
  by_cases c28 : xs p &&& 63 = 28
  · exact LW_28 hμ h4 hL hp hW c28
  by_cases c29 : xs p &&& 63 = 29
  · exact LW_29 hμ h4 hL hp hW c29
  by_cases c30 : xs p &&& 63 = 30
  · exact LW_30 hμ h4 hL hp hW c30
  by_cases c31 : xs p &&& 63 = 31
  · exact LW_31 hμ h4 hL hp hW c31
  by_cases c32 : xs p &&& 63 = 32
  · exact LW_32 hμ h4 hL hp hW c32
  by_cases c33 : xs p &&& 63 = 33
  · exact LW_33 hμ h4 hL hp hW c33
  by_cases c34 : xs p &&& 63 = 34
  · exact LW_34 hμ h4 hL hp hW c34
  refine ⟨m10, hW, fun F => ?_⟩
  unfold fL_law_l
  rw [if_neg (show ¬ Int32.ofNat L - 8 < J p by rw [L_gt hL (by omega)]; omega), zsc_J hL (show p < L by omega), wb1, if_neg c0, if_neg c1, if_neg c2, if_neg c3, if_neg c4, if_neg c5, if_neg c6, if_neg c7, if_neg c8, if_neg c9, if_neg c10, if_neg c11, if_neg c12, if_neg c13, if_neg c14, if_neg c15, if_neg c16, if_neg c17, if_neg c18, if_neg c19, if_neg c20, if_neg c21, if_neg c22, if_neg c23, if_neg c24, if_neg c25, if_neg c26, if_neg c27, if_neg c28, if_neg c29, if_neg c30, if_neg c31, if_neg c32, if_neg c33, if_neg c34]
theorem L_loop {xs : Nat → Int32} {L X : Nat} {μ m4 : zM} (hμ : μ.2.1 = X) (h4 : m4.2.1 = X + 95) (hL : L ≤ 4096) : ∀ n p m, WS X m → L < p + 8 * n → p ≤ 8192 → ∃ mo, zf2 (fL_law_l xs L μ m4) (n + 1) (J p) m = some (1, mo) := by
  intro n
  induction n with
  | zero =>
    intro p m hW hn hp
    refine ⟨m, ?_⟩
    show fL_law_l xs L μ m4 (zf2 (fL_law_l xs L μ m4) 0) (J p) m = _
    unfold fL_law_l
    rw [if_pos ((L_gt hL hp).mpr (by omega))]
  | succ n ih =>
    intro p m hW hn hp
    by_cases c : p + 8 ≤ L
    · obtain ⟨m', w, hs⟩ := L_step hμ h4 hL c hW
      obtain ⟨mo, ho⟩ := ih (p + 8) m' w (by omega) (by omega)
      refine ⟨mo, ?_⟩
      show fL_law_l xs L μ m4 (zf2 (fL_law_l xs L μ m4) (n + 1)) (J p) m = _
      rw [hs, show (J p + 8 : Int32) = J (p + 8) from J_add p 8]
      exact ho
    · refine ⟨m, ?_⟩
      show fL_law_l xs L μ m4 (zf2 (fL_law_l xs L μ m4) (n + 1)) (J p) m = _
      unfold fL_law_l
      rw [if_pos ((L_gt hL hp).mpr (by omega))]
theorem zpure (sa : Nat → Nat) (base : Nat) (xs : Nat → Int32) (L : Nat) (hL : L ≤ 4096) (hD : zD sa base) : ∃ mo, fL_law xs L (zm0 sa, base, sa) = some (1, mo) := by
  obtain ⟨m4, m8, e1, e2, e3, hW⟩ := T_start hD
  obtain ⟨mo, ho⟩ := L_loop (xs := xs) (μ := (zm0 sa, base, sa)) (m4 := m4) (X := base) rfl e2 hL 519 0 m8 hW (by omega) (by omega)
  refine ⟨mo, ?_⟩
  unfold fL_law
  rw [wb1, show fX11_init (zm_nw (zm0 sa, base, sa) (.inr (11, [.null, .null, .null, .null, .null, .null, .null]))) base = some m4 from e1, wb1, wb1]
  refine (congrArg (fun z => zb1 z _) (show _ = some m8 from e3)).trans ?_
  rw [wb1]
  exact ho
