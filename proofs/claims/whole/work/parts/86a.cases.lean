/-! the law's loop -/
theorem zsc_J {xs : Nat → Int32} {L q : Nat} (hL : L ≤ 4096) (hq : q < L) : zsc xs L (J q) = some (xs q) := by
  have hn : (J q).toNatClampNeg = q := by
    show (J q).toInt.toNat = q
    rw [J_toInt (by omega)]; rfl
  unfold zsc
  rw [if_neg (fun z => by
    rcases z with z | z
    · rw [show (0 : Int32) = J 0 from rfl, J_lt (by omega) (by omega)] at z; omega
    · rw [hn] at z; omega), hn]
theorem b_if {x : Int32} : (if x = 0 then some 0 else some 1 : Option Int32) = some (if x = 0 then 0 else 1) := by split <;> rfl
theorem b_01 {x : Int32} : (if x = 0 then (0 : Int32) else 1) = 0 ∨ (if x = 0 then (0 : Int32) else 1) = 1 := by
  split
  · exact .inl rfl
  · exact .inr rfl
theorem lg_0 {x : Int64} : lg_cmp x x = 0 := by unfold lg_cmp; simp
theorem L_gt {L p : Nat} (hL : L ≤ 4096) (hp : p ≤ 8192) : (Int32.ofNat L - 8 < J p) ↔ L < p + 8 := by
  show (J L - J 8 < J p) ↔ _
  rw [Int32.lt_iff_toInt_lt, J_subI (by omega) (by omega), J_toInt (by omega)]; omega
theorem LW_0 {xs : Nat → Int32} {L p X : Nat} {μ m4 m10 : zM} (hμ : μ.2.1 = X) (h4 : m4.2.1 = X + 95) (hL : L ≤ 4096) (hp : p + 8 ≤ L) (hW : WS X m10) (hc : xs p &&& 63 = 0) : ∃ m', WS X m' ∧ ∀ F, fL_law_l xs L μ m4 F (J p) m10 = F (J p + 8) m' := by
  obtain ⟨ν, sh, U, M, rfl, h⟩ := hW
  have hz : ∀ j, j < 8 → zsc xs L (J p + J j) = some (xs (p + j)) := fun j hj => by rw [J_add]; exact zsc_J hL (by omega)
  obtain ⟨v, m1, m2, a, b, w⟩ := T_feed h (xs (p + 1)) (xs (p + 2)) (xs (p + 3)) (xs (p + 4)) (xs (p + 5))
  have b : fX12_feed m1 (X + 95) (xs (p + 1)) (xs (p + 2)) (xs (p + 3)) (xs (p + 4)) (xs (p + 5)) = some (v, m2) := b
  refine ⟨m2, w, fun F => ?_⟩
  unfold fL_law_l
  rw [if_neg (show ¬ Int32.ofNat L - 8 < J p by rw [L_gt hL (by omega)]; omega), zsc_J hL (show p < L by omega), wb1, hc]
  rw [if_pos rfl]
  rw [show zsc xs L (J p + 1) = some (xs (p + 1)) from hz 1 (by omega), wb1, show zsc xs L (J p + 2) = some (xs (p + 2)) from hz 2 (by omega), wb1, show zsc xs L (J p + 3) = some (xs (p + 3)) from hz 3 (by omega), wb1, show zsc xs L (J p + 4) = some (xs (p + 4)) from hz 4 (by omega), wb1, show zsc xs L (J p + 5) = some (xs (p + 5)) from hz 5 (by omega), wb1, hμ, a, wb2, wb1, wb1, wb1, wb1, wb1, h4, b, wb2, if_pos rfl]
theorem LW_1 {xs : Nat → Int32} {L p X : Nat} {μ m4 m10 : zM} (hμ : μ.2.1 = X) (h4 : m4.2.1 = X + 95) (hL : L ≤ 4096) (hp : p + 8 ≤ L) (hW : WS X m10) (hc : xs p &&& 63 = 1) : ∃ m', WS X m' ∧ ∀ F, fL_law_l xs L μ m4 F (J p) m10 = F (J p + 8) m' := by
  obtain ⟨ν, sh, U, M, rfl, h⟩ := hW
  have hz : ∀ j, j < 8 → zsc xs L (J p + J j) = some (xs (p + j)) := fun j hj => by rw [J_add]; exact zsc_J hL (by omega)
  obtain ⟨v, m1, m2, a, b, w⟩ := T_end h (xs (p + 1))
  have b : fX12_end m1 (X + 95) (xs (p + 1)) = some (v, m2) := b
  refine ⟨m2, w, fun F => ?_⟩
  unfold fL_law_l
  rw [if_neg (show ¬ Int32.ofNat L - 8 < J p by rw [L_gt hL (by omega)]; omega), zsc_J hL (show p < L by omega), wb1, hc]
  rw [if_neg (show ¬ (1 : Int32) = 0 by decide), if_pos rfl]
  rw [show zsc xs L (J p + 1) = some (xs (p + 1)) from hz 1 (by omega), wb1, hμ, a, wb2, wb1, h4, b, wb2, if_pos rfl]
theorem LW_2 {xs : Nat → Int32} {L p X : Nat} {μ m4 m10 : zM} (hμ : μ.2.1 = X) (h4 : m4.2.1 = X + 95) (hL : L ≤ 4096) (hp : p + 8 ≤ L) (hW : WS X m10) (hc : xs p &&& 63 = 2) : ∃ m', WS X m' ∧ ∀ F, fL_law_l xs L μ m4 F (J p) m10 = F (J p + 8) m' := by
  obtain ⟨ν, sh, U, M, rfl, h⟩ := hW
  have hz : ∀ j, j < 8 → zsc xs L (J p + J j) = some (xs (p + j)) := fun j hj => by rw [J_add]; exact zsc_J hL (by omega)
  obtain ⟨v, m1, m2, a, b, w⟩ := T_text h (xs (p + 1)) (xs (p + 2))
  have b : fX12_text m1 (X + 95) (xs (p + 1)) (xs (p + 2)) = some (v, m2) := b
  refine ⟨m2, w, fun F => ?_⟩
  unfold fL_law_l
  rw [if_neg (show ¬ Int32.ofNat L - 8 < J p by rw [L_gt hL (by omega)]; omega), zsc_J hL (show p < L by omega), wb1, hc]
  rw [if_neg (show ¬ (2 : Int32) = 0 by decide), if_neg (show ¬ (2 : Int32) = 1 by decide), if_pos rfl]
  rw [show zsc xs L (J p + 1) = some (xs (p + 1)) from hz 1 (by omega), wb1, show zsc xs L (J p + 2) = some (xs (p + 2)) from hz 2 (by omega), wb1, hμ, a, wb2, wb1, wb1, h4, b, wb2, if_pos rfl]
theorem LW_3 {xs : Nat → Int32} {L p X : Nat} {μ m4 m10 : zM} (hμ : μ.2.1 = X) (h4 : m4.2.1 = X + 95) (hL : L ≤ 4096) (hp : p + 8 ≤ L) (hW : WS X m10) (hc : xs p &&& 63 = 3) : ∃ m', WS X m' ∧ ∀ F, fL_law_l xs L μ m4 F (J p) m10 = F (J p + 8) m' := by
  obtain ⟨ν, sh, U, M, rfl, h⟩ := hW
  have hz : ∀ j, j < 8 → zsc xs L (J p + J j) = some (xs (p + j)) := fun j hj => by rw [J_add]; exact zsc_J hL (by omega)
  obtain ⟨v, m2, a, b, w⟩ := T_fault h (xs (p + 1))
  have b : fX12_fault (mm X ν sh U M) (X + 95) (xs (p + 1)) = some (v, m2) := b
  refine ⟨m2, w, fun F => ?_⟩
  unfold fL_law_l
  rw [if_neg (show ¬ Int32.ofNat L - 8 < J p by rw [L_gt hL (by omega)]; omega), zsc_J hL (show p < L by omega), wb1, hc]
  rw [if_neg (show ¬ (3 : Int32) = 0 by decide), if_neg (show ¬ (3 : Int32) = 1 by decide), if_neg (show ¬ (3 : Int32) = 2 by decide), if_pos rfl]
  rw [show zsc xs L (J p + 1) = some (xs (p + 1)) from hz 1 (by omega), wb1, hμ, a, wb1, wb1, h4, b, wb2, if_pos rfl]
theorem LW_4 {xs : Nat → Int32} {L p X : Nat} {μ m4 m10 : zM} (hμ : μ.2.1 = X) (h4 : m4.2.1 = X + 95) (hL : L ≤ 4096) (hp : p + 8 ≤ L) (hW : WS X m10) (hc : xs p &&& 63 = 4) : ∃ m', WS X m' ∧ ∀ F, fL_law_l xs L μ m4 F (J p) m10 = F (J p + 8) m' := by
  obtain ⟨ν, sh, U, M, rfl, h⟩ := hW
  have hz : ∀ j, j < 8 → zsc xs L (J p + J j) = some (xs (p + j)) := fun j hj => by rw [J_add]; exact zsc_J hL (by omega)
  obtain ⟨v, m2, a, b, w⟩ := T_valley h (xs (p + 1)) (xs (p + 2))
  have b : fX12_valley (mm X ν sh U M) (X + 95) (xs (p + 1)) (xs (p + 2)) = some (v, m2) := b
  refine ⟨m2, w, fun F => ?_⟩
  unfold fL_law_l
  rw [if_neg (show ¬ Int32.ofNat L - 8 < J p by rw [L_gt hL (by omega)]; omega), zsc_J hL (show p < L by omega), wb1, hc]
  rw [if_neg (show ¬ (4 : Int32) = 0 by decide), if_neg (show ¬ (4 : Int32) = 1 by decide), if_neg (show ¬ (4 : Int32) = 2 by decide), if_neg (show ¬ (4 : Int32) = 3 by decide), if_pos rfl]
  rw [show zsc xs L (J p + 1) = some (xs (p + 1)) from hz 1 (by omega), wb1, show zsc xs L (J p + 2) = some (xs (p + 2)) from hz 2 (by omega), wb1, hμ, a, wb1, wb1, wb1, h4, b, wb2, if_pos rfl]
theorem LW_5 {xs : Nat → Int32} {L p X : Nat} {μ m4 m10 : zM} (hμ : μ.2.1 = X) (h4 : m4.2.1 = X + 95) (hL : L ≤ 4096) (hp : p + 8 ≤ L) (hW : WS X m10) (hc : xs p &&& 63 = 5) : ∃ m', WS X m' ∧ ∀ F, fL_law_l xs L μ m4 F (J p) m10 = F (J p + 8) m' := by
  obtain ⟨ν, sh, U, M, rfl, h⟩ := hW
  have hz : ∀ j, j < 8 → zsc xs L (J p + J j) = some (xs (p + j)) := fun j hj => by rw [J_add]; exact zsc_J hL (by omega)
  obtain ⟨v, m2, a, b, w⟩ := T_heard h (xs (p + 1)) (xs (p + 2)) (xs (p + 3)) (xs (p + 4)) (xs (p + 5)) (xs (p + 6)) (xs (p + 7))
  have b : fX12_heard (mm X ν sh U M) (X + 95) (xs (p + 1)) (xs (p + 2)) (xs (p + 3)) (xs (p + 4)) (xs (p + 5)) (xs (p + 6)) (xs (p + 7)) = some (v, m2) := b
  refine ⟨m2, w, fun F => ?_⟩
  unfold fL_law_l
  rw [if_neg (show ¬ Int32.ofNat L - 8 < J p by rw [L_gt hL (by omega)]; omega), zsc_J hL (show p < L by omega), wb1, hc]
  rw [if_neg (show ¬ (5 : Int32) = 0 by decide), if_neg (show ¬ (5 : Int32) = 1 by decide), if_neg (show ¬ (5 : Int32) = 2 by decide), if_neg (show ¬ (5 : Int32) = 3 by decide), if_neg (show ¬ (5 : Int32) = 4 by decide), if_pos rfl]
  rw [show zsc xs L (J p + 1) = some (xs (p + 1)) from hz 1 (by omega), wb1, show zsc xs L (J p + 2) = some (xs (p + 2)) from hz 2 (by omega), wb1, show zsc xs L (J p + 3) = some (xs (p + 3)) from hz 3 (by omega), wb1, show zsc xs L (J p + 4) = some (xs (p + 4)) from hz 4 (by omega), wb1, show zsc xs L (J p + 5) = some (xs (p + 5)) from hz 5 (by omega), wb1, show zsc xs L (J p + 6) = some (xs (p + 6)) from hz 6 (by omega), wb1, show zsc xs L (J p + 7) = some (xs (p + 7)) from hz 7 (by omega), wb1, hμ, a, wb1, wb1, wb1, wb1, wb1, wb1, wb1, wb1, h4, b, wb2, if_pos rfl]
theorem LW_6 {xs : Nat → Int32} {L p X : Nat} {μ m4 m10 : zM} (hμ : μ.2.1 = X) (h4 : m4.2.1 = X + 95) (hL : L ≤ 4096) (hp : p + 8 ≤ L) (hW : WS X m10) (hc : xs p &&& 63 = 6) : ∃ m', WS X m' ∧ ∀ F, fL_law_l xs L μ m4 F (J p) m10 = F (J p + 8) m' := by
  obtain ⟨ν, sh, U, M, rfl, h⟩ := hW
  have hz : ∀ j, j < 8 → zsc xs L (J p + J j) = some (xs (p + j)) := fun j hj => by rw [J_add]; exact zsc_J hL (by omega)
  obtain ⟨v, m2, a, b, w⟩ := T_gives h (xs (p + 1)) (xs (p + 2)) (xs (p + 3)) (xs (p + 4))
  have b : fX12_gives (mm X ν sh U M) (X + 95) (xs (p + 1)) (xs (p + 2)) (xs (p + 3)) (xs (p + 4)) = some (v, m2) := b
  refine ⟨m2, w, fun F => ?_⟩
  unfold fL_law_l
  rw [if_neg (show ¬ Int32.ofNat L - 8 < J p by rw [L_gt hL (by omega)]; omega), zsc_J hL (show p < L by omega), wb1, hc]
  rw [if_neg (show ¬ (6 : Int32) = 0 by decide), if_neg (show ¬ (6 : Int32) = 1 by decide), if_neg (show ¬ (6 : Int32) = 2 by decide), if_neg (show ¬ (6 : Int32) = 3 by decide), if_neg (show ¬ (6 : Int32) = 4 by decide), if_neg (show ¬ (6 : Int32) = 5 by decide), if_pos rfl]
  rw [show zsc xs L (J p + 1) = some (xs (p + 1)) from hz 1 (by omega), wb1, show zsc xs L (J p + 2) = some (xs (p + 2)) from hz 2 (by omega), wb1, show zsc xs L (J p + 3) = some (xs (p + 3)) from hz 3 (by omega), wb1, show zsc xs L (J p + 4) = some (xs (p + 4)) from hz 4 (by omega), wb1, hμ, a, wb1, wb1, wb1, wb1, wb1, h4, b, wb2, if_pos rfl]
theorem LW_7 {xs : Nat → Int32} {L p X : Nat} {μ m4 m10 : zM} (hμ : μ.2.1 = X) (h4 : m4.2.1 = X + 95) (hL : L ≤ 4096) (hp : p + 8 ≤ L) (hW : WS X m10) (hc : xs p &&& 63 = 7) : ∃ m', WS X m' ∧ ∀ F, fL_law_l xs L μ m4 F (J p) m10 = F (J p + 8) m' := by
  obtain ⟨ν, sh, U, M, rfl, h⟩ := hW
  have hz : ∀ j, j < 8 → zsc xs L (J p + J j) = some (xs (p + j)) := fun j hj => by rw [J_add]; exact zsc_J hL (by omega)
  obtain ⟨v, m2, a, b, w⟩ := T_deed h (xs (p + 1)) (xs (p + 2)) (xs (p + 3))
  have b : fX12_deed (mm X ν sh U M) (X + 95) (xs (p + 1)) (xs (p + 2)) (xs (p + 3)) = some (v, m2) := b
  refine ⟨m2, w, fun F => ?_⟩
  unfold fL_law_l
  rw [if_neg (show ¬ Int32.ofNat L - 8 < J p by rw [L_gt hL (by omega)]; omega), zsc_J hL (show p < L by omega), wb1, hc]
  rw [if_neg (show ¬ (7 : Int32) = 0 by decide), if_neg (show ¬ (7 : Int32) = 1 by decide), if_neg (show ¬ (7 : Int32) = 2 by decide), if_neg (show ¬ (7 : Int32) = 3 by decide), if_neg (show ¬ (7 : Int32) = 4 by decide), if_neg (show ¬ (7 : Int32) = 5 by decide), if_neg (show ¬ (7 : Int32) = 6 by decide), if_pos rfl]
  rw [show zsc xs L (J p + 1) = some (xs (p + 1)) from hz 1 (by omega), wb1, show zsc xs L (J p + 2) = some (xs (p + 2)) from hz 2 (by omega), wb1, show zsc xs L (J p + 3) = some (xs (p + 3)) from hz 3 (by omega), wb1, hμ, a, wb1, wb1, wb1, wb1, h4, b, wb2, if_pos rfl]
theorem LW_8 {xs : Nat → Int32} {L p X : Nat} {μ m4 m10 : zM} (hμ : μ.2.1 = X) (h4 : m4.2.1 = X + 95) (hL : L ≤ 4096) (hp : p + 8 ≤ L) (hW : WS X m10) (hc : xs p &&& 63 = 8) : ∃ m', WS X m' ∧ ∀ F, fL_law_l xs L μ m4 F (J p) m10 = F (J p + 8) m' := by
  obtain ⟨ν, sh, U, M, rfl, h⟩ := hW
  have hz : ∀ j, j < 8 → zsc xs L (J p + J j) = some (xs (p + j)) := fun j hj => by rw [J_add]; exact zsc_J hL (by omega)
  obtain ⟨v, m1, m2, a, b, w⟩ := T_stop h (xs (p + 1)) (xs (p + 2))
  have b : fX12_stop m1 (X + 95) (xs (p + 1)) (xs (p + 2)) = some (v, m2) := b
  refine ⟨m2, w, fun F => ?_⟩
  unfold fL_law_l
  rw [if_neg (show ¬ Int32.ofNat L - 8 < J p by rw [L_gt hL (by omega)]; omega), zsc_J hL (show p < L by omega), wb1, hc]
  rw [if_neg (show ¬ (8 : Int32) = 0 by decide), if_neg (show ¬ (8 : Int32) = 1 by decide), if_neg (show ¬ (8 : Int32) = 2 by decide), if_neg (show ¬ (8 : Int32) = 3 by decide), if_neg (show ¬ (8 : Int32) = 4 by decide), if_neg (show ¬ (8 : Int32) = 5 by decide), if_neg (show ¬ (8 : Int32) = 6 by decide), if_neg (show ¬ (8 : Int32) = 7 by decide), if_pos rfl]
  rw [show zsc xs L (J p + 1) = some (xs (p + 1)) from hz 1 (by omega), wb1, show zsc xs L (J p + 2) = some (xs (p + 2)) from hz 2 (by omega), wb1, hμ, a, wb2, wb1, wb1, h4, b, wb2, if_pos rfl]
theorem LW_9 {xs : Nat → Int32} {L p X : Nat} {μ m4 m10 : zM} (hμ : μ.2.1 = X) (h4 : m4.2.1 = X + 95) (hL : L ≤ 4096) (hp : p + 8 ≤ L) (hW : WS X m10) (hc : xs p &&& 63 = 9) : ∃ m', WS X m' ∧ ∀ F, fL_law_l xs L μ m4 F (J p) m10 = F (J p + 8) m' := by
  obtain ⟨ν, sh, U, M, rfl, h⟩ := hW
  have hz : ∀ j, j < 8 → zsc xs L (J p + J j) = some (xs (p + j)) := fun j hj => by rw [J_add]; exact zsc_J hL (by omega)
  obtain ⟨v, m1, m2, a, b, w⟩ := T_state h (xs (p + 1)) (xs (p + 2)) (xs (p + 3)) (xs (p + 4))
  have b : fX12_state m1 (X + 95) (xs (p + 1)) (xs (p + 2)) (xs (p + 3)) (xs (p + 4)) = some (v, m2) := b
  refine ⟨m2, w, fun F => ?_⟩
  unfold fL_law_l
  rw [if_neg (show ¬ Int32.ofNat L - 8 < J p by rw [L_gt hL (by omega)]; omega), zsc_J hL (show p < L by omega), wb1, hc]
  rw [if_neg (show ¬ (9 : Int32) = 0 by decide), if_neg (show ¬ (9 : Int32) = 1 by decide), if_neg (show ¬ (9 : Int32) = 2 by decide), if_neg (show ¬ (9 : Int32) = 3 by decide), if_neg (show ¬ (9 : Int32) = 4 by decide), if_neg (show ¬ (9 : Int32) = 5 by decide), if_neg (show ¬ (9 : Int32) = 6 by decide), if_neg (show ¬ (9 : Int32) = 7 by decide), if_neg (show ¬ (9 : Int32) = 8 by decide), if_pos rfl]
  rw [show zsc xs L (J p + 1) = some (xs (p + 1)) from hz 1 (by omega), wb1, show zsc xs L (J p + 2) = some (xs (p + 2)) from hz 2 (by omega), wb1, show zsc xs L (J p + 3) = some (xs (p + 3)) from hz 3 (by omega), wb1, show zsc xs L (J p + 4) = some (xs (p + 4)) from hz 4 (by omega), wb1, hμ, a, wb2, wb1, wb1, wb1, wb1, h4, b, wb2, if_pos rfl]
theorem LW_10 {xs : Nat → Int32} {L p X : Nat} {μ m4 m10 : zM} (hμ : μ.2.1 = X) (h4 : m4.2.1 = X + 95) (hL : L ≤ 4096) (hp : p + 8 ≤ L) (hW : WS X m10) (hc : xs p &&& 63 = 10) : ∃ m', WS X m' ∧ ∀ F, fL_law_l xs L μ m4 F (J p) m10 = F (J p + 8) m' := by
  obtain ⟨ν, sh, U, M, rfl, h⟩ := hW
  have hz : ∀ j, j < 8 → zsc xs L (J p + J j) = some (xs (p + j)) := fun j hj => by rw [J_add]; exact zsc_J hL (by omega)
  obtain ⟨v, m2, a, b, w⟩ := T_hush h (xs (p + 1)) (xs (p + 2)) (xs (p + 3)) (xs (p + 4)) (if xs (p + 5) = 0 then 0 else 1)
  have b : fX12_hush (mm X ν sh U M) (X + 95) (xs (p + 1)) (xs (p + 2)) (xs (p + 3)) (xs (p + 4)) (if xs (p + 5) = 0 then 0 else 1) = some (v, m2) := b
  refine ⟨m2, w, fun F => ?_⟩
  unfold fL_law_l
  rw [if_neg (show ¬ Int32.ofNat L - 8 < J p by rw [L_gt hL (by omega)]; omega), zsc_J hL (show p < L by omega), wb1, hc]
  rw [if_neg (show ¬ (10 : Int32) = 0 by decide), if_neg (show ¬ (10 : Int32) = 1 by decide), if_neg (show ¬ (10 : Int32) = 2 by decide), if_neg (show ¬ (10 : Int32) = 3 by decide), if_neg (show ¬ (10 : Int32) = 4 by decide), if_neg (show ¬ (10 : Int32) = 5 by decide), if_neg (show ¬ (10 : Int32) = 6 by decide), if_neg (show ¬ (10 : Int32) = 7 by decide), if_neg (show ¬ (10 : Int32) = 8 by decide), if_neg (show ¬ (10 : Int32) = 9 by decide), if_pos rfl]
  rw [show zsc xs L (J p + 1) = some (xs (p + 1)) from hz 1 (by omega), wb1, show zsc xs L (J p + 2) = some (xs (p + 2)) from hz 2 (by omega), wb1, show zsc xs L (J p + 3) = some (xs (p + 3)) from hz 3 (by omega), wb1, show zsc xs L (J p + 4) = some (xs (p + 4)) from hz 4 (by omega), wb1, show zsc xs L (J p + 5) = some (xs (p + 5)) from hz 5 (by omega), wb1, b_if, wb1, hμ, a, wb1, wb1, wb1, wb1, wb1, wb1, b_if, wb1, h4, b, wb2, if_pos rfl]
theorem LW_11 {xs : Nat → Int32} {L p X : Nat} {μ m4 m10 : zM} (hμ : μ.2.1 = X) (h4 : m4.2.1 = X + 95) (hL : L ≤ 4096) (hp : p + 8 ≤ L) (hW : WS X m10) (hc : xs p &&& 63 = 11) : ∃ m', WS X m' ∧ ∀ F, fL_law_l xs L μ m4 F (J p) m10 = F (J p + 8) m' := by
  obtain ⟨ν, sh, U, M, rfl, h⟩ := hW
  have hz : ∀ j, j < 8 → zsc xs L (J p + J j) = some (xs (p + j)) := fun j hj => by rw [J_add]; exact zsc_J hL (by omega)
  obtain ⟨v, m2, a, b, w⟩ := T_crowd h (xs (p + 1)) (xs (p + 2)) (xs (p + 3)) (if xs (p + 4) = 0 then 0 else 1)
  have b : fX12_crowd (mm X ν sh U M) (X + 95) (xs (p + 1)) (xs (p + 2)) (xs (p + 3)) (if xs (p + 4) = 0 then 0 else 1) = some (v, m2) := b
  refine ⟨m2, w, fun F => ?_⟩
  unfold fL_law_l
  rw [if_neg (show ¬ Int32.ofNat L - 8 < J p by rw [L_gt hL (by omega)]; omega), zsc_J hL (show p < L by omega), wb1, hc]
  rw [if_neg (show ¬ (11 : Int32) = 0 by decide), if_neg (show ¬ (11 : Int32) = 1 by decide), if_neg (show ¬ (11 : Int32) = 2 by decide), if_neg (show ¬ (11 : Int32) = 3 by decide), if_neg (show ¬ (11 : Int32) = 4 by decide), if_neg (show ¬ (11 : Int32) = 5 by decide), if_neg (show ¬ (11 : Int32) = 6 by decide), if_neg (show ¬ (11 : Int32) = 7 by decide), if_neg (show ¬ (11 : Int32) = 8 by decide), if_neg (show ¬ (11 : Int32) = 9 by decide), if_neg (show ¬ (11 : Int32) = 10 by decide), if_pos rfl]
  rw [show zsc xs L (J p + 1) = some (xs (p + 1)) from hz 1 (by omega), wb1, show zsc xs L (J p + 2) = some (xs (p + 2)) from hz 2 (by omega), wb1, show zsc xs L (J p + 3) = some (xs (p + 3)) from hz 3 (by omega), wb1, show zsc xs L (J p + 4) = some (xs (p + 4)) from hz 4 (by omega), wb1, b_if, wb1, hμ, a, wb1, wb1, wb1, wb1, wb1, b_if, wb1, h4, b, wb2, if_pos rfl]
theorem LW_12 {xs : Nat → Int32} {L p X : Nat} {μ m4 m10 : zM} (hμ : μ.2.1 = X) (h4 : m4.2.1 = X + 95) (hL : L ≤ 4096) (hp : p + 8 ≤ L) (hW : WS X m10) (hc : xs p &&& 63 = 12) : ∃ m', WS X m' ∧ ∀ F, fL_law_l xs L μ m4 F (J p) m10 = F (J p + 8) m' := by
  obtain ⟨ν, sh, U, M, rfl, h⟩ := hW
  have hz : ∀ j, j < 8 → zsc xs L (J p + J j) = some (xs (p + j)) := fun j hj => by rw [J_add]; exact zsc_J hL (by omega)
  obtain ⟨v, m2, a, b, w⟩ := T_chain h (xs (p + 1)) (xs (p + 2)) (xs (p + 3))
  have b : fX12_chain (mm X ν sh U M) (X + 95) (xs (p + 1)) (xs (p + 2)) (xs (p + 3)) = some (v, m2) := b
  refine ⟨m2, w, fun F => ?_⟩
  unfold fL_law_l
  rw [if_neg (show ¬ Int32.ofNat L - 8 < J p by rw [L_gt hL (by omega)]; omega), zsc_J hL (show p < L by omega), wb1, hc]
  rw [if_neg (show ¬ (12 : Int32) = 0 by decide), if_neg (show ¬ (12 : Int32) = 1 by decide), if_neg (show ¬ (12 : Int32) = 2 by decide), if_neg (show ¬ (12 : Int32) = 3 by decide), if_neg (show ¬ (12 : Int32) = 4 by decide), if_neg (show ¬ (12 : Int32) = 5 by decide), if_neg (show ¬ (12 : Int32) = 6 by decide), if_neg (show ¬ (12 : Int32) = 7 by decide), if_neg (show ¬ (12 : Int32) = 8 by decide), if_neg (show ¬ (12 : Int32) = 9 by decide), if_neg (show ¬ (12 : Int32) = 10 by decide), if_neg (show ¬ (12 : Int32) = 11 by decide), if_pos rfl]
  rw [show zsc xs L (J p + 1) = some (xs (p + 1)) from hz 1 (by omega), wb1, show zsc xs L (J p + 2) = some (xs (p + 2)) from hz 2 (by omega), wb1, show zsc xs L (J p + 3) = some (xs (p + 3)) from hz 3 (by omega), wb1, hμ, a, wb1, wb1, wb1, wb1, h4, b, wb2, if_pos rfl]
theorem LW_13 {xs : Nat → Int32} {L p X : Nat} {μ m4 m10 : zM} (hμ : μ.2.1 = X) (h4 : m4.2.1 = X + 95) (hL : L ≤ 4096) (hp : p + 8 ≤ L) (hW : WS X m10) (hc : xs p &&& 63 = 13) : ∃ m', WS X m' ∧ ∀ F, fL_law_l xs L μ m4 F (J p) m10 = F (J p + 8) m' := by
  obtain ⟨ν, sh, U, M, rfl, h⟩ := hW
  have hz : ∀ j, j < 8 → zsc xs L (J p + J j) = some (xs (p + j)) := fun j hj => by rw [J_add]; exact zsc_J hL (by omega)
  obtain ⟨v, m2, a, b, w⟩ := T_late h (xs (p + 1)) (xs (p + 2)) (xs (p + 3))
  have b : fX12_late (mm X ν sh U M) (X + 95) (xs (p + 1)) (xs (p + 2)) (xs (p + 3)) = some (v, m2) := b
  refine ⟨m2, w, fun F => ?_⟩
  unfold fL_law_l
  rw [if_neg (show ¬ Int32.ofNat L - 8 < J p by rw [L_gt hL (by omega)]; omega), zsc_J hL (show p < L by omega), wb1, hc]
  rw [if_neg (show ¬ (13 : Int32) = 0 by decide), if_neg (show ¬ (13 : Int32) = 1 by decide), if_neg (show ¬ (13 : Int32) = 2 by decide), if_neg (show ¬ (13 : Int32) = 3 by decide), if_neg (show ¬ (13 : Int32) = 4 by decide), if_neg (show ¬ (13 : Int32) = 5 by decide), if_neg (show ¬ (13 : Int32) = 6 by decide), if_neg (show ¬ (13 : Int32) = 7 by decide), if_neg (show ¬ (13 : Int32) = 8 by decide), if_neg (show ¬ (13 : Int32) = 9 by decide), if_neg (show ¬ (13 : Int32) = 10 by decide), if_neg (show ¬ (13 : Int32) = 11 by decide), if_neg (show ¬ (13 : Int32) = 12 by decide), if_pos rfl]
  rw [show zsc xs L (J p + 1) = some (xs (p + 1)) from hz 1 (by omega), wb1, show zsc xs L (J p + 2) = some (xs (p + 2)) from hz 2 (by omega), wb1, show zsc xs L (J p + 3) = some (xs (p + 3)) from hz 3 (by omega), wb1, hμ, a, wb1, wb1, wb1, wb1, h4, b, wb2, if_pos rfl]
theorem LW_14 {xs : Nat → Int32} {L p X : Nat} {μ m4 m10 : zM} (hμ : μ.2.1 = X) (h4 : m4.2.1 = X + 95) (hL : L ≤ 4096) (hp : p + 8 ≤ L) (hW : WS X m10) (hc : xs p &&& 63 = 14) : ∃ m', WS X m' ∧ ∀ F, fL_law_l xs L μ m4 F (J p) m10 = F (J p + 8) m' := by
  obtain ⟨ν, sh, U, M, rfl, h⟩ := hW
  have hz : ∀ j, j < 8 → zsc xs L (J p + J j) = some (xs (p + j)) := fun j hj => by rw [J_add]; exact zsc_J hL (by omega)
  obtain ⟨v, m2, a, b, w⟩ := T_market h (xs (p + 1)) (xs (p + 2))
  have b : fX12_market (mm X ν sh U M) (X + 95) (xs (p + 1)) (xs (p + 2)) = some (v, m2) := b
  refine ⟨m2, w, fun F => ?_⟩
  unfold fL_law_l
  rw [if_neg (show ¬ Int32.ofNat L - 8 < J p by rw [L_gt hL (by omega)]; omega), zsc_J hL (show p < L by omega), wb1, hc]
  rw [if_neg (show ¬ (14 : Int32) = 0 by decide), if_neg (show ¬ (14 : Int32) = 1 by decide), if_neg (show ¬ (14 : Int32) = 2 by decide), if_neg (show ¬ (14 : Int32) = 3 by decide), if_neg (show ¬ (14 : Int32) = 4 by decide), if_neg (show ¬ (14 : Int32) = 5 by decide), if_neg (show ¬ (14 : Int32) = 6 by decide), if_neg (show ¬ (14 : Int32) = 7 by decide), if_neg (show ¬ (14 : Int32) = 8 by decide), if_neg (show ¬ (14 : Int32) = 9 by decide), if_neg (show ¬ (14 : Int32) = 10 by decide), if_neg (show ¬ (14 : Int32) = 11 by decide), if_neg (show ¬ (14 : Int32) = 12 by decide), if_neg (show ¬ (14 : Int32) = 13 by decide), if_pos rfl]
  rw [show zsc xs L (J p + 1) = some (xs (p + 1)) from hz 1 (by omega), wb1, show zsc xs L (J p + 2) = some (xs (p + 2)) from hz 2 (by omega), wb1, hμ, a, wb1, wb1, wb1, h4, b, wb2, if_pos rfl]
theorem LW_15 {xs : Nat → Int32} {L p X : Nat} {μ m4 m10 : zM} (hμ : μ.2.1 = X) (h4 : m4.2.1 = X + 95) (hL : L ≤ 4096) (hp : p + 8 ≤ L) (hW : WS X m10) (hc : xs p &&& 63 = 15) : ∃ m', WS X m' ∧ ∀ F, fL_law_l xs L μ m4 F (J p) m10 = F (J p + 8) m' := by
  obtain ⟨ν, sh, U, M, rfl, h⟩ := hW
  have hz : ∀ j, j < 8 → zsc xs L (J p + J j) = some (xs (p + j)) := fun j hj => by rw [J_add]; exact zsc_J hL (by omega)
  obtain ⟨v, m1, m2, a, b, w⟩ := T_bargain h (xs (p + 1)) (xs (p + 2)) (xs (p + 3)) (if xs (p + 4) = 0 then 0 else 1) b_01
  have b : fX12_bargain m1 (X + 95) (xs (p + 1)) (xs (p + 2)) (xs (p + 3)) (if xs (p + 4) = 0 then 0 else 1) = some (v, m2) := b
  refine ⟨m2, w, fun F => ?_⟩
  unfold fL_law_l
  rw [if_neg (show ¬ Int32.ofNat L - 8 < J p by rw [L_gt hL (by omega)]; omega), zsc_J hL (show p < L by omega), wb1, hc]
  rw [if_neg (show ¬ (15 : Int32) = 0 by decide), if_neg (show ¬ (15 : Int32) = 1 by decide), if_neg (show ¬ (15 : Int32) = 2 by decide), if_neg (show ¬ (15 : Int32) = 3 by decide), if_neg (show ¬ (15 : Int32) = 4 by decide), if_neg (show ¬ (15 : Int32) = 5 by decide), if_neg (show ¬ (15 : Int32) = 6 by decide), if_neg (show ¬ (15 : Int32) = 7 by decide), if_neg (show ¬ (15 : Int32) = 8 by decide), if_neg (show ¬ (15 : Int32) = 9 by decide), if_neg (show ¬ (15 : Int32) = 10 by decide), if_neg (show ¬ (15 : Int32) = 11 by decide), if_neg (show ¬ (15 : Int32) = 12 by decide), if_neg (show ¬ (15 : Int32) = 13 by decide), if_neg (show ¬ (15 : Int32) = 14 by decide), if_pos rfl]
  rw [show zsc xs L (J p + 1) = some (xs (p + 1)) from hz 1 (by omega), wb1, show zsc xs L (J p + 2) = some (xs (p + 2)) from hz 2 (by omega), wb1, show zsc xs L (J p + 3) = some (xs (p + 3)) from hz 3 (by omega), wb1, show zsc xs L (J p + 4) = some (xs (p + 4)) from hz 4 (by omega), wb1, b_if, wb1, hμ, a, wb2, wb1, wb1, wb1, wb1, b_if, wb1, h4, b, wb2, if_pos rfl]
theorem LW_16 {xs : Nat → Int32} {L p X : Nat} {μ m4 m10 : zM} (hμ : μ.2.1 = X) (h4 : m4.2.1 = X + 95) (hL : L ≤ 4096) (hp : p + 8 ≤ L) (hW : WS X m10) (hc : xs p &&& 63 = 16) : ∃ m', WS X m' ∧ ∀ F, fL_law_l xs L μ m4 F (J p) m10 = F (J p + 8) m' := by
  obtain ⟨ν, sh, U, M, rfl, h⟩ := hW
  have hz : ∀ j, j < 8 → zsc xs L (J p + J j) = some (xs (p + j)) := fun j hj => by rw [J_add]; exact zsc_J hL (by omega)
  obtain ⟨v, m1, m2, a, b, w⟩ := T_talk h (xs (p + 1)) (xs (p + 2))
  have b : fX12_talk m1 (X + 95) (xs (p + 1)) (xs (p + 2)) = some (v, m2) := b
  refine ⟨m2, w, fun F => ?_⟩
  unfold fL_law_l
  rw [if_neg (show ¬ Int32.ofNat L - 8 < J p by rw [L_gt hL (by omega)]; omega), zsc_J hL (show p < L by omega), wb1, hc]
  rw [if_neg (show ¬ (16 : Int32) = 0 by decide), if_neg (show ¬ (16 : Int32) = 1 by decide), if_neg (show ¬ (16 : Int32) = 2 by decide), if_neg (show ¬ (16 : Int32) = 3 by decide), if_neg (show ¬ (16 : Int32) = 4 by decide), if_neg (show ¬ (16 : Int32) = 5 by decide), if_neg (show ¬ (16 : Int32) = 6 by decide), if_neg (show ¬ (16 : Int32) = 7 by decide), if_neg (show ¬ (16 : Int32) = 8 by decide), if_neg (show ¬ (16 : Int32) = 9 by decide), if_neg (show ¬ (16 : Int32) = 10 by decide), if_neg (show ¬ (16 : Int32) = 11 by decide), if_neg (show ¬ (16 : Int32) = 12 by decide), if_neg (show ¬ (16 : Int32) = 13 by decide), if_neg (show ¬ (16 : Int32) = 14 by decide), if_neg (show ¬ (16 : Int32) = 15 by decide), if_pos rfl]
  rw [show zsc xs L (J p + 1) = some (xs (p + 1)) from hz 1 (by omega), wb1, show zsc xs L (J p + 2) = some (xs (p + 2)) from hz 2 (by omega), wb1, hμ, a, wb2, wb1, wb1, h4, b, wb2, if_pos rfl]
theorem LW_17 {xs : Nat → Int32} {L p X : Nat} {μ m4 m10 : zM} (hμ : μ.2.1 = X) (h4 : m4.2.1 = X + 95) (hL : L ≤ 4096) (hp : p + 8 ≤ L) (hW : WS X m10) (hc : xs p &&& 63 = 17) : ∃ m', WS X m' ∧ ∀ F, fL_law_l xs L μ m4 F (J p) m10 = F (J p + 8) m' := by
  obtain ⟨ν, sh, U, M, rfl, h⟩ := hW
  have hz : ∀ j, j < 8 → zsc xs L (J p + J j) = some (xs (p + j)) := fun j hj => by rw [J_add]; exact zsc_J hL (by omega)
  obtain ⟨v, m2, a, b, w⟩ := T_lesson h (xs (p + 1)) (xs (p + 2))
  have b : fX12_lesson (mm X ν sh U M) (X + 95) (xs (p + 1)) (xs (p + 2)) = some (v, m2) := b
  refine ⟨m2, w, fun F => ?_⟩
  unfold fL_law_l
  rw [if_neg (show ¬ Int32.ofNat L - 8 < J p by rw [L_gt hL (by omega)]; omega), zsc_J hL (show p < L by omega), wb1, hc]
  rw [if_neg (show ¬ (17 : Int32) = 0 by decide), if_neg (show ¬ (17 : Int32) = 1 by decide), if_neg (show ¬ (17 : Int32) = 2 by decide), if_neg (show ¬ (17 : Int32) = 3 by decide), if_neg (show ¬ (17 : Int32) = 4 by decide), if_neg (show ¬ (17 : Int32) = 5 by decide), if_neg (show ¬ (17 : Int32) = 6 by decide), if_neg (show ¬ (17 : Int32) = 7 by decide), if_neg (show ¬ (17 : Int32) = 8 by decide), if_neg (show ¬ (17 : Int32) = 9 by decide), if_neg (show ¬ (17 : Int32) = 10 by decide), if_neg (show ¬ (17 : Int32) = 11 by decide), if_neg (show ¬ (17 : Int32) = 12 by decide), if_neg (show ¬ (17 : Int32) = 13 by decide), if_neg (show ¬ (17 : Int32) = 14 by decide), if_neg (show ¬ (17 : Int32) = 15 by decide), if_neg (show ¬ (17 : Int32) = 16 by decide), if_pos rfl]
  rw [show zsc xs L (J p + 1) = some (xs (p + 1)) from hz 1 (by omega), wb1, show zsc xs L (J p + 2) = some (xs (p + 2)) from hz 2 (by omega), wb1, hμ, a, wb1, wb1, wb1, h4, b, wb2, if_pos rfl]
theorem LW_18 {xs : Nat → Int32} {L p X : Nat} {μ m4 m10 : zM} (hμ : μ.2.1 = X) (h4 : m4.2.1 = X + 95) (hL : L ≤ 4096) (hp : p + 8 ≤ L) (hW : WS X m10) (hc : xs p &&& 63 = 18) : ∃ m', WS X m' ∧ ∀ F, fL_law_l xs L μ m4 F (J p) m10 = F (J p + 8) m' := by
  obtain ⟨ν, sh, U, M, rfl, h⟩ := hW
  have hz : ∀ j, j < 8 → zsc xs L (J p + J j) = some (xs (p + j)) := fun j hj => by rw [J_add]; exact zsc_J hL (by omega)
  obtain ⟨v, m2, a, b, w⟩ := T_rules h (xs (p + 1)) (xs (p + 2))
  have b : fX12_rules (mm X ν sh U M) (X + 95) (xs (p + 1)) (xs (p + 2)) = some (v, m2) := b
  refine ⟨m2, w, fun F => ?_⟩
  unfold fL_law_l
  rw [if_neg (show ¬ Int32.ofNat L - 8 < J p by rw [L_gt hL (by omega)]; omega), zsc_J hL (show p < L by omega), wb1, hc]
  rw [if_neg (show ¬ (18 : Int32) = 0 by decide), if_neg (show ¬ (18 : Int32) = 1 by decide), if_neg (show ¬ (18 : Int32) = 2 by decide), if_neg (show ¬ (18 : Int32) = 3 by decide), if_neg (show ¬ (18 : Int32) = 4 by decide), if_neg (show ¬ (18 : Int32) = 5 by decide), if_neg (show ¬ (18 : Int32) = 6 by decide), if_neg (show ¬ (18 : Int32) = 7 by decide), if_neg (show ¬ (18 : Int32) = 8 by decide), if_neg (show ¬ (18 : Int32) = 9 by decide), if_neg (show ¬ (18 : Int32) = 10 by decide), if_neg (show ¬ (18 : Int32) = 11 by decide), if_neg (show ¬ (18 : Int32) = 12 by decide), if_neg (show ¬ (18 : Int32) = 13 by decide), if_neg (show ¬ (18 : Int32) = 14 by decide), if_neg (show ¬ (18 : Int32) = 15 by decide), if_neg (show ¬ (18 : Int32) = 16 by decide), if_neg (show ¬ (18 : Int32) = 17 by decide), if_pos rfl]
  rw [show zsc xs L (J p + 1) = some (xs (p + 1)) from hz 1 (by omega), wb1, show zsc xs L (J p + 2) = some (xs (p + 2)) from hz 2 (by omega), wb1, hμ, a, wb1, wb1, wb1, h4, b, wb2, if_pos rfl]
theorem LW_19 {xs : Nat → Int32} {L p X : Nat} {μ m4 m10 : zM} (hμ : μ.2.1 = X) (h4 : m4.2.1 = X + 95) (hL : L ≤ 4096) (hp : p + 8 ≤ L) (hW : WS X m10) (hc : xs p &&& 63 = 19) : ∃ m', WS X m' ∧ ∀ F, fL_law_l xs L μ m4 F (J p) m10 = F (J p + 8) m' := by
  obtain ⟨ν, sh, U, M, rfl, h⟩ := hW
  have hz : ∀ j, j < 8 → zsc xs L (J p + J j) = some (xs (p + j)) := fun j hj => by rw [J_add]; exact zsc_J hL (by omega)
  obtain ⟨v, m2, a, b, w⟩ := T_fact h (xs (p + 1)) (xs (p + 2)) (xs (p + 3))
  have b : fX12_fact (mm X ν sh U M) (X + 95) (xs (p + 1)) (xs (p + 2)) (xs (p + 3)) = some (v, m2) := b
  refine ⟨m2, w, fun F => ?_⟩
  unfold fL_law_l
  rw [if_neg (show ¬ Int32.ofNat L - 8 < J p by rw [L_gt hL (by omega)]; omega), zsc_J hL (show p < L by omega), wb1, hc]
  rw [if_neg (show ¬ (19 : Int32) = 0 by decide), if_neg (show ¬ (19 : Int32) = 1 by decide), if_neg (show ¬ (19 : Int32) = 2 by decide), if_neg (show ¬ (19 : Int32) = 3 by decide), if_neg (show ¬ (19 : Int32) = 4 by decide), if_neg (show ¬ (19 : Int32) = 5 by decide), if_neg (show ¬ (19 : Int32) = 6 by decide), if_neg (show ¬ (19 : Int32) = 7 by decide), if_neg (show ¬ (19 : Int32) = 8 by decide), if_neg (show ¬ (19 : Int32) = 9 by decide), if_neg (show ¬ (19 : Int32) = 10 by decide), if_neg (show ¬ (19 : Int32) = 11 by decide), if_neg (show ¬ (19 : Int32) = 12 by decide), if_neg (show ¬ (19 : Int32) = 13 by decide), if_neg (show ¬ (19 : Int32) = 14 by decide), if_neg (show ¬ (19 : Int32) = 15 by decide), if_neg (show ¬ (19 : Int32) = 16 by decide), if_neg (show ¬ (19 : Int32) = 17 by decide), if_neg (show ¬ (19 : Int32) = 18 by decide), if_pos rfl]
  rw [show zsc xs L (J p + 1) = some (xs (p + 1)) from hz 1 (by omega), wb1, show zsc xs L (J p + 2) = some (xs (p + 2)) from hz 2 (by omega), wb1, show zsc xs L (J p + 3) = some (xs (p + 3)) from hz 3 (by omega), wb1, hμ, a, wb1, wb1, wb1, wb1, h4, b, wb2, if_pos rfl]
theorem LW_20 {xs : Nat → Int32} {L p X : Nat} {μ m4 m10 : zM} (hμ : μ.2.1 = X) (h4 : m4.2.1 = X + 95) (hL : L ≤ 4096) (hp : p + 8 ≤ L) (hW : WS X m10) (hc : xs p &&& 63 = 20) : ∃ m', WS X m' ∧ ∀ F, fL_law_l xs L μ m4 F (J p) m10 = F (J p + 8) m' := by
  obtain ⟨ν, sh, U, M, rfl, h⟩ := hW
  have hz : ∀ j, j < 8 → zsc xs L (J p + J j) = some (xs (p + j)) := fun j hj => by rw [J_add]; exact zsc_J hL (by omega)
  obtain ⟨v, m2, a, b, w⟩ := T_said h (xs (p + 1)) (xs (p + 2)) (xs (p + 3))
  have b : fX12_said (mm X ν sh U M) (X + 95) (xs (p + 1)) (xs (p + 2)) (xs (p + 3)) = some (v, m2) := b
  refine ⟨m2, w, fun F => ?_⟩
  unfold fL_law_l
  rw [if_neg (show ¬ Int32.ofNat L - 8 < J p by rw [L_gt hL (by omega)]; omega), zsc_J hL (show p < L by omega), wb1, hc]
  rw [if_neg (show ¬ (20 : Int32) = 0 by decide), if_neg (show ¬ (20 : Int32) = 1 by decide), if_neg (show ¬ (20 : Int32) = 2 by decide), if_neg (show ¬ (20 : Int32) = 3 by decide), if_neg (show ¬ (20 : Int32) = 4 by decide), if_neg (show ¬ (20 : Int32) = 5 by decide), if_neg (show ¬ (20 : Int32) = 6 by decide), if_neg (show ¬ (20 : Int32) = 7 by decide), if_neg (show ¬ (20 : Int32) = 8 by decide), if_neg (show ¬ (20 : Int32) = 9 by decide), if_neg (show ¬ (20 : Int32) = 10 by decide), if_neg (show ¬ (20 : Int32) = 11 by decide), if_neg (show ¬ (20 : Int32) = 12 by decide), if_neg (show ¬ (20 : Int32) = 13 by decide), if_neg (show ¬ (20 : Int32) = 14 by decide), if_neg (show ¬ (20 : Int32) = 15 by decide), if_neg (show ¬ (20 : Int32) = 16 by decide), if_neg (show ¬ (20 : Int32) = 17 by decide), if_neg (show ¬ (20 : Int32) = 18 by decide), if_neg (show ¬ (20 : Int32) = 19 by decide), if_pos rfl]
  rw [show zsc xs L (J p + 1) = some (xs (p + 1)) from hz 1 (by omega), wb1, show zsc xs L (J p + 2) = some (xs (p + 2)) from hz 2 (by omega), wb1, show zsc xs L (J p + 3) = some (xs (p + 3)) from hz 3 (by omega), wb1, hμ, a, wb1, wb1, wb1, wb1, h4, b, wb2, if_pos rfl]
theorem LW_21 {xs : Nat → Int32} {L p X : Nat} {μ m4 m10 : zM} (hμ : μ.2.1 = X) (h4 : m4.2.1 = X + 95) (hL : L ≤ 4096) (hp : p + 8 ≤ L) (hW : WS X m10) (hc : xs p &&& 63 = 21) : ∃ m', WS X m' ∧ ∀ F, fL_law_l xs L μ m4 F (J p) m10 = F (J p + 8) m' := by
  obtain ⟨ν, sh, U, M, rfl, h⟩ := hW
  have hz : ∀ j, j < 8 → zsc xs L (J p + J j) = some (xs (p + j)) := fun j hj => by rw [J_add]; exact zsc_J hL (by omega)
  obtain ⟨v, m1, m2, a, b, w⟩ := T_spot h (xs (p + 1)) (xs (p + 2)) (if xs (p + 3) = 0 then 0 else 1)
  have b : fX12_spot m1 (X + 95) (xs (p + 1)) (xs (p + 2)) (if xs (p + 3) = 0 then 0 else 1) = some (v, m2) := b
  refine ⟨m2, w, fun F => ?_⟩
  unfold fL_law_l
  rw [if_neg (show ¬ Int32.ofNat L - 8 < J p by rw [L_gt hL (by omega)]; omega), zsc_J hL (show p < L by omega), wb1, hc]
  rw [if_neg (show ¬ (21 : Int32) = 0 by decide), if_neg (show ¬ (21 : Int32) = 1 by decide), if_neg (show ¬ (21 : Int32) = 2 by decide), if_neg (show ¬ (21 : Int32) = 3 by decide), if_neg (show ¬ (21 : Int32) = 4 by decide), if_neg (show ¬ (21 : Int32) = 5 by decide), if_neg (show ¬ (21 : Int32) = 6 by decide), if_neg (show ¬ (21 : Int32) = 7 by decide), if_neg (show ¬ (21 : Int32) = 8 by decide), if_neg (show ¬ (21 : Int32) = 9 by decide), if_neg (show ¬ (21 : Int32) = 10 by decide), if_neg (show ¬ (21 : Int32) = 11 by decide), if_neg (show ¬ (21 : Int32) = 12 by decide), if_neg (show ¬ (21 : Int32) = 13 by decide), if_neg (show ¬ (21 : Int32) = 14 by decide), if_neg (show ¬ (21 : Int32) = 15 by decide), if_neg (show ¬ (21 : Int32) = 16 by decide), if_neg (show ¬ (21 : Int32) = 17 by decide), if_neg (show ¬ (21 : Int32) = 18 by decide), if_neg (show ¬ (21 : Int32) = 19 by decide), if_neg (show ¬ (21 : Int32) = 20 by decide), if_pos rfl]
  rw [show zsc xs L (J p + 1) = some (xs (p + 1)) from hz 1 (by omega), wb1, show zsc xs L (J p + 2) = some (xs (p + 2)) from hz 2 (by omega), wb1, show zsc xs L (J p + 3) = some (xs (p + 3)) from hz 3 (by omega), wb1, b_if, wb1, hμ, a, wb2, wb1, wb1, wb1, b_if, wb1, h4, b, wb2, if_pos rfl]
theorem LW_22 {xs : Nat → Int32} {L p X : Nat} {μ m4 m10 : zM} (hμ : μ.2.1 = X) (h4 : m4.2.1 = X + 95) (hL : L ≤ 4096) (hp : p + 8 ≤ L) (hW : WS X m10) (hc : xs p &&& 63 = 22) : ∃ m', WS X m' ∧ ∀ F, fL_law_l xs L μ m4 F (J p) m10 = F (J p + 8) m' := by
  obtain ⟨ν, sh, U, M, rfl, h⟩ := hW
  have hz : ∀ j, j < 8 → zsc xs L (J p + J j) = some (xs (p + j)) := fun j hj => by rw [J_add]; exact zsc_J hL (by omega)
  obtain ⟨v, m1, m2, a, b, w⟩ := T_drawn h (xs (p + 1)) (xs (p + 2)) (xs (p + 3)) (xs (p + 4))
  have b : fX12_drawn m1 (X + 95) (xs (p + 1)) (xs (p + 2)) (xs (p + 3)) (xs (p + 4)) = some (v, m2) := b
  refine ⟨m2, w, fun F => ?_⟩
  unfold fL_law_l
  rw [if_neg (show ¬ Int32.ofNat L - 8 < J p by rw [L_gt hL (by omega)]; omega), zsc_J hL (show p < L by omega), wb1, hc]
  rw [if_neg (show ¬ (22 : Int32) = 0 by decide), if_neg (show ¬ (22 : Int32) = 1 by decide), if_neg (show ¬ (22 : Int32) = 2 by decide), if_neg (show ¬ (22 : Int32) = 3 by decide), if_neg (show ¬ (22 : Int32) = 4 by decide), if_neg (show ¬ (22 : Int32) = 5 by decide), if_neg (show ¬ (22 : Int32) = 6 by decide), if_neg (show ¬ (22 : Int32) = 7 by decide), if_neg (show ¬ (22 : Int32) = 8 by decide), if_neg (show ¬ (22 : Int32) = 9 by decide), if_neg (show ¬ (22 : Int32) = 10 by decide), if_neg (show ¬ (22 : Int32) = 11 by decide), if_neg (show ¬ (22 : Int32) = 12 by decide), if_neg (show ¬ (22 : Int32) = 13 by decide), if_neg (show ¬ (22 : Int32) = 14 by decide), if_neg (show ¬ (22 : Int32) = 15 by decide), if_neg (show ¬ (22 : Int32) = 16 by decide), if_neg (show ¬ (22 : Int32) = 17 by decide), if_neg (show ¬ (22 : Int32) = 18 by decide), if_neg (show ¬ (22 : Int32) = 19 by decide), if_neg (show ¬ (22 : Int32) = 20 by decide), if_neg (show ¬ (22 : Int32) = 21 by decide), if_pos rfl]
  rw [show zsc xs L (J p + 1) = some (xs (p + 1)) from hz 1 (by omega), wb1, show zsc xs L (J p + 2) = some (xs (p + 2)) from hz 2 (by omega), wb1, show zsc xs L (J p + 3) = some (xs (p + 3)) from hz 3 (by omega), wb1, show zsc xs L (J p + 4) = some (xs (p + 4)) from hz 4 (by omega), wb1, hμ, a, wb2, wb1, wb1, wb1, wb1, h4, b, wb2, if_pos rfl]
theorem LW_23 {xs : Nat → Int32} {L p X : Nat} {μ m4 m10 : zM} (hμ : μ.2.1 = X) (h4 : m4.2.1 = X + 95) (hL : L ≤ 4096) (hp : p + 8 ≤ L) (hW : WS X m10) (hc : xs p &&& 63 = 23) : ∃ m', WS X m' ∧ ∀ F, fL_law_l xs L μ m4 F (J p) m10 = F (J p + 8) m' := by
  obtain ⟨ν, sh, U, M, rfl, h⟩ := hW
  have hz : ∀ j, j < 8 → zsc xs L (J p + J j) = some (xs (p + j)) := fun j hj => by rw [J_add]; exact zsc_J hL (by omega)
  obtain ⟨v, m2, a, b, w⟩ := T_rings h (xs (p + 1)) (xs (p + 2))
  have b : fX12_rings (mm X ν sh U M) (X + 95) (xs (p + 1)) (xs (p + 2)) = some (v, m2) := b
  refine ⟨m2, w, fun F => ?_⟩
  unfold fL_law_l
  rw [if_neg (show ¬ Int32.ofNat L - 8 < J p by rw [L_gt hL (by omega)]; omega), zsc_J hL (show p < L by omega), wb1, hc]
  rw [if_neg (show ¬ (23 : Int32) = 0 by decide), if_neg (show ¬ (23 : Int32) = 1 by decide), if_neg (show ¬ (23 : Int32) = 2 by decide), if_neg (show ¬ (23 : Int32) = 3 by decide), if_neg (show ¬ (23 : Int32) = 4 by decide), if_neg (show ¬ (23 : Int32) = 5 by decide), if_neg (show ¬ (23 : Int32) = 6 by decide), if_neg (show ¬ (23 : Int32) = 7 by decide), if_neg (show ¬ (23 : Int32) = 8 by decide), if_neg (show ¬ (23 : Int32) = 9 by decide), if_neg (show ¬ (23 : Int32) = 10 by decide), if_neg (show ¬ (23 : Int32) = 11 by decide), if_neg (show ¬ (23 : Int32) = 12 by decide), if_neg (show ¬ (23 : Int32) = 13 by decide), if_neg (show ¬ (23 : Int32) = 14 by decide), if_neg (show ¬ (23 : Int32) = 15 by decide), if_neg (show ¬ (23 : Int32) = 16 by decide), if_neg (show ¬ (23 : Int32) = 17 by decide), if_neg (show ¬ (23 : Int32) = 18 by decide), if_neg (show ¬ (23 : Int32) = 19 by decide), if_neg (show ¬ (23 : Int32) = 20 by decide), if_neg (show ¬ (23 : Int32) = 21 by decide), if_neg (show ¬ (23 : Int32) = 22 by decide), if_pos rfl]
  rw [show zsc xs L (J p + 1) = some (xs (p + 1)) from hz 1 (by omega), wb1, show zsc xs L (J p + 2) = some (xs (p + 2)) from hz 2 (by omega), wb1, hμ, a, wb1, wb1, wb1, h4, b, wb2, if_pos rfl]
theorem LW_24 {xs : Nat → Int32} {L p X : Nat} {μ m4 m10 : zM} (hμ : μ.2.1 = X) (h4 : m4.2.1 = X + 95) (hL : L ≤ 4096) (hp : p + 8 ≤ L) (hW : WS X m10) (hc : xs p &&& 63 = 24) : ∃ m', WS X m' ∧ ∀ F, fL_law_l xs L μ m4 F (J p) m10 = F (J p + 8) m' := by
  obtain ⟨ν, sh, U, M, rfl, h⟩ := hW
  have hz : ∀ j, j < 8 → zsc xs L (J p + J j) = some (xs (p + j)) := fun j hj => by rw [J_add]; exact zsc_J hL (by omega)
  obtain ⟨v, m2, a, b, w⟩ := T_unsure h (xs (p + 1)) (xs (p + 2)) (if xs (p + 3) = 0 then 0 else 1) b_01
  have b : fX12_unsure (mm X ν sh U M) (X + 95) (xs (p + 1)) (xs (p + 2)) (if xs (p + 3) = 0 then 0 else 1) = some (v, m2) := b
  refine ⟨m2, w, fun F => ?_⟩
  unfold fL_law_l
  rw [if_neg (show ¬ Int32.ofNat L - 8 < J p by rw [L_gt hL (by omega)]; omega), zsc_J hL (show p < L by omega), wb1, hc]
  rw [if_neg (show ¬ (24 : Int32) = 0 by decide), if_neg (show ¬ (24 : Int32) = 1 by decide), if_neg (show ¬ (24 : Int32) = 2 by decide), if_neg (show ¬ (24 : Int32) = 3 by decide), if_neg (show ¬ (24 : Int32) = 4 by decide), if_neg (show ¬ (24 : Int32) = 5 by decide), if_neg (show ¬ (24 : Int32) = 6 by decide), if_neg (show ¬ (24 : Int32) = 7 by decide), if_neg (show ¬ (24 : Int32) = 8 by decide), if_neg (show ¬ (24 : Int32) = 9 by decide), if_neg (show ¬ (24 : Int32) = 10 by decide), if_neg (show ¬ (24 : Int32) = 11 by decide), if_neg (show ¬ (24 : Int32) = 12 by decide), if_neg (show ¬ (24 : Int32) = 13 by decide), if_neg (show ¬ (24 : Int32) = 14 by decide), if_neg (show ¬ (24 : Int32) = 15 by decide), if_neg (show ¬ (24 : Int32) = 16 by decide), if_neg (show ¬ (24 : Int32) = 17 by decide), if_neg (show ¬ (24 : Int32) = 18 by decide), if_neg (show ¬ (24 : Int32) = 19 by decide), if_neg (show ¬ (24 : Int32) = 20 by decide), if_neg (show ¬ (24 : Int32) = 21 by decide), if_neg (show ¬ (24 : Int32) = 22 by decide), if_neg (show ¬ (24 : Int32) = 23 by decide), if_pos rfl]
  rw [show zsc xs L (J p + 1) = some (xs (p + 1)) from hz 1 (by omega), wb1, show zsc xs L (J p + 2) = some (xs (p + 2)) from hz 2 (by omega), wb1, show zsc xs L (J p + 3) = some (xs (p + 3)) from hz 3 (by omega), wb1, b_if, wb1, hμ, a, wb1, wb1, wb1, wb1, b_if, wb1, h4, b, wb2, lg_0, if_pos rfl]
theorem LW_25 {xs : Nat → Int32} {L p X : Nat} {μ m4 m10 : zM} (hμ : μ.2.1 = X) (h4 : m4.2.1 = X + 95) (hL : L ≤ 4096) (hp : p + 8 ≤ L) (hW : WS X m10) (hc : xs p &&& 63 = 25) : ∃ m', WS X m' ∧ ∀ F, fL_law_l xs L μ m4 F (J p) m10 = F (J p + 8) m' := by
  obtain ⟨ν, sh, U, M, rfl, h⟩ := hW
  have hz : ∀ j, j < 8 → zsc xs L (J p + J j) = some (xs (p + j)) := fun j hj => by rw [J_add]; exact zsc_J hL (by omega)
  obtain ⟨v, m1, m2, a, b, w⟩ := T_spread h (xs (p + 1)) (xs (p + 2)) (xs (p + 3)) (if xs (p + 4) = 0 then 0 else 1)
  have b : fX12_spread m1 (X + 95) (xs (p + 1)) (xs (p + 2)) (xs (p + 3)) (if xs (p + 4) = 0 then 0 else 1) = some (v, m2) := b
  refine ⟨m2, w, fun F => ?_⟩
  unfold fL_law_l
  rw [if_neg (show ¬ Int32.ofNat L - 8 < J p by rw [L_gt hL (by omega)]; omega), zsc_J hL (show p < L by omega), wb1, hc]
  rw [if_neg (show ¬ (25 : Int32) = 0 by decide), if_neg (show ¬ (25 : Int32) = 1 by decide), if_neg (show ¬ (25 : Int32) = 2 by decide), if_neg (show ¬ (25 : Int32) = 3 by decide), if_neg (show ¬ (25 : Int32) = 4 by decide), if_neg (show ¬ (25 : Int32) = 5 by decide), if_neg (show ¬ (25 : Int32) = 6 by decide), if_neg (show ¬ (25 : Int32) = 7 by decide), if_neg (show ¬ (25 : Int32) = 8 by decide), if_neg (show ¬ (25 : Int32) = 9 by decide), if_neg (show ¬ (25 : Int32) = 10 by decide), if_neg (show ¬ (25 : Int32) = 11 by decide), if_neg (show ¬ (25 : Int32) = 12 by decide), if_neg (show ¬ (25 : Int32) = 13 by decide), if_neg (show ¬ (25 : Int32) = 14 by decide), if_neg (show ¬ (25 : Int32) = 15 by decide), if_neg (show ¬ (25 : Int32) = 16 by decide), if_neg (show ¬ (25 : Int32) = 17 by decide), if_neg (show ¬ (25 : Int32) = 18 by decide), if_neg (show ¬ (25 : Int32) = 19 by decide), if_neg (show ¬ (25 : Int32) = 20 by decide), if_neg (show ¬ (25 : Int32) = 21 by decide), if_neg (show ¬ (25 : Int32) = 22 by decide), if_neg (show ¬ (25 : Int32) = 23 by decide), if_neg (show ¬ (25 : Int32) = 24 by decide), if_pos rfl]
  rw [show zsc xs L (J p + 1) = some (xs (p + 1)) from hz 1 (by omega), wb1, show zsc xs L (J p + 2) = some (xs (p + 2)) from hz 2 (by omega), wb1, show zsc xs L (J p + 3) = some (xs (p + 3)) from hz 3 (by omega), wb1, show zsc xs L (J p + 4) = some (xs (p + 4)) from hz 4 (by omega), wb1, b_if, wb1, hμ, a, wb2, wb1, wb1, wb1, wb1, b_if, wb1, h4, b, wb2, if_pos rfl]
theorem LW_26 {xs : Nat → Int32} {L p X : Nat} {μ m4 m10 : zM} (hμ : μ.2.1 = X) (h4 : m4.2.1 = X + 95) (hL : L ≤ 4096) (hp : p + 8 ≤ L) (hW : WS X m10) (hc : xs p &&& 63 = 26) : ∃ m', WS X m' ∧ ∀ F, fL_law_l xs L μ m4 F (J p) m10 = F (J p + 8) m' := by
  obtain ⟨ν, sh, U, M, rfl, h⟩ := hW
  have hz : ∀ j, j < 8 → zsc xs L (J p + J j) = some (xs (p + j)) := fun j hj => by rw [J_add]; exact zsc_J hL (by omega)
  obtain ⟨v, m2, a, b, w⟩ := T_guards h (xs (p + 1)) (xs (p + 2))
  have b : fX12_guards (mm X ν sh U M) (X + 95) (xs (p + 1)) (xs (p + 2)) = some (v, m2) := b
  refine ⟨m2, w, fun F => ?_⟩
  unfold fL_law_l
  rw [if_neg (show ¬ Int32.ofNat L - 8 < J p by rw [L_gt hL (by omega)]; omega), zsc_J hL (show p < L by omega), wb1, hc]
  rw [if_neg (show ¬ (26 : Int32) = 0 by decide), if_neg (show ¬ (26 : Int32) = 1 by decide), if_neg (show ¬ (26 : Int32) = 2 by decide), if_neg (show ¬ (26 : Int32) = 3 by decide), if_neg (show ¬ (26 : Int32) = 4 by decide), if_neg (show ¬ (26 : Int32) = 5 by decide), if_neg (show ¬ (26 : Int32) = 6 by decide), if_neg (show ¬ (26 : Int32) = 7 by decide), if_neg (show ¬ (26 : Int32) = 8 by decide), if_neg (show ¬ (26 : Int32) = 9 by decide), if_neg (show ¬ (26 : Int32) = 10 by decide), if_neg (show ¬ (26 : Int32) = 11 by decide), if_neg (show ¬ (26 : Int32) = 12 by decide), if_neg (show ¬ (26 : Int32) = 13 by decide), if_neg (show ¬ (26 : Int32) = 14 by decide), if_neg (show ¬ (26 : Int32) = 15 by decide), if_neg (show ¬ (26 : Int32) = 16 by decide), if_neg (show ¬ (26 : Int32) = 17 by decide), if_neg (show ¬ (26 : Int32) = 18 by decide), if_neg (show ¬ (26 : Int32) = 19 by decide), if_neg (show ¬ (26 : Int32) = 20 by decide), if_neg (show ¬ (26 : Int32) = 21 by decide), if_neg (show ¬ (26 : Int32) = 22 by decide), if_neg (show ¬ (26 : Int32) = 23 by decide), if_neg (show ¬ (26 : Int32) = 24 by decide), if_neg (show ¬ (26 : Int32) = 25 by decide), if_pos rfl]
  rw [show zsc xs L (J p + 1) = some (xs (p + 1)) from hz 1 (by omega), wb1, show zsc xs L (J p + 2) = some (xs (p + 2)) from hz 2 (by omega), wb1, hμ, a, wb1, wb1, wb1, h4, b, wb2, if_pos rfl]
theorem LW_27 {xs : Nat → Int32} {L p X : Nat} {μ m4 m10 : zM} (hμ : μ.2.1 = X) (h4 : m4.2.1 = X + 95) (hL : L ≤ 4096) (hp : p + 8 ≤ L) (hW : WS X m10) (hc : xs p &&& 63 = 27) : ∃ m', WS X m' ∧ ∀ F, fL_law_l xs L μ m4 F (J p) m10 = F (J p + 8) m' := by
  obtain ⟨ν, sh, U, M, rfl, h⟩ := hW
  have hz : ∀ j, j < 8 → zsc xs L (J p + J j) = some (xs (p + j)) := fun j hj => by rw [J_add]; exact zsc_J hL (by omega)
  obtain ⟨v, m2, a, b, w⟩ := T_middle h (xs (p + 1)) (xs (p + 2))
  have b : fX12_middle (mm X ν sh U M) (X + 95) (xs (p + 1)) (xs (p + 2)) = some (v, m2) := b
  refine ⟨m2, w, fun F => ?_⟩
  unfold fL_law_l
  rw [if_neg (show ¬ Int32.ofNat L - 8 < J p by rw [L_gt hL (by omega)]; omega), zsc_J hL (show p < L by omega), wb1, hc]
  rw [if_neg (show ¬ (27 : Int32) = 0 by decide), if_neg (show ¬ (27 : Int32) = 1 by decide), if_neg (show ¬ (27 : Int32) = 2 by decide), if_neg (show ¬ (27 : Int32) = 3 by decide), if_neg (show ¬ (27 : Int32) = 4 by decide), if_neg (show ¬ (27 : Int32) = 5 by decide), if_neg (show ¬ (27 : Int32) = 6 by decide), if_neg (show ¬ (27 : Int32) = 7 by decide), if_neg (show ¬ (27 : Int32) = 8 by decide), if_neg (show ¬ (27 : Int32) = 9 by decide), if_neg (show ¬ (27 : Int32) = 10 by decide), if_neg (show ¬ (27 : Int32) = 11 by decide), if_neg (show ¬ (27 : Int32) = 12 by decide), if_neg (show ¬ (27 : Int32) = 13 by decide), if_neg (show ¬ (27 : Int32) = 14 by decide), if_neg (show ¬ (27 : Int32) = 15 by decide), if_neg (show ¬ (27 : Int32) = 16 by decide), if_neg (show ¬ (27 : Int32) = 17 by decide), if_neg (show ¬ (27 : Int32) = 18 by decide), if_neg (show ¬ (27 : Int32) = 19 by decide), if_neg (show ¬ (27 : Int32) = 20 by decide), if_neg (show ¬ (27 : Int32) = 21 by decide), if_neg (show ¬ (27 : Int32) = 22 by decide), if_neg (show ¬ (27 : Int32) = 23 by decide), if_neg (show ¬ (27 : Int32) = 24 by decide), if_neg (show ¬ (27 : Int32) = 25 by decide), if_neg (show ¬ (27 : Int32) = 26 by decide), if_pos rfl]
  rw [show zsc xs L (J p + 1) = some (xs (p + 1)) from hz 1 (by omega), wb1, show zsc xs L (J p + 2) = some (xs (p + 2)) from hz 2 (by omega), wb1, hμ, a, wb1, wb1, wb1, h4, b, wb2, if_pos rfl]
theorem LW_28 {xs : Nat → Int32} {L p X : Nat} {μ m4 m10 : zM} (hμ : μ.2.1 = X) (h4 : m4.2.1 = X + 95) (hL : L ≤ 4096) (hp : p + 8 ≤ L) (hW : WS X m10) (hc : xs p &&& 63 = 28) : ∃ m', WS X m' ∧ ∀ F, fL_law_l xs L μ m4 F (J p) m10 = F (J p + 8) m' := by
  obtain ⟨ν, sh, U, M, rfl, h⟩ := hW
  have hz : ∀ j, j < 8 → zsc xs L (J p + J j) = some (xs (p + j)) := fun j hj => by rw [J_add]; exact zsc_J hL (by omega)
  obtain ⟨v, m2, a, b, w⟩ := T_auction h (xs (p + 1)) (xs (p + 2)) (if xs (p + 3) = 0 then 0 else 1)
  have b : fX12_auction (mm X ν sh U M) (X + 95) (xs (p + 1)) (xs (p + 2)) (if xs (p + 3) = 0 then 0 else 1) = some (v, m2) := b
  refine ⟨m2, w, fun F => ?_⟩
  unfold fL_law_l
  rw [if_neg (show ¬ Int32.ofNat L - 8 < J p by rw [L_gt hL (by omega)]; omega), zsc_J hL (show p < L by omega), wb1, hc]
  rw [if_neg (show ¬ (28 : Int32) = 0 by decide), if_neg (show ¬ (28 : Int32) = 1 by decide), if_neg (show ¬ (28 : Int32) = 2 by decide), if_neg (show ¬ (28 : Int32) = 3 by decide), if_neg (show ¬ (28 : Int32) = 4 by decide), if_neg (show ¬ (28 : Int32) = 5 by decide), if_neg (show ¬ (28 : Int32) = 6 by decide), if_neg (show ¬ (28 : Int32) = 7 by decide), if_neg (show ¬ (28 : Int32) = 8 by decide), if_neg (show ¬ (28 : Int32) = 9 by decide), if_neg (show ¬ (28 : Int32) = 10 by decide), if_neg (show ¬ (28 : Int32) = 11 by decide), if_neg (show ¬ (28 : Int32) = 12 by decide), if_neg (show ¬ (28 : Int32) = 13 by decide), if_neg (show ¬ (28 : Int32) = 14 by decide), if_neg (show ¬ (28 : Int32) = 15 by decide), if_neg (show ¬ (28 : Int32) = 16 by decide), if_neg (show ¬ (28 : Int32) = 17 by decide), if_neg (show ¬ (28 : Int32) = 18 by decide), if_neg (show ¬ (28 : Int32) = 19 by decide), if_neg (show ¬ (28 : Int32) = 20 by decide), if_neg (show ¬ (28 : Int32) = 21 by decide), if_neg (show ¬ (28 : Int32) = 22 by decide), if_neg (show ¬ (28 : Int32) = 23 by decide), if_neg (show ¬ (28 : Int32) = 24 by decide), if_neg (show ¬ (28 : Int32) = 25 by decide), if_neg (show ¬ (28 : Int32) = 26 by decide), if_neg (show ¬ (28 : Int32) = 27 by decide), if_pos rfl]
  rw [show zsc xs L (J p + 1) = some (xs (p + 1)) from hz 1 (by omega), wb1, show zsc xs L (J p + 2) = some (xs (p + 2)) from hz 2 (by omega), wb1, show zsc xs L (J p + 3) = some (xs (p + 3)) from hz 3 (by omega), wb1, b_if, wb1, hμ, a, wb1, wb1, wb1, wb1, b_if, wb1, h4, b, wb2, if_pos rfl]
theorem LW_29 {xs : Nat → Int32} {L p X : Nat} {μ m4 m10 : zM} (hμ : μ.2.1 = X) (h4 : m4.2.1 = X + 95) (hL : L ≤ 4096) (hp : p + 8 ≤ L) (hW : WS X m10) (hc : xs p &&& 63 = 29) : ∃ m', WS X m' ∧ ∀ F, fL_law_l xs L μ m4 F (J p) m10 = F (J p + 8) m' := by
  obtain ⟨ν, sh, U, M, rfl, h⟩ := hW
  have hz : ∀ j, j < 8 → zsc xs L (J p + J j) = some (xs (p + j)) := fun j hj => by rw [J_add]; exact zsc_J hL (by omega)
  obtain ⟨v, m1, m2, a, b, w⟩ := T_relayed h (xs (p + 1)) (xs (p + 2)) (xs (p + 3)) (xs (p + 4))
  have b : fX12_relayed m1 (X + 95) (xs (p + 1)) (xs (p + 2)) (xs (p + 3)) (xs (p + 4)) = some (v, m2) := b
  refine ⟨m2, w, fun F => ?_⟩
  unfold fL_law_l
  rw [if_neg (show ¬ Int32.ofNat L - 8 < J p by rw [L_gt hL (by omega)]; omega), zsc_J hL (show p < L by omega), wb1, hc]
  rw [if_neg (show ¬ (29 : Int32) = 0 by decide), if_neg (show ¬ (29 : Int32) = 1 by decide), if_neg (show ¬ (29 : Int32) = 2 by decide), if_neg (show ¬ (29 : Int32) = 3 by decide), if_neg (show ¬ (29 : Int32) = 4 by decide), if_neg (show ¬ (29 : Int32) = 5 by decide), if_neg (show ¬ (29 : Int32) = 6 by decide), if_neg (show ¬ (29 : Int32) = 7 by decide), if_neg (show ¬ (29 : Int32) = 8 by decide), if_neg (show ¬ (29 : Int32) = 9 by decide), if_neg (show ¬ (29 : Int32) = 10 by decide), if_neg (show ¬ (29 : Int32) = 11 by decide), if_neg (show ¬ (29 : Int32) = 12 by decide), if_neg (show ¬ (29 : Int32) = 13 by decide), if_neg (show ¬ (29 : Int32) = 14 by decide), if_neg (show ¬ (29 : Int32) = 15 by decide), if_neg (show ¬ (29 : Int32) = 16 by decide), if_neg (show ¬ (29 : Int32) = 17 by decide), if_neg (show ¬ (29 : Int32) = 18 by decide), if_neg (show ¬ (29 : Int32) = 19 by decide), if_neg (show ¬ (29 : Int32) = 20 by decide), if_neg (show ¬ (29 : Int32) = 21 by decide), if_neg (show ¬ (29 : Int32) = 22 by decide), if_neg (show ¬ (29 : Int32) = 23 by decide), if_neg (show ¬ (29 : Int32) = 24 by decide), if_neg (show ¬ (29 : Int32) = 25 by decide), if_neg (show ¬ (29 : Int32) = 26 by decide), if_neg (show ¬ (29 : Int32) = 27 by decide), if_neg (show ¬ (29 : Int32) = 28 by decide), if_pos rfl]
  rw [show zsc xs L (J p + 1) = some (xs (p + 1)) from hz 1 (by omega), wb1, show zsc xs L (J p + 2) = some (xs (p + 2)) from hz 2 (by omega), wb1, show zsc xs L (J p + 3) = some (xs (p + 3)) from hz 3 (by omega), wb1, show zsc xs L (J p + 4) = some (xs (p + 4)) from hz 4 (by omega), wb1, hμ, a, wb2, wb1, wb1, wb1, wb1, h4, b, wb2, if_pos rfl]
theorem LW_30 {xs : Nat → Int32} {L p X : Nat} {μ m4 m10 : zM} (hμ : μ.2.1 = X) (h4 : m4.2.1 = X + 95) (hL : L ≤ 4096) (hp : p + 8 ≤ L) (hW : WS X m10) (hc : xs p &&& 63 = 30) : ∃ m', WS X m' ∧ ∀ F, fL_law_l xs L μ m4 F (J p) m10 = F (J p + 8) m' := by
  obtain ⟨ν, sh, U, M, rfl, h⟩ := hW
  have hz : ∀ j, j < 8 → zsc xs L (J p + J j) = some (xs (p + j)) := fun j hj => by rw [J_add]; exact zsc_J hL (by omega)
  obtain ⟨v, m2, a, b, w⟩ := T_weather h (xs (p + 1)) (xs (p + 2))
  have b : fX12_weather (mm X ν sh U M) (X + 95) (xs (p + 1)) (xs (p + 2)) = some (v, m2) := b
  refine ⟨m2, w, fun F => ?_⟩
  unfold fL_law_l
  rw [if_neg (show ¬ Int32.ofNat L - 8 < J p by rw [L_gt hL (by omega)]; omega), zsc_J hL (show p < L by omega), wb1, hc]
  rw [if_neg (show ¬ (30 : Int32) = 0 by decide), if_neg (show ¬ (30 : Int32) = 1 by decide), if_neg (show ¬ (30 : Int32) = 2 by decide), if_neg (show ¬ (30 : Int32) = 3 by decide), if_neg (show ¬ (30 : Int32) = 4 by decide), if_neg (show ¬ (30 : Int32) = 5 by decide), if_neg (show ¬ (30 : Int32) = 6 by decide), if_neg (show ¬ (30 : Int32) = 7 by decide), if_neg (show ¬ (30 : Int32) = 8 by decide), if_neg (show ¬ (30 : Int32) = 9 by decide), if_neg (show ¬ (30 : Int32) = 10 by decide), if_neg (show ¬ (30 : Int32) = 11 by decide), if_neg (show ¬ (30 : Int32) = 12 by decide), if_neg (show ¬ (30 : Int32) = 13 by decide), if_neg (show ¬ (30 : Int32) = 14 by decide), if_neg (show ¬ (30 : Int32) = 15 by decide), if_neg (show ¬ (30 : Int32) = 16 by decide), if_neg (show ¬ (30 : Int32) = 17 by decide), if_neg (show ¬ (30 : Int32) = 18 by decide), if_neg (show ¬ (30 : Int32) = 19 by decide), if_neg (show ¬ (30 : Int32) = 20 by decide), if_neg (show ¬ (30 : Int32) = 21 by decide), if_neg (show ¬ (30 : Int32) = 22 by decide), if_neg (show ¬ (30 : Int32) = 23 by decide), if_neg (show ¬ (30 : Int32) = 24 by decide), if_neg (show ¬ (30 : Int32) = 25 by decide), if_neg (show ¬ (30 : Int32) = 26 by decide), if_neg (show ¬ (30 : Int32) = 27 by decide), if_neg (show ¬ (30 : Int32) = 28 by decide), if_neg (show ¬ (30 : Int32) = 29 by decide), if_pos rfl]
  rw [show zsc xs L (J p + 1) = some (xs (p + 1)) from hz 1 (by omega), wb1, show zsc xs L (J p + 2) = some (xs (p + 2)) from hz 2 (by omega), wb1, hμ, a, wb1, wb1, wb1, h4, b, wb2, if_pos rfl]
theorem LW_31 {xs : Nat → Int32} {L p X : Nat} {μ m4 m10 : zM} (hμ : μ.2.1 = X) (h4 : m4.2.1 = X + 95) (hL : L ≤ 4096) (hp : p + 8 ≤ L) (hW : WS X m10) (hc : xs p &&& 63 = 31) : ∃ m', WS X m' ∧ ∀ F, fL_law_l xs L μ m4 F (J p) m10 = F (J p + 8) m' := by
  obtain ⟨ν, sh, U, M, rfl, h⟩ := hW
  have hz : ∀ j, j < 8 → zsc xs L (J p + J j) = some (xs (p + j)) := fun j hj => by rw [J_add]; exact zsc_J hL (by omega)
  obtain ⟨v, m1, m2, a, b, w⟩ := T_matched h (xs (p + 1)) (xs (p + 2))
  have b : fX12_matched m1 (X + 95) (xs (p + 1)) (xs (p + 2)) = some (v, m2) := b
  refine ⟨m2, w, fun F => ?_⟩
  unfold fL_law_l
  rw [if_neg (show ¬ Int32.ofNat L - 8 < J p by rw [L_gt hL (by omega)]; omega), zsc_J hL (show p < L by omega), wb1, hc]
  rw [if_neg (show ¬ (31 : Int32) = 0 by decide), if_neg (show ¬ (31 : Int32) = 1 by decide), if_neg (show ¬ (31 : Int32) = 2 by decide), if_neg (show ¬ (31 : Int32) = 3 by decide), if_neg (show ¬ (31 : Int32) = 4 by decide), if_neg (show ¬ (31 : Int32) = 5 by decide), if_neg (show ¬ (31 : Int32) = 6 by decide), if_neg (show ¬ (31 : Int32) = 7 by decide), if_neg (show ¬ (31 : Int32) = 8 by decide), if_neg (show ¬ (31 : Int32) = 9 by decide), if_neg (show ¬ (31 : Int32) = 10 by decide), if_neg (show ¬ (31 : Int32) = 11 by decide), if_neg (show ¬ (31 : Int32) = 12 by decide), if_neg (show ¬ (31 : Int32) = 13 by decide), if_neg (show ¬ (31 : Int32) = 14 by decide), if_neg (show ¬ (31 : Int32) = 15 by decide), if_neg (show ¬ (31 : Int32) = 16 by decide), if_neg (show ¬ (31 : Int32) = 17 by decide), if_neg (show ¬ (31 : Int32) = 18 by decide), if_neg (show ¬ (31 : Int32) = 19 by decide), if_neg (show ¬ (31 : Int32) = 20 by decide), if_neg (show ¬ (31 : Int32) = 21 by decide), if_neg (show ¬ (31 : Int32) = 22 by decide), if_neg (show ¬ (31 : Int32) = 23 by decide), if_neg (show ¬ (31 : Int32) = 24 by decide), if_neg (show ¬ (31 : Int32) = 25 by decide), if_neg (show ¬ (31 : Int32) = 26 by decide), if_neg (show ¬ (31 : Int32) = 27 by decide), if_neg (show ¬ (31 : Int32) = 28 by decide), if_neg (show ¬ (31 : Int32) = 29 by decide), if_neg (show ¬ (31 : Int32) = 30 by decide), if_pos rfl]
  rw [show zsc xs L (J p + 1) = some (xs (p + 1)) from hz 1 (by omega), wb1, show zsc xs L (J p + 2) = some (xs (p + 2)) from hz 2 (by omega), wb1, hμ, a, wb2, wb1, wb1, h4, b, wb2, if_pos rfl]
theorem LW_32 {xs : Nat → Int32} {L p X : Nat} {μ m4 m10 : zM} (hμ : μ.2.1 = X) (h4 : m4.2.1 = X + 95) (hL : L ≤ 4096) (hp : p + 8 ≤ L) (hW : WS X m10) (hc : xs p &&& 63 = 32) : ∃ m', WS X m' ∧ ∀ F, fL_law_l xs L μ m4 F (J p) m10 = F (J p + 8) m' := by
  obtain ⟨ν, sh, U, M, rfl, h⟩ := hW
  have hz : ∀ j, j < 8 → zsc xs L (J p + J j) = some (xs (p + j)) := fun j hj => by rw [J_add]; exact zsc_J hL (by omega)
  obtain ⟨v, m2, a, b, w⟩ := T_count h (xs (p + 1))
  have b : fX12_count (mm X ν sh U M) (X + 95) (xs (p + 1)) = some (v, m2) := b
  refine ⟨m2, w, fun F => ?_⟩
  unfold fL_law_l
  rw [if_neg (show ¬ Int32.ofNat L - 8 < J p by rw [L_gt hL (by omega)]; omega), zsc_J hL (show p < L by omega), wb1, hc]
  rw [if_neg (show ¬ (32 : Int32) = 0 by decide), if_neg (show ¬ (32 : Int32) = 1 by decide), if_neg (show ¬ (32 : Int32) = 2 by decide), if_neg (show ¬ (32 : Int32) = 3 by decide), if_neg (show ¬ (32 : Int32) = 4 by decide), if_neg (show ¬ (32 : Int32) = 5 by decide), if_neg (show ¬ (32 : Int32) = 6 by decide), if_neg (show ¬ (32 : Int32) = 7 by decide), if_neg (show ¬ (32 : Int32) = 8 by decide), if_neg (show ¬ (32 : Int32) = 9 by decide), if_neg (show ¬ (32 : Int32) = 10 by decide), if_neg (show ¬ (32 : Int32) = 11 by decide), if_neg (show ¬ (32 : Int32) = 12 by decide), if_neg (show ¬ (32 : Int32) = 13 by decide), if_neg (show ¬ (32 : Int32) = 14 by decide), if_neg (show ¬ (32 : Int32) = 15 by decide), if_neg (show ¬ (32 : Int32) = 16 by decide), if_neg (show ¬ (32 : Int32) = 17 by decide), if_neg (show ¬ (32 : Int32) = 18 by decide), if_neg (show ¬ (32 : Int32) = 19 by decide), if_neg (show ¬ (32 : Int32) = 20 by decide), if_neg (show ¬ (32 : Int32) = 21 by decide), if_neg (show ¬ (32 : Int32) = 22 by decide), if_neg (show ¬ (32 : Int32) = 23 by decide), if_neg (show ¬ (32 : Int32) = 24 by decide), if_neg (show ¬ (32 : Int32) = 25 by decide), if_neg (show ¬ (32 : Int32) = 26 by decide), if_neg (show ¬ (32 : Int32) = 27 by decide), if_neg (show ¬ (32 : Int32) = 28 by decide), if_neg (show ¬ (32 : Int32) = 29 by decide), if_neg (show ¬ (32 : Int32) = 30 by decide), if_neg (show ¬ (32 : Int32) = 31 by decide), if_pos rfl]
  rw [show zsc xs L (J p + 1) = some (xs (p + 1)) from hz 1 (by omega), wb1, hμ, a, wb1, wb1, h4, b, wb2, if_pos rfl]
theorem LW_33 {xs : Nat → Int32} {L p X : Nat} {μ m4 m10 : zM} (hμ : μ.2.1 = X) (h4 : m4.2.1 = X + 95) (hL : L ≤ 4096) (hp : p + 8 ≤ L) (hW : WS X m10) (hc : xs p &&& 63 = 33) : ∃ m', WS X m' ∧ ∀ F, fL_law_l xs L μ m4 F (J p) m10 = F (J p + 8) m' := by
  obtain ⟨ν, sh, U, M, rfl, h⟩ := hW
  have hz : ∀ j, j < 8 → zsc xs L (J p + J j) = some (xs (p + j)) := fun j hj => by rw [J_add]; exact zsc_J hL (by omega)
  obtain ⟨v, m1, m2, a, b, w⟩ := T_image h (xs (p + 1))
  have b : fX12_image m1 (X + 95) (xs (p + 1)) = some (v, m2) := b
  refine ⟨m2, w, fun F => ?_⟩
  unfold fL_law_l
  rw [if_neg (show ¬ Int32.ofNat L - 8 < J p by rw [L_gt hL (by omega)]; omega), zsc_J hL (show p < L by omega), wb1, hc]
  rw [if_neg (show ¬ (33 : Int32) = 0 by decide), if_neg (show ¬ (33 : Int32) = 1 by decide), if_neg (show ¬ (33 : Int32) = 2 by decide), if_neg (show ¬ (33 : Int32) = 3 by decide), if_neg (show ¬ (33 : Int32) = 4 by decide), if_neg (show ¬ (33 : Int32) = 5 by decide), if_neg (show ¬ (33 : Int32) = 6 by decide), if_neg (show ¬ (33 : Int32) = 7 by decide), if_neg (show ¬ (33 : Int32) = 8 by decide), if_neg (show ¬ (33 : Int32) = 9 by decide), if_neg (show ¬ (33 : Int32) = 10 by decide), if_neg (show ¬ (33 : Int32) = 11 by decide), if_neg (show ¬ (33 : Int32) = 12 by decide), if_neg (show ¬ (33 : Int32) = 13 by decide), if_neg (show ¬ (33 : Int32) = 14 by decide), if_neg (show ¬ (33 : Int32) = 15 by decide), if_neg (show ¬ (33 : Int32) = 16 by decide), if_neg (show ¬ (33 : Int32) = 17 by decide), if_neg (show ¬ (33 : Int32) = 18 by decide), if_neg (show ¬ (33 : Int32) = 19 by decide), if_neg (show ¬ (33 : Int32) = 20 by decide), if_neg (show ¬ (33 : Int32) = 21 by decide), if_neg (show ¬ (33 : Int32) = 22 by decide), if_neg (show ¬ (33 : Int32) = 23 by decide), if_neg (show ¬ (33 : Int32) = 24 by decide), if_neg (show ¬ (33 : Int32) = 25 by decide), if_neg (show ¬ (33 : Int32) = 26 by decide), if_neg (show ¬ (33 : Int32) = 27 by decide), if_neg (show ¬ (33 : Int32) = 28 by decide), if_neg (show ¬ (33 : Int32) = 29 by decide), if_neg (show ¬ (33 : Int32) = 30 by decide), if_neg (show ¬ (33 : Int32) = 31 by decide), if_neg (show ¬ (33 : Int32) = 32 by decide), if_pos rfl]
  rw [show zsc xs L (J p + 1) = some (xs (p + 1)) from hz 1 (by omega), wb1, hμ, a, wb2, wb1, h4, b, wb2, if_pos rfl]
theorem LW_34 {xs : Nat → Int32} {L p X : Nat} {μ m4 m10 : zM} (hμ : μ.2.1 = X) (h4 : m4.2.1 = X + 95) (hL : L ≤ 4096) (hp : p + 8 ≤ L) (hW : WS X m10) (hc : xs p &&& 63 = 34) : ∃ m', WS X m' ∧ ∀ F, fL_law_l xs L μ m4 F (J p) m10 = F (J p + 8) m' := by
  obtain ⟨ν, sh, U, M, rfl, h⟩ := hW
  have hz : ∀ j, j < 8 → zsc xs L (J p + J j) = some (xs (p + j)) := fun j hj => by rw [J_add]; exact zsc_J hL (by omega)
  obtain ⟨v, m1, m2, a, b, w⟩ := T_again h (xs (p + 1))
  have b : fX12_again m1 (X + 95) (xs (p + 1)) = some (v, m2) := b
  refine ⟨m2, w, fun F => ?_⟩
  unfold fL_law_l
  rw [if_neg (show ¬ Int32.ofNat L - 8 < J p by rw [L_gt hL (by omega)]; omega), zsc_J hL (show p < L by omega), wb1, hc]
  rw [if_neg (show ¬ (34 : Int32) = 0 by decide), if_neg (show ¬ (34 : Int32) = 1 by decide), if_neg (show ¬ (34 : Int32) = 2 by decide), if_neg (show ¬ (34 : Int32) = 3 by decide), if_neg (show ¬ (34 : Int32) = 4 by decide), if_neg (show ¬ (34 : Int32) = 5 by decide), if_neg (show ¬ (34 : Int32) = 6 by decide), if_neg (show ¬ (34 : Int32) = 7 by decide), if_neg (show ¬ (34 : Int32) = 8 by decide), if_neg (show ¬ (34 : Int32) = 9 by decide), if_neg (show ¬ (34 : Int32) = 10 by decide), if_neg (show ¬ (34 : Int32) = 11 by decide), if_neg (show ¬ (34 : Int32) = 12 by decide), if_neg (show ¬ (34 : Int32) = 13 by decide), if_neg (show ¬ (34 : Int32) = 14 by decide), if_neg (show ¬ (34 : Int32) = 15 by decide), if_neg (show ¬ (34 : Int32) = 16 by decide), if_neg (show ¬ (34 : Int32) = 17 by decide), if_neg (show ¬ (34 : Int32) = 18 by decide), if_neg (show ¬ (34 : Int32) = 19 by decide), if_neg (show ¬ (34 : Int32) = 20 by decide), if_neg (show ¬ (34 : Int32) = 21 by decide), if_neg (show ¬ (34 : Int32) = 22 by decide), if_neg (show ¬ (34 : Int32) = 23 by decide), if_neg (show ¬ (34 : Int32) = 24 by decide), if_neg (show ¬ (34 : Int32) = 25 by decide), if_neg (show ¬ (34 : Int32) = 26 by decide), if_neg (show ¬ (34 : Int32) = 27 by decide), if_neg (show ¬ (34 : Int32) = 28 by decide), if_neg (show ¬ (34 : Int32) = 29 by decide), if_neg (show ¬ (34 : Int32) = 30 by decide), if_neg (show ¬ (34 : Int32) = 31 by decide), if_neg (show ¬ (34 : Int32) = 32 by decide), if_neg (show ¬ (34 : Int32) = 33 by decide), if_pos rfl]
  rw [show zsc xs L (J p + 1) = some (xs (p + 1)) from hz 1 (by omega), wb1, hμ, a, wb2, wb1, h4, b, wb2, if_pos rfl]
