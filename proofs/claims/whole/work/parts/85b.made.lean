/-! an image made -/
def zY (g : Nat → Option Nat) (i : Nat) : zCS := (fun _ k => if i = 0 ∧ k = 3 then -1 else 0, fun _ _ => 0, g)
theorem cz7_y (B : Nat) (g : Nat → Option Nat) : czk (zY g) B 0 (cz7 B) s7 := ⟨rfl, rfl, rfl, vr_c, rfl, rfl, rfl, rfl, rfl, rfl, rfl, rfl, rfl, rfl, rfl, rfl, rfl, rfl, rfl, rfl, rfl, rfl, rfl, rfl, rfl, rfl, vr_c, rfl, rfl, rfl, rfl, rfl, rfl, rfl, rfl, vr_c, rfl, rfl, rfl, rfl, rfl, rfl, vr_c, rfl, rfl, rfl, rfl, rfl, rfl, rfl, rfl, rfl, rfl, trivial⟩
theorem s7_0 : ∀ c ∈ s7, c ≠ 0 ∧ c ≠ 9003 := by decide
def UI (B : Nat) (U : zCS) : zCS := (fun q => if q < B then U.1 q else (zY U.2.2 (q - B)).1 q, fun q => if q < B then U.2.1 q else fun _ => 0, U.2.2)
theorem im_mm {X : Nat} {ν : zM} {sh : Nat → Nat} {U : zCS} {M : zMS} (h : SHp X ν sh) : al (mm X ν sh U M) (cz7 ν.2.1) = mm X (ν.1, ν.2.1 + 53, ν.2.2) (shz s7 ν.2.1 sh) (UI ν.2.1 U) M := by
  obtain ⟨-, -, -, -, -, -, h1, h2, -⟩ := h
  have hs : s7.length = 53 := rfl
  have hx : ∀ q, (mm X (ν.1, ν.2.1 + 53, ν.2.2) (shz s7 ν.2.1 sh) (UI ν.2.1 U) M).1 q = if shz s7 ν.2.1 sh q = 0 then (if X + 95 ≤ q ∧ q < X + 95 + 28 then some (mdlC (X + 95) M (q - (X + 95))) else ν.1 q) else some (ccell q (shz s7 ν.2.1 sh q) (UI ν.2.1 U)) := fun q => rfl
  have hy : ∀ q, (mm X ν sh U M).1 q = if sh q = 0 then (if X + 95 ≤ q ∧ q < X + 95 + 28 then some (mdlC (X + 95) M (q - (X + 95))) else ν.1 q) else some (ccell q (sh q) U) := fun q => rfl
  refine Eq.symm ?_
  refine al_ext ?_ ?_ ?_ ?_ rfl
  · intro q hq
    have hq : q < ν.2.1 := hq
    rw [hx, hy, shz_lo hq]
    by_cases c : sh q = 0
    · rw [if_pos c, if_pos c]
    · rw [if_neg c, if_neg c]
      exact congrArg some (ccell_c (if_pos hq) (if_pos hq) rfl)
  · intro i e he
    have hi : i < (cz7 ν.2.1).length := (List.getElem?_eq_some_iff.mp he).1
    obtain ⟨c', g1, g2⟩ := czk_at (cz7_y ν.2.1 U.2.2) (j := i) hi
    rw [he, Nat.zero_add] at g2
    show (mm X (ν.1, ν.2.1 + 53, ν.2.2) (shz s7 ν.2.1 sh) (UI ν.2.1 U) M).1 (ν.2.1 + i) = some e
    rw [hx, shz_at g1, if_neg (s7_0 c' (List.mem_of_getElem? g1)).1, g2]
    refine congrArg some (ccell_c ?_ ?_ rfl)
    · show (if ν.2.1 + i < ν.2.1 then U.1 (ν.2.1 + i) else (zY U.2.2 (ν.2.1 + i - ν.2.1)).1 (ν.2.1 + i)) = _
      rw [if_neg (by omega), Nat.add_sub_cancel_left]
    · exact if_neg (by omega)
  · intro q hq
    have hq : ν.2.1 + (cz7 ν.2.1).length ≤ q := hq
    rw [cz7_l] at hq
    rw [hx, hy, shz_hi (by rw [hs]; exact hq), if_pos (h2 q (by omega)), if_pos (h2 q (by omega))]
  · show ν.2.1 + 53 = ν.2.1 + (cz7 ν.2.1).length
    rw [cz7_l]
theorem im_ws {X : Nat} {ν : zM} {sh : Nat → Nat} {U : zCS} {M : zMS} (h : WSt X ν sh U M) : WSt X (ν.1, ν.2.1 + 53, ν.2.2) (shz s7 ν.2.1 sh) (UI ν.2.1 U) M := by
  obtain ⟨⟨h1, h2, h3, h4, h5, h6, h7, h8, h9⟩, hT, hI⟩ := h
  have hs : s7.length = 53 := rfl
  have he : ∀ q, q < ν.2.1 → shz s7 ν.2.1 sh q = sh q := fun q hq => shz_lo hq
  have hF : Ufr U (UI ν.2.1 U) (fun q => ν.2.1 ≤ q) := ⟨fun q hq => ⟨if_pos (by omega), if_pos (by omega)⟩, rfl⟩
  refine ⟨⟨isX11_e he (by omega) h1, fun k hk => ⟨(h2 k hk).1, (he (ν.2.2 k) (by have := h4 k hk; omega)).trans (h2 k hk).2⟩, ⟨fun i hi => ⟨(h3.1 i hi).1, (he (ν.2.2 (100 + i)) (by have := h5 i hi; omega)).trans (h3.1 i hi).2⟩, h3.2⟩, h4, h5, fun j hj => (he _ (by omega)).trans (h6 j hj), ?_, fun q hq => ?_, fun q hq => ?_⟩, TR_tr hT (TC_F hF (fun j hj z => by omega)) (MC_s Msame_r), fun k hk => ?_⟩
  · show X + 123 ≤ ν.2.1 + 53
    omega
  · have hq : ν.2.1 + 53 ≤ q := hq
    rw [shz_hi (by rw [hs]; exact hq)]
    exact h8 q (by omega)
  · by_cases c : q < ν.2.1
    · rw [he q c] at hq
      exact h9 q hq
    · by_cases c2 : ν.2.1 + 53 ≤ q
      · rw [shz_hi (by rw [hs]; exact c2)] at hq
        exact h9 q hq
      · obtain ⟨i, rfl⟩ : ∃ i, q = ν.2.1 + i := ⟨q - ν.2.1, by omega⟩
        have hi : i < s7.length := by rw [hs]; omega
        rw [shz_at (List.getElem?_eq_getElem hi)] at hq
        exact absurd hq (s7_0 _ (List.getElem_mem hi)).2
  · rcases hI k hk with z | ⟨b, z1, z2, z3, z4, z5, z6, z7⟩
    · exact .inl z
    · exact .inr ⟨b, z1, z2, isX7_e he (by omega) z3, z4, by show b + 52 < ν.2.1 + 53; omega, TR_tr z6 (TC_F hF (fun j hj z => by omega)) (MC_s Msame_r), z7⟩
/-- the copy into an image that is there -/
theorem T_imgC {X : Nat} {ν : zM} {sh : Nat → Nat} {U : zCS} {M : zMS} (hS : SHp X ν sh) (hT : TR U (X + 1) M 0) {k b : Nat} (hk : k < 3) (hb : isX7 sh b) (hX : X + 123 ≤ b) (hbn : b + 52 < ν.2.1) (hUb : U.2.2 k = some b) (hI : ∀ k', k' < 3 → k' ≠ k → (U.2.2 k' = none ∧ M.2.2 53 k' = J 0) ∨ ∃ b', U.2.2 k' = some b' ∧ M.2.2 53 k' = J 1 ∧ isX7 sh b' ∧ X + 123 ≤ b' ∧ b' + 52 < ν.2.1 ∧ TR U b' M (k' + 1) ∧ (b + 52 < b' ∨ b' + 52 < b) ∧ ∀ k'', k'' < 3 → k'' ≠ k' → ∀ b'', U.2.2 k'' = some b'' → b' + 52 < b'' ∨ b'' + 52 < b') :
    ∃ U' M', fX7_copyFrom (mm X ν sh U M) b (X + 1) = some (mm X ν sh U' M) ∧ (zb1 (gX12_copyAll (zsI M 0 0) 0 (J k + 1)) fun M6 => zb1 (zas 3 (M6.2.2 53) (J k) (vp_nar .boolean 1)) fun f9 => zb1 (some (zsA M6 53 f9)) fun M9 => some ((1 : Int32), M9)) = some (1, M') ∧ TR U' (X + 1) M' 0 ∧ IMG X ν sh U' M' := by
  have h7 := isX11_1 hS.1
  obtain ⟨c, vs, ds, ls, ss, hTc⟩ := id hT
  obtain ⟨U2, f1, f2, f3⟩ := F_copyFrom (ν := mdl ν (X + 95) M) (U := U) h7 hb (.inl (by omega)) (fun i hi => (hTc.1 i hi).1)
  obtain ⟨M2, r1, r2, r3, r4, -⟩ := R_copyAll (M := zsI M 0 0) (z := 0) (w := k + 1) (by omega) (by omega) (by omega) (fun i hi => by rw [zsI_a, (hTc.1 i hi).2]; exact (hTc.1 i hi).1)
  have hm : ∀ j, j ≠ 53 → (zsA M2 53 (upd (M2.2.2 53) k (J 1))).2.2 j = M2.2.2 j := fun j hj => zsA_o hj
  have mc : ∀ y, MC M2 y (zsA M2 53 (upd (M2.2.2 53) k (J 1))) y := fun y => ⟨fun _ _ => by rw [hm 1 (by omega)], by rw [hm 2 (by omega)], by rw [hm 3 (by omega)], by rw [hm 4 (by omega)], fun _ _ => by rw [hm 5 (by omega)], fun _ _ => by rw [hm 6 (by omega)], fun _ _ => by rw [hm 7 (by omega)], fun _ _ => by rw [hm 8 (by omega)], fun _ _ => by rw [hm 9 (by omega)]⟩
  have hT0 : TR U (X + 1) (zsI M 0 0) 0 := hT
  refine ⟨U2, zsA M2 53 (upd (M2.2.2 53) k (J 1)), f1, ?_, TR_tr hT0 (TC_F f3 (fun j hj z => by omega)) (MC_t (r3 0 (by omega) (by omega)) (mc 0)), fun k' hk' => ?_⟩
  · rw [show (J k + 1 : Int32) = J (k + 1) from J_add k 1, show gX12_copyAll (zsI M 0 0) 0 (J (k + 1)) = some M2 from r1, wb1, show (vp_nar .boolean 1 : Int32) = J 1 from rfl, zas_J (by omega) (by omega), wb1, wb1]
  · rw [f3.2, zsA_1]
    by_cases ck : k' = k
    · subst ck
      rw [upd_1]
      refine .inr ⟨b, hUb, rfl, hb, hX, hbn, TR_tr hT0 f2 (MC_t r2 (mc _)), fun k'' h1 h2 b'' h3 => ?_⟩
      rcases hI k'' h1 h2 with ⟨y1, -⟩ | ⟨b', y1, -, -, -, -, -, y7, -⟩
      · rw [y1] at h3; cases h3
      · rw [y1] at h3
        cases h3
        exact y7
    · rw [upd_o ck, r4 53 (by omega), zsI_a]
      rcases hI k' hk' ck with y | ⟨b', y1, y2, y3, y4, y5, y6, y7, y8⟩
      · exact .inl y
      · have y6' : TR U b' (zsI M 0 0) (k' + 1) := y6
        exact .inr ⟨b', y1, y2, y3, y4, y5, TR_tr y6' (TC_F f3 (fun j hj z => by omega)) (MC_t (r3 _ (by omega) (by omega)) (mc _)), y8⟩
