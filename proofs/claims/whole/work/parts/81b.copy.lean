/-! what is told, copied: the class -/
def CPi (U X : zCS) (a b w : Nat) (len : Nat → Nat) (J0 : Nat) (L : List Nat) : Prop := Ufr U X (fun q => b ≤ q ∧ q ≤ b + w) ∧ (∀ j, 1 ≤ j → j ≤ J0 → ∀ i, i < len j → X.2.1 (b + j) i = U.2.1 (a + j) i) ∧ ∀ k, k ∈ L → X.1 b k = U.1 a k
theorem CPi_0 {U : zCS} {a b w : Nat} {len : Nat → Nat} : CPi U U a b w len 0 [] := ⟨Ufr_r, fun j h1 h2 => by omega, fun k hk => by cases hk⟩
theorem CPi_i {U X : zCS} {a b w : Nat} {len : Nat → Nat} {J0 : Nat} {L : List Nat} (h : CPi U X a b w len J0 L) (hab : ∀ j, j ≤ w → ¬ (b ≤ a + j ∧ a + j ≤ b + w)) {k : Nat} : CPi U (csI X b k (X.1 a k)) a b w len J0 (k :: L) := by
  refine ⟨Ufr_t h.1 (Ufr_I ⟨by omega, by omega⟩), h.2.1, fun j hj => ?_⟩
  have ha : X.1 a = U.1 a := (h.1.1 a (hab 0 (by omega))).1
  by_cases c : j = k
  · subst c; rw [csI_1, ha]
  · rw [csI_o2 (.inr c)]
    rcases List.mem_cons.mp hj with z | z
    · exact absurd z c
    · exact h.2.2 j z
theorem CPi_r {U X : zCS} {a b w : Nat} {len : Nat → Nat} {J0 : Nat} {L : List Nat} (h : CPi U X a b w len J0 L) (hab : ∀ j, j ≤ w → ¬ (b ≤ a + j ∧ a + j ≤ b + w)) {j n : Nat} (hj : j = J0 + 1) (hjw : j ≤ w) (hn : n = len j) (hnb : n < 100000) : ∃ f, zcp 0 n n (X.2.1 (a + j)) (X.2.1 (b + j)) (J 0) (J 0) (J n) = some f ∧ CPi U (csA X (b + j) f) a b w len j L := by
  obtain ⟨f, e1, e2, -⟩ := zcp_int (n0 := n) (n1 := n) (k := n) (f := X.2.1 (a + j)) (g := X.2.1 (b + j)) (Nat.le_refl _) (Nat.le_refl _) hnb
  refine ⟨f, e1, Ufr_t h.1 (Ufr_A ⟨by omega, by omega⟩), fun q h1 h2 i hi => ?_, fun k hk => ?_⟩
  · by_cases c : q = j
    · subst c
      rw [csA_1, e2 i (by rw [hn]; exact hi), (h.1.1 (a + q) (hab q hjw)).2]
    · rw [csA_o2 (by omega)]; exact h.2.1 q h1 (by omega) i hi
  · rw [csA_i]; exact h.2.2 k hk
def lnV (j : Nat) : Nat := if j ≤ 3 then 8 else if j ≤ 6 then 6 else if j ≤ 9 then 4 else 100
theorem C_cpV {U : zCS} {a b : Nat} (hab : ∀ j, j ≤ 10 → ¬ (b ≤ a + j ∧ a + j ≤ b + 10)) : ∃ U', gX9_copyFrom U b a = some U' ∧ CPi U U' a b 10 lnV 10 [8, 4, 0] := by
  have c0 := CPi_i (CPi_0 (U := U) (a := a) (b := b) (w := 10) (len := lnV)) hab (k := 0)
  obtain ⟨f1, e1, c1⟩ := CPi_r c0 hab (j := 1) (n := 8) rfl (by omega) rfl (by omega)
  obtain ⟨f2, e2, c2⟩ := CPi_r c1 hab (j := 2) (n := 8) rfl (by omega) rfl (by omega)
  obtain ⟨f3, e3, c3⟩ := CPi_r c2 hab (j := 3) (n := 8) rfl (by omega) rfl (by omega)
  have d3 := CPi_i c3 hab (k := 4)
  obtain ⟨f4, e4, c4⟩ := CPi_r d3 hab (j := 4) (n := 6) rfl (by omega) rfl (by omega)
  obtain ⟨f5, e5, c5⟩ := CPi_r c4 hab (j := 5) (n := 6) rfl (by omega) rfl (by omega)
  obtain ⟨f6, e6, c6⟩ := CPi_r c5 hab (j := 6) (n := 6) rfl (by omega) rfl (by omega)
  have d6 := CPi_i c6 hab (k := 8)
  obtain ⟨f7, e7, c7⟩ := CPi_r d6 hab (j := 7) (n := 4) rfl (by omega) rfl (by omega)
  obtain ⟨f8, e8, c8⟩ := CPi_r c7 hab (j := 8) (n := 4) rfl (by omega) rfl (by omega)
  obtain ⟨f9, e9, c9⟩ := CPi_r c8 hab (j := 9) (n := 4) rfl (by omega) rfl (by omega)
  obtain ⟨f10, e10, c10⟩ := CPi_r c9 hab (j := 10) (n := 100) rfl (by omega) rfl (by omega)
  refine ⟨_, ?_, c10⟩
  unfold gX9_copyFrom
  rw [show (0 : Int32) = J 0 from rfl, show (8 : Int32) = J 8 from rfl, show (6 : Int32) = J 6 from rfl, show (4 : Int32) = J 4 from rfl, show (100 : Int32) = J 100 from rfl, wb1, e1, wb1, wb1, e2, wb1, wb1, e3, wb1, wb1, wb1, e4, wb1, wb1, e5, wb1, wb1, e6, wb1, wb1, wb1, e7, wb1, wb1, e8, wb1, wb1, e9, wb1, wb1, e10, wb1, wb1]
theorem C_cpD {U : zCS} {a b : Nat} (hab : ∀ j, j ≤ 3 → ¬ (b ≤ a + j ∧ a + j ≤ b + 3)) : ∃ U', gX2_copyFrom U b a = some U' ∧ CPi U U' a b 3 (fun _ => 40) 3 [0] := by
  have c0 := CPi_i (CPi_0 (U := U) (a := a) (b := b) (w := 3) (len := fun _ => 40)) hab (k := 0)
  obtain ⟨f1, e1, c1⟩ := CPi_r c0 hab (j := 1) (n := 40) rfl (by omega) rfl (by omega)
  obtain ⟨f2, e2, c2⟩ := CPi_r c1 hab (j := 2) (n := 40) rfl (by omega) rfl (by omega)
  obtain ⟨f3, e3, c3⟩ := CPi_r c2 hab (j := 3) (n := 40) rfl (by omega) rfl (by omega)
  refine ⟨_, ?_, c3⟩
  unfold gX2_copyFrom
  rw [show (0 : Int32) = J 0 from rfl, show (40 : Int32) = J 40 from rfl, wb1, e1, wb1, wb1, e2, wb1, wb1, e3, wb1, wb1]
theorem C_cpL {U : zCS} {a b : Nat} (hab : ∀ j, j ≤ 2 → ¬ (b ≤ a + j ∧ a + j ≤ b + 2)) : ∃ U', gX3_copyFrom U b a = some U' ∧ CPi U U' a b 2 (fun _ => 10) 2 [1, 0] := by
  have c0 := CPi_i (CPi_i (CPi_0 (U := U) (a := a) (b := b) (w := 2) (len := fun _ => 10)) hab (k := 0)) hab (k := 1)
  obtain ⟨f1, e1, c1⟩ := CPi_r c0 hab (j := 1) (n := 10) rfl (by omega) rfl (by omega)
  obtain ⟨f2, e2, c2⟩ := CPi_r c1 hab (j := 2) (n := 10) rfl (by omega) rfl (by omega)
  refine ⟨_, ?_, c2⟩
  unfold gX3_copyFrom
  rw [show (0 : Int32) = J 0 from rfl, show (10 : Int32) = J 10 from rfl, wb1, wb1, e1, wb1, wb1, e2, wb1, wb1]
theorem C_cpS {U : zCS} {a b : Nat} (hab : ∀ j, j ≤ 4 → ¬ (b ≤ a + j ∧ a + j ≤ b + 4)) : ∃ U', gX6_copyFrom U b a = some U' ∧ CPi U U' a b 4 (fun _ => 8) 4 [0] := by
  have c0 := CPi_i (CPi_0 (U := U) (a := a) (b := b) (w := 4) (len := fun _ => 8)) hab (k := 0)
  obtain ⟨f1, e1, c1⟩ := CPi_r c0 hab (j := 1) (n := 8) rfl (by omega) rfl (by omega)
  obtain ⟨f2, e2, c2⟩ := CPi_r c1 hab (j := 2) (n := 8) rfl (by omega) rfl (by omega)
  obtain ⟨f3, e3, c3⟩ := CPi_r c2 hab (j := 3) (n := 8) rfl (by omega) rfl (by omega)
  obtain ⟨f4, e4, c4⟩ := CPi_r c3 hab (j := 4) (n := 8) rfl (by omega) rfl (by omega)
  refine ⟨_, ?_, c4⟩
  unfold gX6_copyFrom
  rw [show (0 : Int32) = J 0 from rfl, show (8 : Int32) = J 8 from rfl, wb1, e1, wb1, wb1, e2, wb1, wb1, e3, wb1, wb1, e4, wb1, wb1]
/-- the same contents at two places, in two states -/
def CC (w : Nat) (len : Nat → Nat) (L : List Nat) (U : zCS) (a : Nat) (U' : zCS) (b : Nat) : Prop := (∀ j, 1 ≤ j → j ≤ w → ∀ i, i < len j → U'.2.1 (b + j) i = U.2.1 (a + j) i) ∧ ∀ k, k ∈ L → U'.1 b k = U.1 a k
theorem CPi_C {U X : zCS} {a b w : Nat} {len : Nat → Nat} {L : List Nat} (h : CPi U X a b w len w L) : CC w len L U a X b := ⟨h.2.1, h.2.2⟩
theorem CC_F {w : Nat} {len : Nat → Nat} {L : List Nat} {U U' : zCS} {a : Nat} {A : Nat → Prop} (h : Ufr U U' A) (hA : ∀ j, j ≤ w → ¬ A (a + j)) : CC w len L U a U' a := ⟨fun j _ h2 i _ => by rw [(h.1 (a + j) (hA j h2)).2], fun k _ => by rw [(h.1 a (hA 0 (Nat.zero_le _))).1]⟩
theorem CC_t {w : Nat} {len : Nat → Nat} {L : List Nat} {U V W : zCS} {a b c : Nat} (h1 : CC w len L U a V b) (h2 : CC w len L V b W c) : CC w len L U a W c := ⟨fun j x y i z => (h2.1 j x y i z).trans (h1.1 j x y i z), fun k hk => (h2.2 k hk).trans (h1.2 k hk)⟩
abbrev cV := CC 10 lnV [8, 4, 0]
abbrev cD := CC 3 (fun _ => 40) [0]
abbrev cLs := CC 2 (fun _ => 10) [1, 0]
abbrev cSi := CC 4 (fun _ => 8) [0]
theorem isVal_C {U U' : zCS} {a b : Nat} {v : zV} (hV : VOK v) (h : isVal U a v) (hc : cV U a U' b) : isVal U' b v := by
  obtain ⟨h1, h2, h3, h4, h5, h6, h7, h8, h9⟩ := h
  have hp := hV.2.2.1
  have hs := hV.2.2.2.1
  refine ⟨by rw [hc.2 0 (by simp)]; exact h1, by rw [hc.2 4 (by simp)]; exact h2, by rw [hc.2 8 (by simp)]; exact h3, fun j hj => ?_, fun j hj => ?_, fun j hj => ?_, fun j hj => ?_, fun j hj => ?_, fun m hm => ?_⟩
  · rw [hc.1 1 (by omega) (by omega) j hj]; exact h4 j hj
  · rw [hc.1 2 (by omega) (by omega) j hj]; exact h5 j hj
  · rw [hc.1 3 (by omega) (by omega) j hj]; exact h6 j hj
  · rw [hc.1 4 (by omega) (by omega) j (show j < 6 by omega), hc.1 5 (by omega) (by omega) j (show j < 6 by omega), hc.1 6 (by omega) (by omega) j (show j < 6 by omega)]; exact h7 j hj
  · rw [hc.1 7 (by omega) (by omega) j (show j < 4 by omega), hc.1 8 (by omega) (by omega) j (show j < 4 by omega), hc.1 9 (by omega) (by omega) j (show j < 4 by omega)]; exact h8 j hj
  · rw [hc.1 10 (by omega) (by omega) m hm]; exact h9 m hm
theorem isDay_C {U U' : zCS} {a b : Nat} {d : zV} (hD : DOK d) (h : isDay U a d) (hc : cD U a U' b) : isDay U' b d := by
  have hp := hD.1
  refine ⟨by rw [hc.2 0 (by simp)]; exact h.1, fun j hj => ?_⟩
  rw [hc.1 1 (by omega) (by omega) j (show j < 40 by omega), hc.1 2 (by omega) (by omega) j (show j < 40 by omega), hc.1 3 (by omega) (by omega) j (show j < 40 by omega)]; exact h.2 j hj
theorem isLe_C {U U' : zCS} {a b : Nat} {l : zV} (hL : LOK l) (h : isLe U a l) (hc : cLs U a U' b) : isLe U' b l := by
  have hp := hL.2.1
  refine ⟨by rw [hc.2 0 (by simp)]; exact h.1, by rw [hc.2 1 (by simp)]; exact h.2.1, fun j hj => ?_⟩
  rw [hc.1 1 (by omega) (by omega) j (show j < 10 by omega), hc.1 2 (by omega) (by omega) j (show j < 10 by omega)]; exact h.2.2 j hj
theorem isSi_C {U U' : zCS} {a b : Nat} {s : zV} (hS : SOK s) (h : isSi U a s) (hc : cSi U a U' b) : isSi U' b s := by
  have hp := hS.1
  refine ⟨by rw [hc.2 0 (by simp)]; exact h.1, fun j hj => ?_⟩
  rw [hc.1 1 (by omega) (by omega) j (show j < 8 by omega), hc.1 2 (by omega) (by omega) j (show j < 8 by omega), hc.1 3 (by omega) (by omega) j (show j < 8 by omega), hc.1 4 (by omega) (by omega) j (show j < 8 by omega)]; exact h.2 j hj
/-- all that is told, the same at two places -/
def TC (U : zCS) (a : Nat) (U' : zCS) (b : Nat) : Prop := (∀ k, k < 600 → U'.2.1 (b + 1) k = U.2.1 (a + 1) k) ∧ (∀ j, 1 ≤ j → j ≤ 3 → U'.1 b j = U.1 a j) ∧ (∀ i, i < 4 → U'.2.1 (b + 2) i = U.2.1 (a + 2) i) ∧ ∀ k, k < 2 → cV U (a + 4 + 11 * k) U' (b + 4 + 11 * k) ∧ cD U (a + 27 + 4 * k) U' (b + 27 + 4 * k) ∧ cLs U (a + 36 + 3 * k) U' (b + 36 + 3 * k) ∧ cSi U (a + 43 + 5 * k) U' (b + 43 + 5 * k)
theorem TC_F {U U' : zCS} {a : Nat} {A : Nat → Prop} (h : Ufr U U' A) (hA : ∀ j, j ≤ 52 → ¬ A (a + j)) : TC U a U' a := by
  refine ⟨fun k _ => by rw [(h.1 (a + 1) (hA 1 (by omega))).2], fun j _ _ => by rw [(h.1 a (hA 0 (by omega))).1], fun i _ => by rw [(h.1 (a + 2) (hA 2 (by omega))).2], fun k hk => ⟨CC_F h (fun j hj => ?_), CC_F h (fun j hj => ?_), CC_F h (fun j hj => ?_), CC_F h (fun j hj => ?_)⟩⟩
  · rw [show a + 4 + 11 * k + j = a + (4 + 11 * k + j) by omega]; exact hA _ (by omega)
  · rw [show a + 27 + 4 * k + j = a + (27 + 4 * k + j) by omega]; exact hA _ (by omega)
  · rw [show a + 36 + 3 * k + j = a + (36 + 3 * k + j) by omega]; exact hA _ (by omega)
  · rw [show a + 43 + 5 * k + j = a + (43 + 5 * k + j) by omega]; exact hA _ (by omega)
theorem zcp_byte {f g : Nat → Int32} (hf : ∀ i, i < 600 → isB (f i)) : ∃ f', zcp 1 600 600 f g (J 0) (J 0) (J 600) = some f' ∧ ∀ i, i < 600 → f' i = f i := by
  refine ⟨va_cpy f g 0 0 600, ?_, fun i hi => by simp [va_cpy, hi]⟩
  unfold zcp
  rw [J_nat (by omega), J_nat (by omega), show (0 : Int32) = J 0 from rfl]
  simp only [J_nn (show 0 < 2147483648 by omega), J_nn (show 600 < 2147483648 by omega)]
  rw [if_pos]
  refine ⟨not_false, not_false, not_false, by omega, by omega, ?_⟩
  rw [List.all_eq_true]
  intro x hx
  rw [Nat.zero_add]
  exact (isB_q (hf x (List.mem_range.mp hx))).2
theorem zel_J {s a k : Nat} (hk : k < 2) : zel s a (J k) = some (some (a + 1 + s * k)) := by
  unfold zel
  rw [if_neg (show ¬ (J k < 0 ∨ 2 ≤ (J k).toNatClampNeg) by rw [show (0 : Int32) = J 0 from rfl, J_lt (by omega) (by omega), J_nat (by omega)]; omega), J_nat (by omega)]
theorem isX7_v {sh : Nat → Nat} {a k : Nat} (h : isX7 sh a) (hk : k < 2) : isX9 sh (a + 4 + 11 * k) := by
  match k, hk with
  | 0, _ => exact isX7_4 h
  | 1, _ => exact isX7_15 h
theorem isX7_d {sh : Nat → Nat} {a k : Nat} (h : isX7 sh a) (hk : k < 2) : isX2 sh (a + 27 + 4 * k) := by
  match k, hk with
  | 0, _ => exact isX7_27 h
  | 1, _ => exact isX7_31 h
theorem isX7_l {sh : Nat → Nat} {a k : Nat} (h : isX7 sh a) (hk : k < 2) : isX3 sh (a + 36 + 3 * k) := by
  match k, hk with
  | 0, _ => exact isX7_36 h
  | 1, _ => exact isX7_39 h
theorem isX7_s {sh : Nat → Nat} {a k : Nat} (h : isX7 sh a) (hk : k < 2) : isX6 sh (a + 43 + 5 * k) := by
  match k, hk with
  | 0, _ => exact isX7_43 h
  | 1, _ => exact isX7_48 h
theorem F_copyFrom {ν : zM} {sh : Nat → Nat} {U : zCS} {a b : Nat} (ha : isX7 sh a) (hb : isX7 sh b) (hab : a + 52 < b ∨ b + 52 < a) (hB : ∀ i, i < 600 → isB (U.2.1 (a + 1) i)) : ∃ U', fX7_copyFrom (cmem ν sh U) b a = some (cmem ν sh U') ∧ TC U a U' b ∧ Ufr U U' (fun q => b ≤ q ∧ q ≤ b + 52) := by
  obtain ⟨f5, e5, g5⟩ := zcp_byte (f := U.2.1 (a + 1)) (g := U.2.1 (b + 1)) hB
  obtain ⟨V5, hV5⟩ : ∃ V, V = csA U (b + 1) f5 := ⟨_, rfl⟩
  obtain ⟨V9, hV9⟩ : ∃ V, V = csI V5 b 1 (V5.1 a 1) := ⟨_, rfl⟩
  obtain ⟨V13, hV13⟩ : ∃ V, V = csI V9 b 2 (V9.1 a 2) := ⟨_, rfl⟩
  obtain ⟨V17, hV17⟩ : ∃ V, V = csI V13 b 3 (V13.1 a 3) := ⟨_, rfl⟩
  obtain ⟨f23, e23, g23, -⟩ := zcp_int (n0 := 4) (n1 := 4) (k := 4) (f := V17.2.1 (a + 2)) (g := V17.2.1 (b + 2)) (by omega) (by omega) (by omega)
  obtain ⟨V23, hV23⟩ : ∃ V, V = csA V17 (b + 2) f23 := ⟨_, rfl⟩
  have fr : Ufr U V23 (fun q => q = b ∨ q = b + 1 ∨ q = b + 2) := by
    rw [hV23, hV17, hV13, hV9, hV5]
    exact Ufr_t (Ufr_A (by omega)) (Ufr_t (Ufr_I (by omega)) (Ufr_t (Ufr_I (by omega)) (Ufr_t (Ufr_I (by omega)) (Ufr_A (by omega)))))
  have i1 : V23.1 b 1 = U.1 a 1 := by rw [hV23, csA_i, hV17, csI_o2 (.inr (by omega)), hV13, csI_o2 (.inr (by omega)), hV9, csI_1, hV5, csA_i]
  have i2 : V23.1 b 2 = U.1 a 2 := by rw [hV23, csA_i, hV17, csI_o2 (.inr (by omega)), hV13, csI_1, hV9, csI_o2 (.inl (by omega)), hV5, csA_i]
  have i3 : V23.1 b 3 = U.1 a 3 := by rw [hV23, csA_i, hV17, csI_1, hV13, csI_o2 (.inl (by omega)), hV9, csI_o2 (.inl (by omega)), hV5, csA_i]
  have t1 : ∀ k, k < 600 → V23.2.1 (b + 1) k = U.2.1 (a + 1) k := fun k hk => by rw [hV23, csA_o2 (by omega), hV17, csI_a, hV13, csI_a, hV9, csI_a, hV5, csA_1]; exact g5 k hk
  have t2 : ∀ k, k < 4 → V23.2.1 (b + 2) k = U.2.1 (a + 2) k := fun k hk => by rw [hV23, csA_1, g23 k hk, hV17, csI_a, hV13, csI_a, hV9, csI_a, hV5, csA_o2 (by omega)]
  obtain ⟨m29, hm, U', rfl, hI, hfr⟩ := zf2_inv (f := fX7_copyFrom_l56 b a) 2 (fun i x m => x = J i ∧ ∃ X, m = cmem ν sh X ∧ (∀ k, k < i → cV U (a + 4 + 11 * k) X (b + 4 + 11 * k) ∧ cD U (a + 27 + 4 * k) X (b + 27 + 4 * k) ∧ cLs U (a + 36 + 3 * k) X (b + 36 + 3 * k) ∧ cSi U (a + 43 + 5 * k) X (b + 43 + 5 * k)) ∧ Ufr V23 X (fun q => b + 3 ≤ q ∧ q ≤ b + 52)) (fun m => ∃ X, m = cmem ν sh X ∧ (∀ k, k < 2 → cV U (a + 4 + 11 * k) X (b + 4 + 11 * k) ∧ cD U (a + 27 + 4 * k) X (b + 27 + 4 * k) ∧ cLs U (a + 36 + 3 * k) X (b + 36 + 3 * k) ∧ cSi U (a + 43 + 5 * k) X (b + 43 + 5 * k)) ∧ Ufr V23 X (fun q => b + 3 ≤ q ∧ q ≤ b + 52)) (by
    rintro i x m hi ⟨rfl, X, rfl, hI, hfr⟩ F
    have hsame : ∀ q, ¬ (b ≤ q ∧ q ≤ b + 52) → X.1 q = U.1 q ∧ X.2.1 q = U.2.1 q := fun q hq => ⟨((hfr.1 q (by omega)).1).trans (fr.1 q (by omega)).1, ((hfr.1 q (by omega)).2).trans (fr.1 q (by omega)).2⟩
    obtain ⟨X1, p1, p2⟩ := C_cpV (U := X) (a := a + 4 + 11 * i) (b := b + 4 + 11 * i) (fun j hj => by omega)
    obtain ⟨X2, p3, p4⟩ := C_cpD (U := X1) (a := a + 27 + 4 * i) (b := b + 27 + 4 * i) (fun j hj => by omega)
    obtain ⟨X3, p5, p6⟩ := C_cpL (U := X2) (a := a + 36 + 3 * i) (b := b + 36 + 3 * i) (fun j hj => by omega)
    obtain ⟨X4, p7, p8⟩ := C_cpS (U := X3) (a := a + 43 + 5 * i) (b := b + 43 + 5 * i) (fun j hj => by omega)
    have q1 : cV U (a + 4 + 11 * i) X (a + 4 + 11 * i) := ⟨fun j h1 h2 k hk => by rw [(hsame _ (by omega)).2], fun k hk => by rw [(hsame _ (by omega)).1]⟩
    have q2 : cD U (a + 27 + 4 * i) X1 (a + 27 + 4 * i) := ⟨fun j h1 h2 k hk => by rw [(p2.1.1 _ (by omega)).2, (hsame _ (by omega)).2], fun k hk => by rw [(p2.1.1 _ (by omega)).1, (hsame _ (by omega)).1]⟩
    have q3 : cLs U (a + 36 + 3 * i) X2 (a + 36 + 3 * i) := ⟨fun j h1 h2 k hk => by rw [(p4.1.1 _ (by omega)).2, (p2.1.1 _ (by omega)).2, (hsame _ (by omega)).2], fun k hk => by rw [(p4.1.1 _ (by omega)).1, (p2.1.1 _ (by omega)).1, (hsame _ (by omega)).1]⟩
    have q4 : cSi U (a + 43 + 5 * i) X3 (a + 43 + 5 * i) := ⟨fun j h1 h2 k hk => by rw [(p6.1.1 _ (by omega)).2, (p4.1.1 _ (by omega)).2, (p2.1.1 _ (by omega)).2, (hsame _ (by omega)).2], fun k hk => by rw [(p6.1.1 _ (by omega)).1, (p4.1.1 _ (by omega)).1, (p2.1.1 _ (by omega)).1, (hsame _ (by omega)).1]⟩
    have hF4 : Ufr X X4 (fun q => (b + 4 + 11 * i ≤ q ∧ q ≤ b + 4 + 11 * i + 10) ∨ (b + 27 + 4 * i ≤ q ∧ q ≤ b + 27 + 4 * i + 3) ∨ (b + 36 + 3 * i ≤ q ∧ q ≤ b + 36 + 3 * i + 2) ∨ (b + 43 + 5 * i ≤ q ∧ q ≤ b + 43 + 5 * i + 4)) := Ufr_t (Ufr_m p2.1 (fun q hq => .inl hq)) (Ufr_t (Ufr_m p4.1 (fun q hq => .inr (.inl hq))) (Ufr_t (Ufr_m p6.1 (fun q hq => .inr (.inr (.inl hq)))) (Ufr_m p8.1 (fun q hq => .inr (.inr (.inr hq))))))
    refine ⟨J (i + 1), cmem ν sh X4, ?_, rfl, X4, rfl, fun k hk => ?_, Ufr_t hfr (Ufr_m hF4 (fun q hq => by omega))⟩
    · unfold fX7_copyFrom_l56
      rw [if_neg (show ¬ (2 : Int32) ≤ J i by rw [show (2 : Int32) = J 2 from rfl, J_le (by omega) (by omega)]; omega)]
      rw [cgr_X7_5 hb, wb1, cq_9004 (isX7_3 hb), zel_J hi, wb1, cgr_X7_5 ha, wb1, cq_9004 (isX7_3 ha), zel_J hi, wb1, wb1, wb1, eX9_copyFrom (isX7_v hb hi) (isX7_v ha hi), show gX9_copyFrom X (b + 3 + 1 + 11 * i) (a + 3 + 1 + 11 * i) = some X1 from p1, zmap_some, wb1]
      rw [cgr_X7_6 hb, wb1, cq_9005 (isX7_26 hb), zel_J hi, wb1, cgr_X7_6 ha, wb1, cq_9005 (isX7_26 ha), zel_J hi, wb1, wb1, wb1, eX2_copyFrom (isX7_d hb hi) (isX7_d ha hi), show gX2_copyFrom X1 (b + 26 + 1 + 4 * i) (a + 26 + 1 + 4 * i) = some X2 from p3, zmap_some, wb1]
      rw [cgr_X7_7 hb, wb1, cq_9006 (isX7_35 hb), zel_J hi, wb1, cgr_X7_7 ha, wb1, cq_9006 (isX7_35 ha), zel_J hi, wb1, wb1, wb1, eX3_copyFrom (isX7_l hb hi) (isX7_l ha hi), show gX3_copyFrom X2 (b + 35 + 1 + 3 * i) (a + 35 + 1 + 3 * i) = some X3 from p5, zmap_some, wb1]
      rw [cgr_X7_8 hb, wb1, cq_9007 (isX7_42 hb), zel_J hi, wb1, cgr_X7_8 ha, wb1, cq_9007 (isX7_42 ha), zel_J hi, wb1, wb1, wb1, eX6_copyFrom (isX7_s hb hi) (isX7_s ha hi), show gX6_copyFrom X3 (b + 42 + 1 + 5 * i) (a + 42 + 1 + 5 * i) = some X4 from p7, zmap_some, wb1]
      show F (J i + J 1) _ = _
      rw [J_add]
    · by_cases hki : k = i
      · subst hki
        refine ⟨CC_t (CC_t q1 (CPi_C p2)) ?_, CC_t (CC_t q2 (CPi_C p4)) ?_, CC_t (CC_t q3 (CPi_C p6)) ?_, CC_t q4 (CPi_C p8)⟩
        · exact CC_t (CC_F p4.1 (fun j hj z => by omega)) (CC_t (CC_F p6.1 (fun j hj z => by omega)) (CC_F p8.1 (fun j hj z => by omega)))
        · exact CC_t (CC_F p6.1 (fun j hj z => by omega)) (CC_F p8.1 (fun j hj z => by omega))
        · exact CC_F p8.1 (fun j hj z => by omega)
      · obtain ⟨k1, k2, k3, k4⟩ := hI k (by omega)
        exact ⟨CC_t k1 (CC_F hF4 (fun j hj z => by omega)), CC_t k2 (CC_F hF4 (fun j hj z => by omega)), CC_t k3 (CC_F hF4 (fun j hj z => by omega)), CC_t k4 (CC_F hF4 (fun j hj z => by omega))⟩) (by
    rintro x m ⟨rfl, X, rfl, hI, hfr⟩ F
    refine ⟨cmem ν sh X, ?_, X, rfl, hI, hfr⟩
    unfold fX7_copyFrom_l56
    rw [if_pos (show (2 : Int32) ≤ J 2 by decide)]) (zfu_lt (by omega)) (x0 := 0) (x1 := cmem ν sh V23) ⟨rfl, V23, rfl, fun k hk => by omega, Ufr_r⟩
  refine ⟨U', ?_, ⟨fun k hk => ?_, fun j h1 h2 => ?_, fun i hi => ?_, hI⟩, Ufr_t (Ufr_m fr (fun q hq => by omega)) (Ufr_m hfr (fun q hq => by omega))⟩
  · unfold fX7_copyFrom
    rw [ck_X7 hb, zgd_t, cgr_X7_0 ha, wb1, cgr_X7_0 hb, wb1, cyr_9001 (isX7_1 ha) (isX7_1 hb), show zcp 1 600 600 (U.2.1 (a + 1)) (U.2.1 (b + 1)) 0 0 600 = some f5 from e5, zmap_some, wb1, ← hV5, cgr_X7_1 ha, wb1, cpr_X7_1 hb, wb1, ← hV9, cgr_X7_2 ha, wb1, cpr_X7_2 hb, wb1, ← hV13, cgr_X7_3 ha, wb1, cpr_X7_3 hb, wb1, ← hV17, cgr_X7_4 ha, wb1, cgr_X7_4 hb, wb1, cyr_1004 (isX7_2 ha) (isX7_2 hb), show zcp 0 4 4 (V17.2.1 (a + 2)) (V17.2.1 (b + 2)) 0 0 4 = some f23 from e23, zmap_some, wb1, ← hV23, hm, wb1]
  · rw [(hfr.1 (b + 1) (by omega)).2]; exact t1 k hk
  · rw [(hfr.1 b (by omega)).1]
    rcases (show j = 1 ∨ j = 2 ∨ j = 3 by omega) with z | z | z
    · rw [z]; exact i1
    · rw [z]; exact i2
    · rw [z]; exact i3
  · rw [(hfr.1 (b + 2) (by omega)).2]; exact t2 i hi
