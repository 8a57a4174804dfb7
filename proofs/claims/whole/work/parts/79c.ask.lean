/-! the match: the class -/
def wK (v : zV) (x i : Nat) : Nat := 6 * dist (v (33 + i)) (v (33 + x)) + i
theorem wK_i {v : zV} (x i j : Nat) (hi : i < 6) (hj : j < 6) (h : wK v x i = wK v x j) : i = j := by
  unfold wK at h
  omega
def nrs (K : Nat → Nat) (P : Nat → Bool) : Nat → Option Nat
  | 0 => none
  | i + 1 => if P i then (match nrs K P i with
    | none => some i
    | some j => if K i < K j then some i else some j) else nrs K P i
theorem nrs_o {K : Nat → Nat} {P : Nat → Bool} : ∀ n, (nrs K P n = none → ∀ c, c < n → P c = false) ∧ (∀ j, nrs K P n = some j → j < n ∧ P j = true ∧ ∀ c, c < n → P c = true → K j ≤ K c)
  | 0 => ⟨fun _ c hc => by omega, fun j h => by cases h⟩
  | i + 1 => by
    obtain ⟨h1, h2⟩ := nrs_o (K := K) (P := P) i
    unfold nrs
    cases hp : P i with
    | false =>
      simp only [Bool.false_eq_true, if_false]
      refine ⟨fun h c hc => ?_, fun j h => ?_⟩
      · by_cases hci : c = i
        · rw [hci, hp]
        · exact h1 h c (by omega)
      · obtain ⟨g1, g2, g3⟩ := h2 j h
        refine ⟨by omega, g2, fun c hc pc => ?_⟩
        by_cases hci : c = i
        · rw [hci, hp] at pc; cases pc
        · exact g3 c (by omega) pc
    | true =>
      simp only [if_true]
      cases hr : nrs K P i with
      | none =>
        refine ⟨fun h => (by cases h), fun j h => ?_⟩
        cases h
        refine ⟨by omega, hp, fun c hc pc => ?_⟩
        by_cases hci : c = i
        · rw [hci]; exact Nat.le_refl _
        · rw [h1 hr c (by omega)] at pc; cases pc
      | some k =>
        obtain ⟨g1, g2, g3⟩ := h2 k hr
        simp only
        by_cases hk : K i < K k
        · rw [if_pos hk]
          refine ⟨fun h => (by cases h), fun j h => ?_⟩
          cases h
          refine ⟨by omega, hp, fun c hc pc => ?_⟩
          by_cases hci : c = i
          · rw [hci]; exact Nat.le_refl _
          · have := g3 c (by omega) pc; omega
        · rw [if_neg hk]
          refine ⟨fun h => (by cases h), fun j h => ?_⟩
          cases h
          refine ⟨by omega, g2, fun c hc pc => ?_⟩
          by_cases hci : c = i
          · rw [hci]; omega
          · exact g3 c (by omega) pc
theorem bts_6 {p : Nat → Bool} : bts p 6 < 256 := by
  have := bts_lt (p := p) 6
  omega
theorem J_m1 {j : Nat} (h : j < 2147483648) : ¬ J j = (-1 : Int32) := fun z => (J_eN h).mp (show J j = NN from z)
def unk (v : zV) (ak : Nat → Nat → Bool) (x : Nat) (c : Nat) : Bool := knd v 1 c && !ak x c
def cW (U : zCS) (e : Nat) (ak : Nat → Nat → Bool) (w : Nat → Option Nat) : Prop := ∀ x, x < 6 → U.2.1 (e + 2) x = oJ (w x) ∧ U.2.1 (e + 3) x = J (bts (ak x) 6)
theorem C_isNearerW {U : zCS} {a : Nat} {v : zV} (h : isVal U a v) (hV : VOK v) {x i j : Nat} (hx : x < (v 1 : Nat)) (hi : i < (v 1 : Nat)) (hj : j < (v 1 : Nat)) : gX0_isNearer U a (J i) (J j) (J x) = some (bJ (decide (wK v x i < wK v x j))) := by
  have h6 := hV.2.2.1
  have d1 : dist (v (33 + i)) (v (33 + x)) < 1000 := by unfold dist; omega
  have d2 : dist (v (33 + j)) (v (33 + x)) < 1000 := by unfold dist; omega
  unfold gX0_isNearer
  rw [C_apart h hV hi hx, wb1, C_apart h hV hj hx, wb1]
  simp (disch := omega) only [wb1, wb2, wb3, wb4, wc1, wc2, zb1_ite, zb2_ite, zb3_ite, zb4_ite, zzc1_ite, zzc2_ite, J_lit, J_n1, J_n2, J_add, J_mul, J_lt, J_le, J_eq, J_eN, N_eJ, J_eN2, J_nn, J_lN, N_lJ, J_leN, N_leJ, NN_l0, NN_eN, bJ_0, bJ_1, bJ_ite, zbz_b, zbz_0, zbz_1, zag_J, zas_J, ite_true, ite_false, if_true, if_false, ite_self, reduceIte, not_true_eq_false, not_false_eq_true, J_o, Nat.reduceEqDiff, Nat.reduceAdd, Nat.reduceMul, Nat.reduceSub, Nat.reduceLT, Nat.reduceLeDiff, Nat.one_ne_zero]
  unfold wK
  by_cases c1 : dist (v (33 + i)) (v (33 + x)) < dist (v (33 + j)) (v (33 + x))
  · rw [if_pos c1, decide_eq_true (by omega)]; rfl
  · rw [if_neg c1]
    by_cases c2 : dist (v (33 + i)) (v (33 + x)) = dist (v (33 + j)) (v (33 + x))
    · rw [if_pos c2]
      by_cases c3 : j ≤ i
      · rw [if_pos c3, decide_eq_false (by omega)]; rfl
      · rw [if_neg c3, decide_eq_true (by omega)]; rfl
    · rw [if_neg c2, decide_eq_false (by omega)]; rfl
theorem C_nearestUnasked {U : zCS} {a e : Nat} {v : zV} (h : isVal U a v) (hV : VOK v) {ak : Nat → Nat → Bool} {w : Nat → Option Nat} (hW : cW U e ak w) {x : Nat} (hx : x < (v 1 : Nat)) : gX0_nearestUnasked U e a (J x) = some (oJ (nrs (wK v x) (unk v ak x) (v 1))) := by
  have h6 := hV.2.2.1
  unfold gX0_nearestUnasked
  have hze := zf2_run (f := gX0_nearestUnasked_l5 U a e (J x)) (r := some (oJ (nrs (wK v x) (unk v ak x) (v 1)))) (v 1 : Nat) (fun i => oJ (nrs (wK v x) (unk v ak x) i)) J (by
    intro i hi F
    unfold gX0_nearestUnasked_l5
    rw [V_p h, if_neg (show ¬ J (v 1) ≤ J i by rw [J_le (by omega) (by omega)]; omega), zag_J (by omega) (by omega), wb1, V_ki h hi, zag_J (by omega) (by omega), wb1, (hW x (by omega)).2]
    have hb : ((J (bts (ak x) 6) >>> (J i &&& 31)) &&& 1) = bJ (ak x i) := by
      have := J_bit8 _ (bts_6 (p := ak x)) i (by omega)
      rw [bts_t, decide_eq_true (show i < 6 by omega), Bool.true_and] at this
      exact this
    rw [hb]
    have hj1 : (J i + 1) = J (i + 1) := J_add (a := i) (b := 1)
    rw [hj1]
    have hn : nrs (wK v x) (unk v ak x) (i + 1) = if unk v ak x i then (match nrs (wK v x) (unk v ak x) i with
      | none => some i
      | some j => if wK v x i < wK v x j then some i else some j) else nrs (wK v x) (unk v ak x) i := rfl
    rw [hn, show unk v ak x i = (decide ((v (27 + i) : Nat) = 1) && !ak x i) from rfl]
    by_cases k1 : (v (27 + i) : Nat) = 1
    · rw [if_pos (show J (v (27 + i)) = 1 by rw [k1]; rfl), decide_eq_true k1, Bool.true_and]
      cases hak : ak x i with
      | true =>
        rw [if_neg (show ¬ bJ true = (0 : Int32) by decide), wb1]
        simp only [Bool.not_true, Bool.false_eq_true, if_false]
      | false =>
        rw [if_pos (show bJ false = (0 : Int32) from rfl)]
        simp only [Bool.not_false, if_true]
        have ho := nrs_o (K := wK v x) (P := unk v ak x) i
        cases hr : nrs (wK v x) (unk v ak x) i with
        | none => rw [oJ_n, if_pos (show NN = -1 from rfl), wb1]; rfl
        | some j =>
          obtain ⟨g1, -, -⟩ := ho.2 j hr
          rw [oJ_s, if_neg (J_m1 (by omega)), C_isNearerW h hV hx hi (by omega), wb1]
          simp only
          by_cases hk : wK v x i < wK v x j
          · rw [decide_eq_true hk, if_pos hk]; rfl
          · rw [decide_eq_false hk, if_neg hk]; rfl
    · rw [if_neg (show ¬ J (v (27 + i)) = 1 by rw [show (1 : Int32) = J 1 from rfl, J_eq (by omega) (by omega)]; exact k1), decide_eq_false k1, Bool.false_and, wb1]
      rfl) (by
    intro F
    unfold gX0_nearestUnasked_l5
    rw [V_p h, if_pos (show J (v 1) ≤ J (v 1) by rw [J_le (by omega) (by omega)]; omega)]) (zfu_lt (by omega))
  show zb1 (zf2 (gX0_nearestUnasked_l5 U a e (J x)) zfu NN (J 0)) _ = _
  rw [show oJ (nrs (wK v x) (unk v ak x) 0) = NN from rfl] at hze
  rw [hze, wb1]
/-- who is to ask next -/
def nxa (v : zV) (ak : Nat → Nat → Bool) (w : Nat → Option Nat) (x : Nat) : Bool := knd v 0 x && (w x).isNone && (nrs (wK v x) (unk v ak x) (v 1)).isSome
theorem C_nextAsker {U : zCS} {a e : Nat} {v : zV} (h : isVal U a v) (hV : VOK v) {ak : Nat → Nat → Bool} {w : Nat → Option Nat} (hW : cW U e ak w) (hw : ∀ x y, w x = some y → y < 6) : gX0_nextAsker U e a = some (oJ (fstI (nxa v ak w) (v 1))) := by
  have h6 := hV.2.2.1
  have hst : ∀ i, i < (v 1 : Nat) → ∀ F, gX0_nextAsker_l2 U a e F (J i) = if nxa v ak w i then some (J i) else F (J (i + 1)) := by
    intro i hi F
    unfold gX0_nextAsker_l2 nxa
    have hj1 : (J i + 1) = J (i + 1) := J_add (a := i) (b := 1)
    rw [V_p h, if_neg (show ¬ J (v 1) ≤ J i by rw [J_le (by omega) (by omega)]; omega), zag_J (by omega) (by omega), wb1, V_ki h hi, zag_J (by omega) (by omega), wb1, (hW i (by omega)).1, C_nearestUnasked h hV hW hi, wb1, hj1, show knd v 0 i = decide ((v (27 + i) : Nat) = 0) from rfl]
    by_cases k0 : (v (27 + i) : Nat) = 0
    · rw [if_pos (show J (v (27 + i)) = 0 by rw [k0]; rfl), decide_eq_true k0]
      cases hwi : w i with
      | some y =>
        have := hw i y hwi
        rw [oJ_s, if_neg (J_m1 (by omega))]
        simp
      | none =>
        rw [oJ_n, if_pos (show NN = -1 from rfl)]
        cases hr : nrs (wK v i) (unk v ak i) (v 1) with
        | none => rw [oJ_n, if_pos (show NN = -1 from rfl)]; simp
        | some c =>
          have := ((nrs_o (K := wK v i) (P := unk v ak i) (v 1)).2 c hr).1
          rw [oJ_s, if_neg (J_m1 (by omega))]; simp
    · rw [if_neg (show ¬ J (v (27 + i)) = 0 by rw [show (0 : Int32) = J 0 from rfl, J_eq (by omega) (by omega)]; exact k0), decide_eq_false k0]
      simp
  unfold gX0_nextAsker
  cases hf : fstI (nxa v ak w) (v 1) with
  | none =>
    have h1 := fstI_n hf
    exact zf1_run (f := gX0_nextAsker_l2 U a e) (r := some (oJ none)) (v 1 : Nat) J (fun i hi F => by
      rw [hst i hi F, h1 i hi]; simp) (fun F => by
      unfold gX0_nextAsker_l2
      rw [V_p h, if_pos (show J (v 1) ≤ J (v 1) by rw [J_le (by omega) (by omega)]; omega)]; rfl) (zfu_lt (by omega))
  | some c =>
    obtain ⟨h1, h2, h3⟩ := fstI_s hf
    exact zf1_run (f := gX0_nextAsker_l2 U a e) (r := some (oJ (some c))) c J (fun i hi F => by
      rw [hst i (by omega) F, h3 i hi]; simp) (fun F => by
      rw [hst c h1 F, h2]; rfl) (zfu_lt (by omega))
theorem bts_set {ak : Nat → Nat → Bool} {a b : Nat} (hb : b < 6) : bts (ak a) 6 ||| 2 ^ b = bts (ak1 ak a b a) 6 := by
  apply Nat.eq_of_testBit_eq
  intro i
  rw [Nat.testBit_or, bts_t, bts_t, Nat.testBit_two_pow]
  unfold ak1
  by_cases hib : i = b
  · subst hib; simp [hb]
  · simp [hib, Ne.symm hib]
theorem ak1_o {ak : Nat → Nat → Bool} {a b x : Nat} (h : x ≠ a) : ak1 ak a b x = ak x := funext fun y => by
  unfold ak1
  rw [decide_eq_false h]; simp
