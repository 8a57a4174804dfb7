/-! texts: class and reference at one line -/
theorem isLe_F {U U' : zCS} {a : Nat} {l : zV} {A : Nat → Prop} (hu : Ufr U U' A) (hA : ∀ j, j ≤ 2 → ¬ A (a + j)) (h : isLe U a l) : isLe U' a l := by
  have h3 := fun j (hj : j ≤ 2) => (hu.1 (a + j) (hA j hj)).2
  have h4 := (hu.1 a (by have := hA 0 (by omega); rwa [Nat.add_zero] at this)).1
  unfold isLe at *
  rw [h4, h3 1 (by omega), h3 2 (by omega)]
  exact h
theorem Utk_F {U U' : zCS} {r : Nat} (h : Utk U U' r) : Ufr U U' (fun q => q = r ∨ q = r + 24 ∨ q = r + 25) := ⟨fun q hq => ⟨funext fun j => h.1 q j (fun z => hq (.inl z.1)), h.2.1 q (fun z => hq (.inr (.inl z))) (fun z => hq (.inr (.inr z)))⟩, h.2.2⟩
theorem Umk_F {U U' : zCS} {r : Nat} (h : Umk U U' r) : Ufr U U' (fun q => q = r) := ⟨fun q hq => ⟨funext fun j => h.1 q j (fun z => hq z.1), by rw [h.2]⟩, by rw [h.2]⟩
def fullC (U : zCS) (r L : Nat) : Bool := if 16 ≤ L then !decide (U.1 (r + 19) 0 < 8) else if 14 ≤ L then decide (L = 14) && !decide (U.1 (r + 16) 1 < 10) else if 9 ≤ L then !decide (U.1 (r + 12) 0 < 40) else if 7 ≤ L then !decide (U.1 (r + 1) 8 < 4) else decide (4 ≤ L) && !decide (U.1 (r + 1) 4 < 6)
theorem bz_not {c : Prop} [Decidable c] : (zb1 (if c then some 0 else some 1) fun s1 => zb1 (zbz s1) fun v3 => some v3 : Option Int32) = some (bJ (!decide c)) := by
  by_cases h : c
  · rw [if_pos h, decide_eq_true h]; rfl
  · rw [if_neg h, decide_eq_false h]; rfl
theorem C_isFull {U : zCS} {r L : Nat} (hL : L < 18) : gX4_isFull U r (J L) = some (bJ (fullC U r L)) := by
  unfold gX4_isFull fullC
  by_cases c16 : 16 ≤ L
  · rw [if_neg (show ¬ J L < 16 by rw [show (16 : Int32) = J 16 from rfl, J_lt (by omega) (by omega)]; omega), if_pos c16]
    exact bz_not
  · rw [if_pos (show J L < 16 by rw [show (16 : Int32) = J 16 from rfl, J_lt (by omega) (by omega)]; omega), if_neg c16]
    by_cases c14 : 14 ≤ L
    · rw [if_neg (show ¬ J L < 14 by rw [show (14 : Int32) = J 14 from rfl, J_lt (by omega) (by omega)]; omega), if_pos c14]
      by_cases ce : L = 14
      · rw [if_pos (show J L = 14 by rw [ce]; rfl), decide_eq_true ce, Bool.true_and]
        exact bz_not
      · rw [if_neg (show ¬ J L = 14 by rw [show (14 : Int32) = J 14 from rfl, J_eq (by omega) (by omega)]; exact ce), decide_eq_false ce, Bool.false_and]; rfl
    · rw [if_pos (show J L < 14 by rw [show (14 : Int32) = J 14 from rfl, J_lt (by omega) (by omega)]; omega), if_neg c14]
      by_cases c9 : 9 ≤ L
      · rw [if_neg (show ¬ J L < 9 by rw [show (9 : Int32) = J 9 from rfl, J_lt (by omega) (by omega)]; omega), if_pos c9]
        exact bz_not
      · rw [if_pos (show J L < 9 by rw [show (9 : Int32) = J 9 from rfl, J_lt (by omega) (by omega)]; omega), if_neg c9]
        by_cases c7 : 7 ≤ L
        · rw [if_neg (show ¬ J L < 7 by rw [show (7 : Int32) = J 7 from rfl, J_lt (by omega) (by omega)]; omega), if_pos c7]
          exact bz_not
        · rw [if_pos (show J L < 7 by rw [show (7 : Int32) = J 7 from rfl, J_lt (by omega) (by omega)]; omega), if_neg c7]
          by_cases c4 : 4 ≤ L
          · rw [if_neg (show ¬ J L < 4 by rw [show (4 : Int32) = J 4 from rfl, J_lt (by omega) (by omega)]; omega), decide_eq_true c4, Bool.true_and]
            exact bz_not
          · rw [if_pos (show J L < 4 by rw [show (4 : Int32) = J 4 from rfl, J_lt (by omega) (by omega)]; omega), decide_eq_false c4, Bool.false_and]; rfl
theorem chk_i {L : Nat} {f : Nat × Nat} {fl fl' : Bool} {s0 : Nat} {x p : Nat → Nat} (h : f.1 = 0 → fl = fl') (k : Nat) : chk L f fl s0 x p k = chk L f fl' s0 x p k := by
  by_cases c : f.1 = 0
  · rw [h c]
  · unfold chk
    rw [show mk1 f fl 3 s0 = f from if_neg (fun z => c z.1), show mk1 f fl' 3 s0 = f from if_neg (fun z => c z.1)]
theorem chk_in {L : Nat} {f : Nat × Nat} {fl : Bool} {s0 : Nat} {x p : Nat → Nat} : ∀ k, (chk L f fl s0 x p k).1 = 0 → f.1 = 0 ∧ fl = false ∧ ∀ j, j < k → outB L x j = false
  | 0, h => ⟨(mk1_0 (by omega) h).1, (mk1_0 (by omega) h).2, fun j hj => by omega⟩
  | k + 1, h => by
    have h1 := mk1_0 (f := chk L f fl s0 x p k) (by omega) h
    obtain ⟨h2, h3, h4⟩ := chk_in k h1.1
    refine ⟨h2, h3, fun j hj => ?_⟩
    by_cases hjk : j = k
    · rw [hjk]; exact h1.2
    · exact h4 j (by omega)
theorem mk1_n1 {f : Nat × Nat} {c : Bool} {g p : Nat} (hf : f.1 ≠ 1) (hg : g ≠ 1) : (mk1 f c g p).1 ≠ 1 := by
  unfold mk1; split
  · exact hg
  · exact hf
theorem chk_n1 {L : Nat} {f : Nat × Nat} {fl : Bool} {s0 : Nat} {x p : Nat → Nat} (hf : f.1 ≠ 1) : ∀ k, (chk L f fl s0 x p k).1 ≠ 1
  | 0 => mk1_n1 hf (by omega)
  | k + 1 => mk1_n1 (chk_n1 hf k) (by omega)
theorem F_tail {ν : zM} {sh : Nat → Nat} {U : zCS} {r n i L s0 : Nat} {t : Nat → Nat} {f : Nat × Nat} {x p : Nat → Nat} {Q : zCS → Prop} (h4 : isX4 sh r) (hst : stOk ν sh) (hL : L < 18) (hN : NR U r t n i (nu L)) (hk : ∀ j, j < nu L → Kk t n (pS t n i j) = 2) (hx : ∀ j, x j = Vk t n (pS t n i j)) (hp : ∀ j, p j = Sk t n (pS t n i j)) (hC : CF U r f) (hf : f.1 < 4)
    (htk : (chk L f (fullC U r L) s0 x p (nu L)).1 = 0 → ∀ U3, Umk U U3 r → ∃ U4, gX4_take U3 r (J L) = some U4 ∧ Q U4 ∧ Ufr U3 U4 (rdr r) ∧ U4.1 r = U3.1 r) :
    ∃ U4, tailL (cmem ν sh U) r (J L) (J s0) = some (cmem ν sh U4) ∧ CF U4 r (chk L f (fullC U r L) s0 x p (nu L)) ∧ Ufr U U4 (rdr r) ∧ (∀ j, j ≠ 4 → j ≠ 5 → U4.1 r j = U.1 r j) ∧ ((chk L f (fullC U r L) s0 x p (nu L)).1 = 0 → Q U4) := by
  have hxe : x = fun j => Vk t n (pS t n i j) := funext hx
  have hpe : p = fun j => Sk t n (pS t n i j) := funext hp
  obtain ⟨U3, e1, e2, e3⟩ := C_check (s0 := s0) hL hN (fun j hj => Vk_lt (hk j hj)) hC hf (C_isFull hL)
  rw [← hxe, ← hpe] at e2
  have hb := chk_b (L := L) (fl := fullC U r L) (s0 := s0) (x := x) (p := p) hf (nu L)
  unfold tailL
  rw [eX4_check h4 hst, e1, zmap_some, wb1, cgr_X4_4 h4, wb1, e2.1]
  have hm3 : Ufr U U3 (rdr r) := Ufr_m (Umk_F e3) (fun q hq => by rw [hq]; exact ⟨by omega, by omega⟩)
  by_cases c : (chk L f (fullC U r L) s0 x p (nu L)).1 = 0
  · obtain ⟨U4, d1, d2, d3, d4⟩ := htk c U3 e3
    rw [c, if_pos (show J 0 = 0 from rfl), eX4_take h4, d1, zmap_some, wb1, wc1]
    exact ⟨U4, rfl, ⟨by rw [d4]; exact e2.1, by rw [d4]; exact e2.2⟩, Ufr_t hm3 d3, fun j z1 z2 => by rw [d4]; exact e3.1 r j (fun z => by omega), fun _ => d2⟩
  · rw [if_neg (show ¬ J (chk L f (fullC U r L) s0 x p (nu L)).1 = 0 by rw [show (0 : Int32) = J 0 from rfl, J_eq (by omega) (by omega)]; exact c), wc1]
    exact ⟨U3, rfl, e2, hm3, fun j z1 z2 => e3.1 r j (fun z => by omega), fun z => absurd z c⟩
/-! the drafts -/
def farV (v : zV) : Int32 := itr (fun q y => mxI y (J (v (33 + q)))) NN (v 1)
theorem farV_c {v v' : zV} (h1 : v' 1 = v 1) (h : ∀ j, j < (v 1 : Nat) → v' (33 + j) = v (33 + j)) : farV v' = farV v := by
  unfold farV
  rw [h1]
  exact itr_c (N := (v 1 : Nat)) (fun i y hi => by rw [h i hi]) _ (Nat.le_refl _)
theorem farV_up {L : Nat} {x : Nat → Nat} {v : zV} (hL : L < 9) (b1 : (v 1 : Nat) ≤ 6) (b2 : (v 2 : Nat) ≤ 4) (hx0 : x 0 < 100) (hx : 1 ≤ L → L < 4 → x 0 ≤ 7) (hc : 4 ≤ L → L < 7 → (v 1 : Nat) < 6) (hc2 : 7 ≤ L → (v 2 : Nat) < 4) : farV (upV L x v) = farY L (farV v) x := by
  unfold upV farY
  by_cases c0 : L = 0
  · rw [if_pos c0, if_neg (by omega)]
    exact farV_c (vset_o (by omega)) (fun j hj => vset_o (by omega))
  · rw [if_neg c0]
    by_cases c4 : L < 4
    · have := hx (by omega) c4
      rw [if_pos c4, if_neg (by omega)]
      exact farV_c (vset_o (by omega)) (fun j hj => vset_o (by omega))
    · rw [if_neg c4]
      by_cases c7 : L < 7
      · have := hc (by omega) c7
        rw [if_pos c7, if_pos ⟨by omega, c7⟩]
        obtain ⟨c, hcc⟩ : ∃ c, c = (v 1 : Nat) := ⟨_, rfl⟩
        rw [← hcc]
        unfold farV
        rw [vset_1 (by omega), itr_s, ← hcc]
        have e1 : (vset (vset (vset (vset v (27 + c) (L - 4)) (33 + c) (x 0)) (39 + c) (x 1)) 1 (c + 1)) (33 + c) = vset (vset v (27 + c) (L - 4)) (33 + c) (x 0) (33 + c) := by rw [vset_o (by omega), vset_o (by omega)]
        rw [e1, vset_1 hx0]
        congr 1
        exact itr_c (N := c) (fun i y hi => by rw [vset_o (by omega), vset_o (by omega), vset_o (by omega), vset_o (by omega)]) _ (Nat.le_refl _)
      · have := hc2 (by omega)
        rw [if_neg c7, if_neg (by omega)]
        exact farV_c (by rw [vset_o (by omega), vset_o (by omega), vset_o (by omega), vset_o (by omega)]) (fun j hj => by rw [vset_o (by omega), vset_o (by omega), vset_o (by omega), vset_o (by omega)])
def DR (σ : Nat) (U : zCS) (M : zMS) (r : Nat) (f : Nat × Nat) : Prop := match σ with
  | 0 => ∃ v, RV M v ∧ (v 1 : Nat) ≤ 6 ∧ (v 2 : Nat) ≤ 4 ∧ (f.1 = 0 → isVal U (r + 1) v ∧ VOKd v ∧ M.1 21 = farV v)
  | 1 => ∃ d, RDy M d ∧ (d 0 : Nat) ≤ 40 ∧ (f.1 = 0 → isDay U (r + 12) d ∧ DOK d)
  | 2 => ∃ l, RLs M l ∧ (l 1 : Nat) ≤ 10 ∧ (f.1 = 0 → isLe U (r + 16) l ∧ LOK l)
  | _ => ∃ s, RSi M s ∧ (s 0 : Nat) ≤ 8 ∧ (f.1 = 0 → isSi U (r + 19) s ∧ SOK s)
theorem fl_lt {a : Int32} {c m : Nat} (h : a = J c) (hc : c ≤ m) (hm : m < 1000) : (!decide (a < J m)) = decide (c = m) := by
  subst h
  by_cases z : c = m
  · rw [decide_eq_true z, decide_eq_false (by rw [J_lt (by omega) (by omega)]; omega)]; rfl
  · rw [decide_eq_false z, decide_eq_true (by rw [J_lt (by omega) (by omega)]; omega)]; rfl
/-- one line, both sides -/
def LJ (ν : zM) (sh : Nat → Nat) (σ L : Nat) (U : zCS) (M : zMS) (r : Nat) (t : Nat → Nat) (n i : Nat) (f : Nat × Nat) : Prop := ∃ (f' : Nat × Nat) (P : zMS → Prop), LRes M (gX12_lineOf M (J σ) (Jl (cL L)) (J (Sk t n i))) t n (nu L) (Ek t n i) f' P ∧ f'.1 ≠ 1 ∧ ((∀ j, j < nu L → Kk t n (pS t n (Ek t n i) j) = 2) → ∀ U2, Utk U U2 r → NR U2 r t n (Ek t n i) (nu L) → ∃ U4, tailL (cmem ν sh U2) r (J L) (J (Sk t n i)) = some (cmem ν sh U4) ∧ CF U4 r f' ∧ Ufr U2 U4 (rdr r) ∧ (∀ j, j ≠ 4 → j ≠ 5 → U4.1 r j = U2.1 r j) ∧ ∀ M', P M' → DR σ U4 M' r f')
theorem CF_k {U U' : zCS} {r : Nat} {f : Nat × Nat} (h : Utk U U' r) (hc : CF U r f) : CF U' r f := ⟨by rw [h.1 r 4 (fun z => by omega)]; exact hc.1, by rw [h.1 r 5 (fun z => by omega)]; exact hc.2⟩
theorem J_valleyLine {ν : zM} {sh : Nat → Nat} {U : zCS} {M : zMS} {r n i L : Nat} {t : Nat → Nat} {f : Nat × Nat} (h4 : isX4 sh r) (hst : stOk ν sh) (hL : L < 9) (hS : LSx M t n i f true) (hk : Kk t n i ≠ 0) (hC : CF U r f) (hf1 : f.1 ≠ 1) (hD : DR 0 U M r f) : LJ ν sh 0 L U M r t n i f := by
  obtain ⟨v, hv, b1, b2, hd⟩ := hD
  obtain ⟨x, hx⟩ : ∃ x : Nat → Nat, ∀ j, x j = Vk t n (pS t n (Ek t n i) j) := ⟨_, fun _ => rfl⟩
  obtain ⟨p, hp⟩ : ∃ p : Nat → Nat, ∀ j, p j = Sk t n (pS t n (Ek t n i) j) := ⟨_, fun _ => rfl⟩
  refine ⟨chk L f (flV L v) (Sk t n i) x p (nu L), PV L x v (chk L f (flV L v) (Sk t n i) x p (nu L)) (farY L (M.1 21) x), ?_, chk_n1 hf1 _, fun hkk U2 hU2 hN => ?_⟩
  · unfold gX12_lineOf
    rw [if_pos (show J 0 = 0 from rfl)]
    exact LRes_z (R_valleyLine hS hk hv b1 b2 hL hx hp)
  · have hV2 : f.1 = 0 → isVal U2 (r + 1) v := fun z => isVal_F (Utk_F hU2) (fun j hj z => by omega) (hd z).1
    have hfl : f.1 = 0 → fullC U2 r L = flV L v := fun z => by
      have hw := hV2 z
      unfold fullC flV
      rw [if_neg (by omega), if_neg (by omega), if_neg (by omega)]
      by_cases c7 : 7 ≤ L
      · rw [if_pos c7, if_neg (by omega), if_pos c7]
        exact fl_lt (m := 4) hw.2.2.1 b2 (by omega)
      · rw [if_neg c7]
        by_cases c4 : 4 ≤ L
        · rw [decide_eq_true c4, Bool.true_and, if_pos ⟨c4, by omega⟩]
          exact fl_lt (m := 6) hw.2.1 b1 (by omega)
        · rw [decide_eq_false c4, Bool.false_and, if_neg (by omega), if_neg (by omega)]
    have hxl : ∀ j, j < nu L → x j < 100 := fun j hj => by rw [hx]; exact Vk_lt (hkk j hj)
    have hnu := nu_ok L (by omega)
    obtain ⟨U4, e1, e2, e3, e4, e5⟩ := F_tail (s0 := Sk t n i) (Q := fun U4 => isVal U4 (r + 1) (upV L x v) ∧ VOKd (upV L x v)) h4 hst (by omega) hN hkk hx hp (CF_k hU2 hC) hS.2.2.2.1 (by
      intro hz U3 hU3
      obtain ⟨z1, z2, z3⟩ := chk_in (nu L) hz
      have hw := isVal_F (Umk_F hU3) (fun j hj z => by omega) (hV2 z1)
      have hVd := (hd z1).2.1
      rw [hfl z1] at z2
      have q0 := hN 0 (by omega)
      rw [← hx, ← hp] at q0
      have r0 : U3.2.1 (r + 24) 0 = J (x 0) := by rw [hU3.2]; exact q0.1
      have o0 := of_decide_eq_false (z3 0 (by omega))
      have hx0 := hxl 0 (by omega)
      by_cases c0 : L = 0
      · subst c0
        have o0 : ¬ (x 0 < 2 ∨ 30 < x 0) := o0
        obtain ⟨U4, a1, a2, a3, a4, a5⟩ := C_wide hw hVd hx0 (by omega) r0
        exact ⟨U4, a1, ⟨a2, a3⟩, a4, a5⟩
      · have hn2 : nu L = 2 := by
          match L, hL, c0 with
          | 1, _, _ => rfl
          | 2, _, _ => rfl
          | 3, _, _ => rfl
          | 4, _, _ => rfl
          | 5, _, _ => rfl
          | 6, _, _ => rfl
          | 7, _, _ => rfl
          | 8, _, _ => rfl
        have q1 := hN 1 (by omega)
        rw [← hx, ← hp] at q1
        have r1 : U3.2.1 (r + 24) 1 = J (x 1) := by rw [hU3.2]; exact q1.1
        have o1 := of_decide_eq_false (z3 1 (by omega))
        have hx1 := hxl 1 (by omega)
        by_cases c4 : L < 4
        · have oo : ¬ (x 0 < 0 ∨ 7 < x 0) ∧ ¬ (x 1 < 0 ∨ hiW L < x 1) := by
            match L, c4, c0, o0, o1 with
            | 1, _, _, o0, o1 => exact ⟨o0, o1⟩
            | 2, _, _, o0, o1 => exact ⟨o0, o1⟩
            | 3, _, _, o0, o1 => exact ⟨o0, o1⟩
          obtain ⟨U4, a1, a2, a3, a4, a5⟩ := C_word hw hVd (by omega) c4 hx1 (by omega) r0 r1
          exact ⟨U4, a1, ⟨a2, a3⟩, a4, a5⟩
        · by_cases c7 : L < 7
          · obtain ⟨κ, rfl⟩ : ∃ κ, L = 4 + κ := ⟨L - 4, by omega⟩
            have hc6 : (v 1 : Nat) < 6 := by
              unfold flV at z2
              rw [if_pos ⟨by omega, c7⟩] at z2
              have := of_decide_eq_false z2
              omega
            obtain ⟨U4, a1, a2, a3, a4, a5⟩ := C_person (κ := κ) hw hVd (by omega) hc6 hx0 hx1 r0 r1
            exact ⟨U4, a1, ⟨a2, a3⟩, a4, a5⟩
          · obtain ⟨κ, rfl⟩ : ∃ κ, L = 7 + κ := ⟨L - 7, by omega⟩
            have hc4 : (v 2 : Nat) < 4 := by
              unfold flV at z2
              rw [if_neg (by omega), if_pos (by omega)] at z2
              have := of_decide_eq_false z2
              omega
            have hκ : κ < 2 := by omega
            have oo : ¬ (x 1 < x 0 ∨ 99 < x 1) := by
              match κ, hκ, o1 with
              | 0, _, o1 => exact o1
              | 1, _, o1 => exact o1
            obtain ⟨U4, a1, a2, a3, a4, a5⟩ := C_sky (κ := κ) hw hVd hκ hc4 hx0 hx1 (by omega) r0 r1
            exact ⟨U4, a1, ⟨a2, a3⟩, a4, a5⟩)
    rw [chk_i hfl] at e2 e5
    refine ⟨U4, e1, e2, e3, e4, fun M' hM' => ?_⟩
    obtain ⟨v', w1, w2, w3, w4⟩ := hM'
    refine ⟨v', w1, w2, w3, fun z => ?_⟩
    obtain ⟨w5, w6⟩ := w4 z
    obtain ⟨z1, z2, z3⟩ := chk_in (nu L) z
    have o0 := of_decide_eq_false (z3 0 (by omega))
    rw [w5]
    refine ⟨(e5 z).1, (e5 z).2, ?_⟩
    rw [w6, (hd z1).2.2, farV_up hL b1 b2 (hxl 0 (by omega)) (fun h1 h2 => ?_) (fun h1 h2 => ?_) (fun h1 => ?_)]
    · have oo : ¬ (x 0 < 0 ∨ 7 < x 0) := by
        match L, h1, h2, o0 with
        | 1, _, _, o0 => exact o0
        | 2, _, _, o0 => exact o0
        | 3, _, _, o0 => exact o0
      omega
    · unfold flV at z2
      rw [if_pos ⟨h1, h2⟩] at z2
      have := of_decide_eq_false z2
      omega
    · unfold flV at z2
      rw [if_neg (by omega), if_pos h1] at z2
      have := of_decide_eq_false z2
      omega
