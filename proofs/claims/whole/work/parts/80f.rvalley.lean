/-! texts: the reference's lines of a valley -/
def Mln (M M' : zMS) : Prop := (∀ k, k ≠ 10 → k ≠ 12 → k ≠ 13 → k ≠ 14 → k ≠ 16 → k ≠ 17 → k ≠ 18 → k ≠ 21 → k ≠ 22 → M'.1 k = M.1 k) ∧ ∀ k, k ≠ 19 → k ≠ 20 → M'.2.2 k = M.2.2 k
theorem Mln_r {M : zMS} : Mln M M := ⟨fun _ _ _ _ _ _ _ _ _ _ => rfl, fun _ _ _ => rfl⟩
theorem Mln_t {a b c : zMS} (h1 : Mln a b) (h2 : Mln b c) : Mln a c := ⟨fun k x1 x2 x3 x4 x5 x6 x7 x8 x9 => (h2.1 k x1 x2 x3 x4 x5 x6 x7 x8 x9).trans (h1.1 k x1 x2 x3 x4 x5 x6 x7 x8 x9), fun k x y => (h2.2 k x y).trans (h1.2 k x y)⟩
theorem Mln_T {M M' : zMS} (h : Mtt M M') : Mln M M' := ⟨fun k x1 x2 x3 x4 x5 x6 x7 _ x9 => h.1 k x1 x2 x3 x4 x5 x6 x7 x9, fun k _ y => h.2 k y⟩
theorem Mln_I {M : zMS} {j : Nat} {x : Int32} (h : j = 16 ∨ j = 21 ∨ j = 22) : Mln M (zsI M j x) := ⟨fun k _ _ _ _ _ _ _ _ _ => zsI_o (by omega), fun _ _ _ => rfl⟩
theorem Mln_A {M : zMS} {j : Nat} {g : Nat → Int32} (h : j = 19 ∨ j = 20) : Mln M (zsA M j g) := ⟨fun _ _ _ _ _ _ _ _ _ _ => rfl, fun k _ _ => zsA_o (by omega)⟩
def LRes (M : zMS) (R : Option (Int32 × zMS)) (t : Nat → Nat) (n d i : Nat) (f : Nat × Nat) (P : zMS → Prop) : Prop := ∃ M', R = some (bJ (brkN t n d i).isNone, M') ∧ Mln M M' ∧ (∀ p, brkN t n d i = some p → M'.1 16 = J p) ∧ (brkN t n d i = none → (∃ g, LSx M' t n (pS t n i d) f g) ∧ P M')
theorem LRes_f {M M1 : zMS} {t : Nat → Nat} {n d i : Nat} {f : Nat × Nat} {P : zMS → Prop} (hk : Kk t n i ≠ 2) (hm : Mln M M1) : LRes M (some (0, zsI M1 16 (J (Sk t n i)))) t n (d + 1) i f P := by
  refine ⟨_, by rw [brkN_f hk]; rfl, Mln_t hm (Mln_I (by omega)), fun p hp => ?_, fun z => ?_⟩
  · rw [brkN_f hk] at hp
    rw [zsI_1, Option.some.inj hp]
  · rw [brkN_f hk] at z; cases z
theorem LRes_s {M : zMS} {R : Option (Int32 × zMS)} {t : Nat → Nat} {n d i : Nat} {f : Nat × Nat} {P : zMS → Prop} (hk : Kk t n i = 2) (h : LRes M R t n d (Ek t n i) f P) : LRes M R t n (d + 1) i f P := by
  obtain ⟨M', h1, h2, h3, h4⟩ := h
  refine ⟨M', by rw [brkN_t hk]; exact h1, h2, fun p hp => h3 p (by rw [brkN_t hk] at hp; exact hp), fun z => ?_⟩
  rw [brkN_t hk] at z
  have := h4 z
  rw [pS_f] at this
  exact this
theorem LRes_e {M M' : zMS} {t : Nat → Nat} {n i : Nat} {f : Nat × Nat} {g : Bool} {P : zMS → Prop} (hm : Mln M M') (h : LSx M' t n i f g) (hp : P M') : LRes M (some (1, M')) t n 0 i f P :=
  ⟨M', rfl, hm, fun p hq => (by cases hq), fun _ => ⟨⟨g, h⟩, hp⟩⟩
def ob (lo hi x : Nat) : Bool := decide (x < lo ∨ hi < x)
def vset (v : zV) (k x : Nat) : zV := fun j => if j = k then Fin.ofNat 100 x else v j
theorem vset_1 {v : zV} {k x : Nat} (hx : x < 100) : ((vset v k x) k : Nat) = x := by
  unfold vset
  rw [if_pos rfl]
  exact Nat.mod_eq_of_lt hx
theorem vset_o {v : zV} {k x j : Nat} (h : j ≠ k) : (vset v k x) j = v j := if_neg h
def RV (M : zMS) (v : zV) : Prop := ∀ k, k < 57 → M.2.2 19 k = J (v k)
theorem R_set {M : zMS} {v : zV} {k x : Nat} (h : RV M v) (hk : k < 57) (hx : x < 100) : zas 121 (M.2.2 19) (J k) (J x) = some (upd (M.2.2 19) k (J x)) ∧ RV (zsA M 19 (upd (M.2.2 19) k (J x))) (vset v k x) := by
  refine ⟨zas_J (by omega) (by omega), fun j hj => ?_⟩
  rw [zsA_1]
  by_cases c : j = k
  · subst c; rw [upd_1, vset_1 hx]
  · rw [upd_o c, vset_o c]; exact h j hj
def upV (L : Nat) (x : Nat → Nat) (v : zV) : zV := if L = 0 then vset v 0 (x 0) else if L < 4 then vset v (8 * L - 5 + x 0) (x 1) else if L < 7 then vset (vset (vset (vset v (27 + (v 1 : Nat)) (L - 4)) (33 + (v 1 : Nat)) (x 0)) (39 + (v 1 : Nat)) (x 1)) 1 ((v 1 : Nat) + 1) else vset (vset (vset (vset v (45 + (v 2 : Nat)) (L - 7)) (49 + (v 2 : Nat)) (x 0)) (53 + (v 2 : Nat)) (x 1)) 2 ((v 2 : Nat) + 1)
def PV (L : Nat) (x : Nat → Nat) (v : zV) (f : Nat × Nat) (y : Int32) (M' : zMS) : Prop := ∃ v', RV M' v' ∧ (v' 1 : Nat) ≤ 6 ∧ (v' 2 : Nat) ≤ 4 ∧ (f.1 = 0 → v' = upV L x v ∧ M'.1 21 = y)
theorem LS_A {M : zMS} {t : Nat → Nat} {n i j : Nat} {f : Nat × Nat} {b : Bool} {g : Nat → Int32} (hj : j = 19 ∨ j = 20) (h : LSx M t n i f b) : LSx (zsA M j g) t n i f b :=
  ⟨RL_lt (M := M) (M' := zsA M j g) (fun _ _ => rfl) rfl (zsA_o (by omega)) h.1, h.2.1, h.2.2.1, h.2.2.2.1, h.2.2.2.2⟩
theorem LS_21 {M : zMS} {t : Nat → Nat} {n i : Nat} {f : Nat × Nat} {b : Bool} {y : Int32} (h : LSx M t n i f b) : LSx (zsI M 21 y) t n i f b :=
  ⟨RL_lt (M := M) (M' := zsI M 21 y) (fun k hk => zsI_o (by omega)) rfl rfl h.1, ⟨by rw [zsI_o (by omega)]; exact h.2.1.1, fun z => by rw [zsI_o (by omega)]; exact h.2.1.2 z⟩, h.2.2.1, h.2.2.2.1, by rw [zsI_o (by omega)]; exact h.2.2.2.2⟩
theorem r20_0 {M5 m : zMS} {g : Nat → Int32} {a b : Int32} (h : m.2.2 20 = upd (upd g 0 a) 1 b) : zag 4 (m.2.2 20) 0 = some a := by
  rw [show (0 : Int32) = J 0 from rfl, zag_J (by omega) (by omega), h, upd_o (by omega), upd_1]
theorem r20_1 {M5 m : zMS} {g : Nat → Int32} {a b : Int32} (h : m.2.2 20 = upd (upd g 0 a) 1 b) : zag 4 (m.2.2 20) 1 = some b := by
  rw [show (1 : Int32) = J 1 from rfl, zag_J (by omega) (by omega), h, upd_1]
theorem R_person {M0 M : zMS} {t : Nat → Nat} {n i κ : Nat} {f : Nat × Nat} {g : Bool} {v : zV} {x : Nat → Nat} (h : LSx M t n i f g) (h0 : Mln M0 M) (hv : RV M v) (b1 : (v 1 : Nat) ≤ 6) (b2 : (v 2 : Nat) ≤ 4) (hκ : κ < 3) (hfull : f.1 = 0 → (v 1 : Nat) < 6) (hx0 : x 0 = Vk t n i) (hx1 : x 1 = Vk t n (Ek t n i)) :
    LRes M0 (gX12_personLine M (J κ)) t n 2 i (mk1 (mk1 f (ob 0 30 (x 0)) 2 (Sk t n i)) (ob 0 99 (x 1)) 2 (Sk t n (Ek t n i))) (PV (4 + κ) x v (mk1 (mk1 f (ob 0 30 (x 0)) 2 (Sk t n i)) (ob 0 99 (x 1)) 2 (Sk t n (Ek t n i))) (mxI (M.1 21) (J (x 0)))) := by
  unfold gX12_personLine
  by_cases c1 : Kk t n i = 2
  · refine LRes_s c1 ?_
    obtain ⟨M2, e1, e2, e3, e4⟩ := R_tkT (k := 0) (lo := 0) (hi := 30) h c1 (by omega) (by omega) (by omega)
    rw [show gX12_take M 0 0 30 = some (J 1, M2) from e1, wb2, if_neg (show ¬ J 1 = 0 by decide)]
    by_cases c2 : Kk t n (Ek t n i) = 2
    · refine LRes_s c2 ?_
      obtain ⟨M5, d1, d2, d3, d4⟩ := R_tkT (k := 1) (lo := 0) (hi := 99) e2 c2 (by omega) (by omega) (by omega)
      rw [show gX12_take M2 1 0 99 = some (J 1, M5) from d1, wb2, if_neg (show ¬ J 1 = 0 by decide)]
      rw [← hx0] at e2 e4 d2
      rw [← hx1] at d2 d4
      rw [e4] at d4
      have hV0 := Vk_lt c1
      have hV1 := Vk_lt c2
      rw [← hx0] at hV0
      rw [← hx1] at hV1
      have hM5 : Mtt M M5 := Mtt_t e3 d3
      have hv5 : RV M5 v := fun k hk => by rw [hM5.2 19 (by omega)]; exact hv k hk
      have h21 : M5.1 21 = M.1 21 := hM5.1 21 (by omega) (by omega) (by omega) (by omega) (by omega) (by omega) (by omega) (by omega)
      obtain ⟨M15, hM15⟩ : ∃ m, m = zsI M5 21 (mxI (M.1 21) (J (x 0))) := ⟨_, rfl⟩
      have hv15 : RV M15 v := by rw [hM15]; exact hv5
      have h15 : M15.2.2 20 = upd (upd (M.2.2 20) 0 (J (x 0))) 1 (J (x 1)) := by rw [hM15]; exact d4
      have hl15 : LSx M15 t n (Ek t n (Ek t n i)) (mk1 (mk1 f (ob 0 30 (x 0)) 2 (Sk t n i)) (ob 0 99 (x 1)) 2 (Sk t n (Ek t n i))) ((g && !ob 0 30 (x 0)) && !ob 0 99 (x 1)) := by rw [hM15]; exact LS_21 d2
      have hm15 : Mln M0 M15 := Mln_t h0 (Mln_t (Mln_T hM5) (by rw [hM15]; exact Mln_I (by omega)))
      have h2115 : M15.1 21 = mxI (M.1 21) (J (x 0)) := by rw [hM15]; exact zsI_1
      rw [r20_0 (M5 := M5) d4, wb1, R_gr, wb1, wb1, h21, ← hM15, show zag 121 (M15.2.2 19) 1 = some (J (v 1)) by rw [show (1 : Int32) = J 1 from rfl, zag_J (by omega) (by omega), hv15 1 (by omega)], wb1]
      obtain ⟨c, hc⟩ : ∃ c, c = (v 1 : Nat) := ⟨_, rfl⟩
      rw [← hc] at b1 hfull ⊢
      by_cases c3 : 6 ≤ c
      · rw [if_pos (show (6 : Int32) ≤ J c by rw [show (6 : Int32) = J 6 from rfl, J_le (by omega) (by omega)]; exact c3), wc1]
        refine LRes_e hm15 hl15 ⟨v, hv15, by omega, b2, fun z => ?_⟩
        have z1 := (mk1_0 (by omega) z).1
        have z2 := (mk1_0 (by omega) z1).1
        have := hfull z2
        omega
      · rw [if_neg (show ¬ (6 : Int32) ≤ J c by rw [show (6 : Int32) = J 6 from rfl, J_le (by omega) (by omega)]; exact c3)]
        obtain ⟨s1, hs1⟩ := R_set (k := 27 + c) (x := κ) hv15 (by omega) (by omega)
        obtain ⟨m1, hm1⟩ : ∃ m, m = zsA M15 19 (upd (M15.2.2 19) (27 + c) (J κ)) := ⟨_, rfl⟩
        rw [← hm1] at hs1
        obtain ⟨s2, hs2⟩ := R_set (k := 33 + c) (x := x 0) hs1 (by omega) hV0
        obtain ⟨m2, hm2⟩ : ∃ m, m = zsA m1 19 (upd (m1.2.2 19) (33 + c) (J (x 0))) := ⟨_, rfl⟩
        rw [← hm2] at hs2
        obtain ⟨s3, hs3⟩ := R_set (k := 39 + c) (x := x 1) hs2 (by omega) hV1
        obtain ⟨m3, hm3⟩ : ∃ m, m = zsA m2 19 (upd (m2.2.2 19) (39 + c) (J (x 1))) := ⟨_, rfl⟩
        rw [← hm3] at hs3
        obtain ⟨s4, hs4⟩ := R_set (k := 1) (x := c + 1) hs3 (by omega) (by omega)
        obtain ⟨m4, hm4⟩ : ∃ m, m = zsA m3 19 (upd (m3.2.2 19) 1 (J (c + 1))) := ⟨_, rfl⟩
        rw [← hm4] at hs4
        have k1 : m1.2.2 20 = upd (upd (M.2.2 20) 0 (J (x 0))) 1 (J (x 1)) := by rw [hm1, zsA_o (by omega)]; exact h15
        have k2 : m2.2.2 20 = upd (upd (M.2.2 20) 0 (J (x 0))) 1 (J (x 1)) := by rw [hm2, zsA_o (by omega)]; exact k1
        have q1 : zag 121 (m3.2.2 19) 1 = some (J c) := by
          rw [show (1 : Int32) = J 1 from rfl, zag_J (by omega) (by omega), hs3 1 (by omega), vset_o (by omega), vset_o (by omega), vset_o (by omega), hc]
        rw [show (27 + J c : Int32) = J (27 + c) from J_add 27 c, s1, wb1, wb1, ← hm1, r20_0 (M5 := M5) k1, wb1, show (33 + J c : Int32) = J (33 + c) from J_add 33 c, s2, wb1, wb1, ← hm2, r20_1 (M5 := M5) k2, wb1, show (39 + J c : Int32) = J (39 + c) from J_add 39 c, s3, wb1, wb1, ← hm3, q1, wb1, show (J c + 1 : Int32) = J (c + 1) from J_add c 1, show zas 121 (m3.2.2 19) 1 (J (c + 1)) = some (upd (m3.2.2 19) 1 (J (c + 1))) from s4, wb1, wb1, ← hm4, wc1]
        have hl4 : LSx m4 t n (Ek t n (Ek t n i)) (mk1 (mk1 f (ob 0 30 (x 0)) 2 (Sk t n i)) (ob 0 99 (x 1)) 2 (Sk t n (Ek t n i))) ((g && !ob 0 30 (x 0)) && !ob 0 99 (x 1)) := by
          rw [hm4, hm3, hm2, hm1]
          exact LS_A (by omega) (LS_A (by omega) (LS_A (by omega) (LS_A (by omega) hl15)))
        refine LRes_e (Mln_t hm15 (by rw [hm4, hm3, hm2, hm1]; exact Mln_t (Mln_A (by omega)) (Mln_t (Mln_A (by omega)) (Mln_t (Mln_A (by omega)) (Mln_A (by omega)))))) hl4 ⟨_, hs4, by rw [vset_1 (by omega)]; omega, ?_, fun _ => ⟨?_, ?_⟩⟩
        · rw [vset_o (by omega), vset_o (by omega), vset_o (by omega), vset_o (by omega)]; exact b2
        · unfold upV
          rw [if_neg (by omega), if_neg (by omega), if_pos (by omega), ← hc, Nat.add_sub_cancel_left]
        · rw [hm4, hm3, hm2, hm1]; exact h2115
    · rw [R_tkF e2.1 c2, wb2, if_pos rfl]
      exact LRes_f c2 (Mln_t h0 (Mln_T e3))
  · rw [R_tkF h.1 c1, wb2, if_pos rfl]
    exact LRes_f c1 h0
theorem R_sky {M0 M : zMS} {t : Nat → Nat} {n i κ : Nat} {f : Nat × Nat} {g : Bool} {v : zV} {x : Nat → Nat} (h : LSx M t n i f g) (h0 : Mln M0 M) (hv : RV M v) (b1 : (v 1 : Nat) ≤ 6) (b2 : (v 2 : Nat) ≤ 4) (hκ : κ < 2) (hfull : f.1 = 0 → (v 2 : Nat) < 4) (hx0 : x 0 = Vk t n i) (hx1 : x 1 = Vk t n (Ek t n i)) :
    LRes M0 (gX12_skyLine M (J κ)) t n 2 i (mk1 (mk1 f (ob 0 99 (x 0)) 2 (Sk t n i)) (ob (x 0) 99 (x 1)) 2 (Sk t n (Ek t n i))) (PV (7 + κ) x v (mk1 (mk1 f (ob 0 99 (x 0)) 2 (Sk t n i)) (ob (x 0) 99 (x 1)) 2 (Sk t n (Ek t n i))) (M.1 21)) := by
  unfold gX12_skyLine
  by_cases c1 : Kk t n i = 2
  · refine LRes_s c1 ?_
    have hV0 := Vk_lt c1
    rw [← hx0] at hV0
    obtain ⟨M2, e1, e2, e3, e4⟩ := R_tkT (k := 0) (lo := 0) (hi := 99) h c1 (by omega) (by omega) (by omega)
    rw [show gX12_take M 0 0 99 = some (J 1, M2) from e1, wb2, if_neg (show ¬ J 1 = 0 by decide)]
    rw [← hx0] at e2 e4
    rw [show zag 4 (M2.2.2 20) 0 = some (J (x 0)) by rw [show (0 : Int32) = J 0 from rfl, zag_J (by omega) (by omega), e4, upd_1], wb1]
    by_cases c2 : Kk t n (Ek t n i) = 2
    · refine LRes_s c2 ?_
      obtain ⟨M5, d1, d2, d3, d4⟩ := R_tkT (k := 1) (lo := x 0) (hi := 99) e2 c2 (by omega) (by omega) (by omega)
      rw [show gX12_take M2 1 (J (x 0)) 99 = some (J 1, M5) from d1, wb2, if_neg (show ¬ J 1 = 0 by decide)]
      rw [← hx1] at d2 d4
      rw [e4] at d4
      have hV1 := Vk_lt c2
      rw [← hx1] at hV1
      have hM5 : Mtt M M5 := Mtt_t e3 d3
      have hv5 : RV M5 v := fun k hk => by rw [hM5.2 19 (by omega)]; exact hv k hk
      have h21 : M5.1 21 = M.1 21 := hM5.1 21 (by omega) (by omega) (by omega) (by omega) (by omega) (by omega) (by omega) (by omega)
      have hm5 : Mln M0 M5 := Mln_t h0 (Mln_T hM5)
      rw [show zag 121 (M5.2.2 19) 2 = some (J (v 2)) by rw [show (2 : Int32) = J 2 from rfl, zag_J (by omega) (by omega), hv5 2 (by omega)], wb1]
      obtain ⟨c, hc⟩ : ∃ c, c = (v 2 : Nat) := ⟨_, rfl⟩
      rw [← hc] at b2 hfull ⊢
      by_cases c3 : 4 ≤ c
      · rw [if_pos (show (4 : Int32) ≤ J c by rw [show (4 : Int32) = J 4 from rfl, J_le (by omega) (by omega)]; exact c3), wc1]
        refine LRes_e hm5 d2 ⟨v, hv5, b1, by omega, fun z => ?_⟩
        have z1 := (mk1_0 (by omega) z).1
        have z2 := (mk1_0 (by omega) z1).1
        have := hfull z2
        omega
      · rw [if_neg (show ¬ (4 : Int32) ≤ J c by rw [show (4 : Int32) = J 4 from rfl, J_le (by omega) (by omega)]; exact c3)]
        have hκ2 : (if J κ = 0 then some 0 else some 1 : Option Int32) = some (J κ) := by
          match κ, hκ with
          | 0, _ => rfl
          | 1, _ => rfl
        obtain ⟨s1, hs1⟩ := R_set (k := 45 + c) (x := κ) hv5 (by omega) (by omega)
        obtain ⟨m1, hm1⟩ : ∃ m, m = zsA M5 19 (upd (M5.2.2 19) (45 + c) (J κ)) := ⟨_, rfl⟩
        rw [← hm1] at hs1
        obtain ⟨s2, hs2⟩ := R_set (k := 49 + c) (x := x 0) hs1 (by omega) hV0
        obtain ⟨m2, hm2⟩ : ∃ m, m = zsA m1 19 (upd (m1.2.2 19) (49 + c) (J (x 0))) := ⟨_, rfl⟩
        rw [← hm2] at hs2
        obtain ⟨s3, hs3⟩ := R_set (k := 53 + c) (x := x 1) hs2 (by omega) hV1
        obtain ⟨m3, hm3⟩ : ∃ m, m = zsA m2 19 (upd (m2.2.2 19) (53 + c) (J (x 1))) := ⟨_, rfl⟩
        rw [← hm3] at hs3
        obtain ⟨s4, hs4⟩ := R_set (k := 2) (x := c + 1) hs3 (by omega) (by omega)
        obtain ⟨m4, hm4⟩ : ∃ m, m = zsA m3 19 (upd (m3.2.2 19) 2 (J (c + 1))) := ⟨_, rfl⟩
        rw [← hm4] at hs4
        have k1 : m1.2.2 20 = upd (upd (M.2.2 20) 0 (J (x 0))) 1 (J (x 1)) := by rw [hm1, zsA_o (by omega)]; exact d4
        have k2 : m2.2.2 20 = upd (upd (M.2.2 20) 0 (J (x 0))) 1 (J (x 1)) := by rw [hm2, zsA_o (by omega)]; exact k1
        have q1 : zag 121 (m3.2.2 19) 2 = some (J c) := by
          rw [show (2 : Int32) = J 2 from rfl, zag_J (by omega) (by omega), hs3 2 (by omega), vset_o (by omega), vset_o (by omega), vset_o (by omega), hc]
        rw [hκ2, wb1, show (45 + J c : Int32) = J (45 + c) from J_add 45 c, s1, wb1, wb1, ← hm1, r20_0 (M5 := M5) k1, wb1, show (49 + J c : Int32) = J (49 + c) from J_add 49 c, s2, wb1, wb1, ← hm2, r20_1 (M5 := M5) k2, wb1, show (53 + J c : Int32) = J (53 + c) from J_add 53 c, s3, wb1, wb1, ← hm3, q1, wb1, show (J c + 1 : Int32) = J (c + 1) from J_add c 1, show zas 121 (m3.2.2 19) 2 (J (c + 1)) = some (upd (m3.2.2 19) 2 (J (c + 1))) from s4, wb1, wb1, ← hm4, wc1]
        have hl4 : LSx m4 t n (Ek t n (Ek t n i)) (mk1 (mk1 f (ob 0 99 (x 0)) 2 (Sk t n i)) (ob (x 0) 99 (x 1)) 2 (Sk t n (Ek t n i))) ((g && !ob 0 99 (x 0)) && !ob (x 0) 99 (x 1)) := by
          rw [hm4, hm3, hm2, hm1]
          exact LS_A (by omega) (LS_A (by omega) (LS_A (by omega) (LS_A (by omega) d2)))
        refine LRes_e (Mln_t hm5 (by rw [hm4, hm3, hm2, hm1]; exact Mln_t (Mln_A (by omega)) (Mln_t (Mln_A (by omega)) (Mln_t (Mln_A (by omega)) (Mln_A (by omega)))))) hl4 ⟨_, hs4, ?_, by rw [vset_1 (by omega)]; omega, fun _ => ⟨?_, ?_⟩⟩
        · rw [vset_o (by omega), vset_o (by omega), vset_o (by omega), vset_o (by omega)]; exact b1
        · unfold upV
          rw [if_neg (by omega), if_neg (by omega), if_neg (by omega), ← hc, Nat.add_sub_cancel_left]
        · rw [hm4, hm3, hm2, hm1]; exact h21
    · rw [R_tkF e2.1 c2, wb2, if_pos rfl]
      exact LRes_f c2 (Mln_t h0 (Mln_T e3))
  · rw [R_tkF h.1 c1, wb2, if_pos rfl]
    exact LRes_f c1 h0
/-! the words' numbers -/
theorem kw_0 : (2003395685 : Int64) = Jl (cL 0) := by decide +kernel
theorem kw_1 : (126892383759460 : Int64) = Jl (cL 1) := by decide +kernel
theorem kw_2 : (32765925218805876 : Int64) = Jl (cL 2) := by decide +kernel
theorem kw_3 : (131277443786868 : Int64) = Jl (cL 3) := by decide +kernel
theorem kw_4 : (126879447934322 : Int64) = Jl (cL 4) := by decide +kernel
theorem kw_5 : (422877685106 : Int64) = Jl (cL 5) := by decide +kernel
theorem kw_6 : (8102650148546962802 : Int64) = Jl (cL 6) := by decide +kernel
theorem kw_7 : (6713191 : Int64) = Jl (cL 7) := by decide +kernel
theorem kw_8 : (1936617335 : Int64) = Jl (cL 8) := by decide +kernel
theorem kw_9 : (33610324346168690 : Int64) = Jl (cL 9) := by decide +kernel
theorem kw_10 : (7561593 : Int64) = Jl (cL 10) := by decide +kernel
theorem kw_11 : (495673374068 : Int64) = Jl (cL 11) := by decide +kernel
theorem kw_12 : (2002873451 : Int64) = Jl (cL 12) := by decide +kernel
theorem kw_13 : (2002872692 : Int64) = Jl (cL 13) := by decide +kernel
theorem kw_14 : (1734440549 : Int64) = Jl (cL 14) := by decide +kernel
theorem kw_15 : (1818846579 : Int64) = Jl (cL 15) := by decide +kernel
theorem kw_16 : (7237492 : Int64) = Jl (cL 16) := by decide +kernel
theorem kw_17 : (448377483876 : Int64) = Jl (cL 17) := by decide +kernel
theorem cL_ne : ∀ L, L < 18 → ∀ K, K < 18 → cL L = cL K → L = K := by decide +kernel
theorem lgc {L K : Nat} (hL : L < 18) (hK : K < 18) : (lg_cmp (Jl (cL L)) (Jl (cL K)) = 0) ↔ L = K := by
  rw [lg0]
  exact ⟨fun h => cL_ne L hL K hK (Jl_inj (cL_ok L hL).2 (cL_ok K hK).2 h), fun h => by rw [h]⟩
def hiW (L : Nat) : Nat := if L = 1 then 7 else if L = 2 then 9 else 99
theorem R_word {M0 M : zMS} {t : Nat → Nat} {n i L : Nat} {f : Nat × Nat} {v : zV} {x : Nat → Nat} (h : LSx M t n i f true) (h0 : Mln M0 M) (hv : RV M v) (b1 : (v 1 : Nat) ≤ 6) (b2 : (v 2 : Nat) ≤ 4) (hL1 : 1 ≤ L) (hL : L < 4) (hx0 : x 0 = Vk t n i) (hx1 : x 1 = Vk t n (Ek t n i)) :
    LRes M0 (gX12_wordLine M (Jl (cL L))) t n 2 i (mk1 (mk1 f (ob 0 7 (x 0)) 2 (Sk t n i)) (ob 0 (hiW L) (x 1)) 2 (Sk t n (Ek t n i))) (PV L x v (mk1 (mk1 f (ob 0 7 (x 0)) 2 (Sk t n i)) (ob 0 (hiW L) (x 1)) 2 (Sk t n (Ek t n i))) (M.1 21)) := by
  have q1 : (lg_cmp (Jl (cL L)) 126892383759460 = 0) ↔ L = 1 := by rw [kw_1]; exact lgc (by omega) (by omega)
  have q2 : (lg_cmp (Jl (cL L)) 32765925218805876 = 0) ↔ L = 2 := by rw [kw_2]; exact lgc (by omega) (by omega)
  have hhi : hiW L < 1000 := by
    unfold hiW
    repeat' split
    all_goals omega
  have p1 : (if lg_cmp (Jl (cL L)) 126892383759460 = 0 then some 7 else if lg_cmp (Jl (cL L)) 32765925218805876 = 0 then some 9 else some 99 : Option Int32) = some (J (hiW L)) := by
    unfold hiW
    by_cases a1 : L = 1
    · rw [if_pos (q1.mpr a1), if_pos a1]; rfl
    · rw [if_neg (fun z => a1 (q1.mp z)), if_neg a1]
      by_cases a2 : L = 2
      · rw [if_pos (q2.mpr a2), if_pos a2]; rfl
      · rw [if_neg (fun z => a2 (q2.mp z)), if_neg a2]; rfl
  have p2 : (if lg_cmp (Jl (cL L)) 126892383759460 = 0 then some 3 else if lg_cmp (Jl (cL L)) 32765925218805876 = 0 then some 11 else some 19 : Option Int32) = some (J (8 * L - 5)) := by
    by_cases a1 : L = 1
    · rw [if_pos (q1.mpr a1), a1]; rfl
    · rw [if_neg (fun z => a1 (q1.mp z))]
      by_cases a2 : L = 2
      · rw [if_pos (q2.mpr a2), a2]; rfl
      · rw [if_neg (fun z => a2 (q2.mp z)), show L = 3 by omega]; rfl
  unfold gX12_wordLine
  rw [p1, wb1]
  by_cases c1 : Kk t n i = 2
  · refine LRes_s c1 ?_
    have hV0 := Vk_lt c1
    rw [← hx0] at hV0
    obtain ⟨M2, e1, e2, e3, e4⟩ := R_tkT (k := 0) (lo := 0) (hi := 7) h c1 (by omega) (by omega) (by omega)
    rw [show gX12_take M 0 0 7 = some (J 1, M2) from e1, wb2, if_neg (show ¬ J 1 = 0 by decide)]
    rw [← hx0] at e2 e4
    by_cases c2 : Kk t n (Ek t n i) = 2
    · refine LRes_s c2 ?_
      obtain ⟨M5, d1, d2, d3, d4⟩ := R_tkT (k := 1) (lo := 0) (hi := hiW L) e2 c2 (by omega) (by omega) hhi
      rw [show gX12_take M2 1 0 (J (hiW L)) = some (J 1, M5) from d1, wb2, if_neg (show ¬ J 1 = 0 by decide)]
      rw [← hx1] at d2 d4
      rw [e4] at d4
      have hV1 := Vk_lt c2
      rw [← hx1] at hV1
      have hM5 : Mtt M M5 := Mtt_t e3 d3
      have hv5 : RV M5 v := fun k hk => by rw [hM5.2 19 (by omega)]; exact hv k hk
      have h21 : M5.1 21 = M.1 21 := hM5.1 21 (by omega) (by omega) (by omega) (by omega) (by omega) (by omega) (by omega) (by omega)
      have hm5 : Mln M0 M5 := Mln_t h0 (Mln_T hM5)
      rw [d2.2.2.2.2]
      by_cases c3 : (true && !ob 0 7 (x 0) && !ob 0 (hiW L) (x 1)) = true
      · have c4 : ob 0 7 (x 0) = false := by
          cases hq : ob 0 7 (x 0) with
          | false => rfl
          | true => rw [hq] at c3; cases c3
        have c5 : x 0 ≤ 7 := by
          have := of_decide_eq_false c4
          omega
        rw [show decide (x 0 < 0 ∨ 7 < x 0) = ob 0 7 (x 0) from rfl, show decide (x 1 < 0 ∨ hiW L < x 1) = ob 0 (hiW L) (x 1) from rfl, c3, if_neg (show ¬ bJ true = 0 by decide), p2, wb1, r20_0 (M5 := M5) d4, wb1, r20_1 (M5 := M5) d4, wb1, J_add]
        obtain ⟨s1, hs1⟩ := R_set (k := 8 * L - 5 + x 0) (x := x 1) hv5 (by omega) hV1
        rw [s1, wb1, wb1, wc1]
        refine LRes_e (Mln_t hm5 (Mln_A (by omega))) (LS_A (by omega) d2) ⟨_, hs1, ?_, ?_, fun _ => ⟨?_, h21⟩⟩
        · rw [vset_o (by omega)]; exact b1
        · rw [vset_o (by omega)]; exact b2
        · unfold upV
          rw [if_neg (by omega), if_pos (by omega)]
      · have c4 : (true && !ob 0 7 (x 0) && !ob 0 (hiW L) (x 1)) = false := by
          cases hq : (true && !ob 0 7 (x 0) && !ob 0 (hiW L) (x 1)) with
          | false => rfl
          | true => exact absurd hq c3
        rw [show decide (x 0 < 0 ∨ 7 < x 0) = ob 0 7 (x 0) from rfl, show decide (x 1 < 0 ∨ hiW L < x 1) = ob 0 (hiW L) (x 1) from rfl, c4, if_pos (show bJ false = 0 from rfl), wc1]
        refine LRes_e hm5 d2 ⟨v, hv5, b1, b2, fun z => ?_⟩
        have z1 := mk1_0 (by omega) z
        have z2 := mk1_0 (by omega) z1.1
        rw [z1.2, z2.2] at c3
        exact absurd rfl c3
    · rw [R_tkF e2.1 c2, wb2, if_pos rfl]
      exact LRes_f c2 (Mln_t h0 (Mln_T e3))
  · rw [R_tkF h.1 c1, wb2, if_pos rfl]
    exact LRes_f c1 h0
