/-! texts: class and reference at one line of a day, a lesson, a sight -/
theorem J_dayLine {ν : zM} {sh : Nat → Nat} {U : zCS} {M : zMS} {r n i κ : Nat} {t : Nat → Nat} {f : Nat × Nat} (h4 : isX4 sh r) (hst : stOk ν sh) (hκ : κ < 5) (hS : LSx M t n i f true) (hk : Kk t n i ≠ 0) (hC : CF U r f) (hf1 : f.1 ≠ 1) (hD : DR 1 U M r f) : LJ ν sh 1 (9 + κ) U M r t n i f := by
  obtain ⟨d, hv, b1, hd⟩ := hD
  obtain ⟨x, hx⟩ : ∃ x : Nat → Nat, ∀ j, x j = Vk t n (pS t n (Ek t n i) j) := ⟨_, fun _ => rfl⟩
  obtain ⟨p, hp⟩ : ∃ p : Nat → Nat, ∀ j, p j = Sk t n (pS t n (Ek t n i) j) := ⟨_, fun _ => rfl⟩
  refine ⟨chk (9 + κ) f (decide ((d 0 : Nat) = 40)) (Sk t n i) x p (nu (9 + κ)), PD (9 + κ) x d (chk (9 + κ) f (decide ((d 0 : Nat) = 40)) (Sk t n i) x p (nu (9 + κ))), ?_, chk_n1 hf1 _, fun hkk U2 hU2 hN => ?_⟩
  · unfold gX12_lineOf
    rw [if_neg (show ¬ J 1 = 0 by decide), if_pos (show J 1 = 1 from rfl)]
    exact LRes_z (R_dayLine hS hk hv b1 hκ hx hp)
  · have hV2 : f.1 = 0 → isDay U2 (r + 12) d := fun z => isDay_F (Utk_F hU2) (fun j hj z => by omega) (hd z).1
    have hfl : f.1 = 0 → fullC U2 r (9 + κ) = decide ((d 0 : Nat) = 40) := fun z => by
      unfold fullC
      rw [if_neg (by omega), if_neg (by omega), if_pos (by omega)]
      exact fl_lt (m := 40) (hV2 z).1 b1 (by omega)
    have hxl : ∀ j, j < nu (9 + κ) → x j < 100 := fun j hj => by rw [hx]; exact Vk_lt (hkk j hj)
    have hnu := nu_ok (9 + κ) (by omega)
    obtain ⟨U4, e1, e2, e3, e4, e5⟩ := F_tail (s0 := Sk t n i) (Q := fun U4 => isDay U4 (r + 12) (upD (9 + κ) x d) ∧ DOK (upD (9 + κ) x d)) h4 hst (by omega) hN hkk hx hp (CF_k hU2 hC) hS.2.2.2.1 (by
      intro hz U3 hU3
      obtain ⟨z1, z2, z3⟩ := chk_in (nu (9 + κ)) hz
      have hw := isDay_F (Umk_F hU3) (fun j hj z => by omega) (hV2 z1)
      rw [hfl z1] at z2
      have z2 := of_decide_eq_false z2
      have q0 := hN 0 (by omega)
      rw [← hx, ← hp] at q0
      have r0 : U3.2.1 (r + 24) 0 = J (x 0) := by rw [hU3.2]; exact q0.1
      have hx0 := hxl 0 (by omega)
      have hn2 : κ ≠ 4 → nu (9 + κ) = 2 := fun z => by
        have hκ4 : κ < 4 := by omega
        match κ, hκ4 with
        | 0, _ => rfl
        | 1, _ => rfl
        | 2, _ => rfl
        | 3, _ => rfl
      obtain ⟨U4, a1, a2, a3, a4, a5⟩ := C_deed (κ := κ) (x := x) hw (hd z1).2 hκ (by omega) hx0 (fun z => by
        have h2 := hn2 z
        refine ⟨hxl 1 (by omega), fun z3' => ?_⟩
        have o1 := of_decide_eq_false (z3 1 (by omega))
        have oo : ¬ (x 1 < 0 ∨ 7 < x 1) := by
          match κ, z3', o1 with
          | 0, _, o1 => exact o1
          | 1, _, o1 => exact o1
          | 2, _, o1 => exact o1
        omega) r0 (fun z => by
        have h2 := hn2 z
        have q1 := hN 1 (by omega)
        rw [← hx, ← hp] at q1
        rw [hU3.2]; exact q1.1)
      exact ⟨U4, a1, ⟨a2, a3⟩, a4, a5⟩)
    rw [chk_i hfl] at e2 e5
    refine ⟨U4, e1, e2, e3, e4, fun M' hM' => ?_⟩
    obtain ⟨d', w1, w2, w4⟩ := hM'
    exact ⟨d', w1, w2, fun z => by rw [w4 z]; exact e5 z⟩
theorem J_lessonLine {ν : zM} {sh : Nat → Nat} {U : zCS} {M : zMS} {r n i L : Nat} {t : Nat → Nat} {f : Nat × Nat} (h4 : isX4 sh r) (hst : stOk ν sh) (hL : 14 ≤ L) (hL2 : L < 16) (hS : LSx M t n i f true) (hk : Kk t n i ≠ 0) (hC : CF U r f) (hf1 : f.1 ≠ 1) (hD : DR 2 U M r f) : LJ ν sh 2 L U M r t n i f := by
  obtain ⟨l, hv, b1, hd⟩ := hD
  obtain ⟨x, hx⟩ : ∃ x : Nat → Nat, ∀ j, x j = Vk t n (pS t n (Ek t n i) j) := ⟨_, fun _ => rfl⟩
  obtain ⟨p, hp⟩ : ∃ p : Nat → Nat, ∀ j, p j = Sk t n (pS t n (Ek t n i) j) := ⟨_, fun _ => rfl⟩
  by_cases c14 : L = 14
  · subst c14
    refine ⟨chk 14 f (decide ((l 1 : Nat) = 10)) (Sk t n i) x p 2, PLs 14 x l (chk 14 f (decide ((l 1 : Nat) = 10)) (Sk t n i) x p 2), ?_, chk_n1 hf1 _, fun hkk U2 hU2 hN => ?_⟩
    · unfold gX12_lineOf
      rw [if_neg (show ¬ J 2 = 0 by decide), if_neg (show ¬ J 2 = 1 by decide), if_pos (show J 2 = 2 from rfl)]
      exact LRes_z (R_gave hS hk hv b1 hx hp)
    · have hV2 : f.1 = 0 → isLe U2 (r + 16) l := fun z => isLe_F (Utk_F hU2) (fun j hj z => by omega) (hd z).1
      have hfl : f.1 = 0 → fullC U2 r 14 = decide ((l 1 : Nat) = 10) := fun z => by
        unfold fullC
        rw [if_neg (by omega), if_pos (by omega), decide_eq_true (show 14 = 14 from rfl), Bool.true_and]
        exact fl_lt (m := 10) (hV2 z).2.1 b1 (by omega)
      have hxl : ∀ j, j < nu 14 → x j < 100 := fun j hj => by rw [hx]; exact Vk_lt (hkk j hj)
      have hnu : nu 14 = 2 := rfl
      obtain ⟨U4, e1, e2, e3, e4, e5⟩ := F_tail (s0 := Sk t n i) (Q := fun U4 => isLe U4 (r + 16) (upL 14 x l) ∧ LOK (upL 14 x l)) h4 hst (by omega) hN hkk hx hp (CF_k hU2 hC) hS.2.2.2.1 (by
        intro hz U3 hU3
        obtain ⟨z1, z2, z3⟩ := chk_in (nu 14) hz
        have hw := isLe_F (Umk_F hU3) (fun j hj z => by omega) (hV2 z1)
        rw [hfl z1] at z2
        have z2 := of_decide_eq_false z2
        have q0 := hN 0 (by omega)
        have q1 := hN 1 (by omega)
        rw [← hx, ← hp] at q0 q1
        have o0 : ¬ (x 0 < 0 ∨ 7 < x 0) := of_decide_eq_false (z3 0 (by omega))
        have o1 : ¬ (x 1 < 0 ∨ 7 < x 1) := of_decide_eq_false (z3 1 (by omega))
        obtain ⟨U4, a1, a2, a3, a4, a5⟩ := C_gave (x := x) hw (hd z1).2 (by omega) (by omega) (by omega) (by rw [hU3.2]; exact q0.1) (by rw [hU3.2]; exact q1.1)
        exact ⟨U4, a1, ⟨a2, a3⟩, a4, a5⟩)
      rw [chk_i hfl] at e2 e5
      refine ⟨U4, e1, e2, e3, e4, fun M' hM' => ?_⟩
      obtain ⟨d', w1, w2, w4⟩ := hM'
      exact ⟨d', w1, w2, fun z => by rw [w4 z]; exact e5 z⟩
  · have c15 : L = 15 := by omega
    subst c15
    refine ⟨chk 15 f false (Sk t n i) x p 1, PLs 15 x l (chk 15 f false (Sk t n i) x p 1), ?_, chk_n1 hf1 _, fun hkk U2 hU2 hN => ?_⟩
    · unfold gX12_lineOf
      rw [if_neg (show ¬ J 2 = 0 by decide), if_neg (show ¬ J 2 = 1 by decide), if_pos (show J 2 = 2 from rfl)]
      exact LRes_z (R_lies hS hk hv b1 hx hp)
    · have hV2 : f.1 = 0 → isLe U2 (r + 16) l := fun z => isLe_F (Utk_F hU2) (fun j hj z => by omega) (hd z).1
      have hfl : f.1 = 0 → fullC U2 r 15 = false := fun z => by
        unfold fullC
        rw [if_neg (by omega), if_pos (by omega), decide_eq_false (show ¬ 15 = 14 by omega), Bool.false_and]
      have hnu : nu 15 = 1 := rfl
      obtain ⟨U4, e1, e2, e3, e4, e5⟩ := F_tail (s0 := Sk t n i) (Q := fun U4 => isLe U4 (r + 16) (upL 15 x l) ∧ LOK (upL 15 x l)) h4 hst (by omega) hN hkk hx hp (CF_k hU2 hC) hS.2.2.2.1 (by
        intro hz U3 hU3
        obtain ⟨z1, z2, z3⟩ := chk_in (nu 15) hz
        have hw := isLe_F (Umk_F hU3) (fun j hj z => by omega) (hV2 z1)
        have q0 := hN 0 (by omega)
        rw [← hx, ← hp] at q0
        have o0 : ¬ (x 0 < 0 ∨ 9 < x 0) := of_decide_eq_false (z3 0 (by omega))
        obtain ⟨U4, a1, a2, a3, a4, a5⟩ := C_lies (x := x) hw (hd z1).2 (by omega) (by rw [hU3.2]; exact q0.1)
        exact ⟨U4, a1, ⟨a2, a3⟩, a4, a5⟩)
      rw [chk_i hfl] at e2 e5
      refine ⟨U4, e1, e2, e3, e4, fun M' hM' => ?_⟩
      obtain ⟨d', w1, w2, w4⟩ := hM'
      exact ⟨d', w1, w2, fun z => by rw [w4 z]; exact e5 z⟩
theorem J_sightLine {ν : zM} {sh : Nat → Nat} {U : zCS} {M : zMS} {r n i κ : Nat} {t : Nat → Nat} {f : Nat × Nat} (h4 : isX4 sh r) (hst : stOk ν sh) (hκ : κ < 2) (hS : LSx M t n i f true) (hk : Kk t n i ≠ 0) (hC : CF U r f) (hf1 : f.1 ≠ 1) (hD : DR 3 U M r f) : LJ ν sh 3 (16 + κ) U M r t n i f := by
  obtain ⟨s, hv, b1, hd⟩ := hD
  obtain ⟨x, hx⟩ : ∃ x : Nat → Nat, ∀ j, x j = Vk t n (pS t n (Ek t n i) j) := ⟨_, fun _ => rfl⟩
  obtain ⟨p, hp⟩ : ∃ p : Nat → Nat, ∀ j, p j = Sk t n (pS t n (Ek t n i) j) := ⟨_, fun _ => rfl⟩
  have hnu : nu (16 + κ) = 3 := by
    match κ, hκ with
    | 0, _ => rfl
    | 1, _ => rfl
  refine ⟨chk (16 + κ) f (decide ((s 0 : Nat) = 8)) (Sk t n i) x p 3, PSi (16 + κ) x s (chk (16 + κ) f (decide ((s 0 : Nat) = 8)) (Sk t n i) x p 3), ?_, chk_n1 hf1 _, fun hkk U2 hU2 hN => ?_⟩
  · unfold gX12_lineOf
    rw [if_neg (show ¬ J 3 = 0 by decide), if_neg (show ¬ J 3 = 1 by decide), if_neg (show ¬ J 3 = 2 by decide), hnu]
    exact LRes_z (R_sightLine hS hk hv b1 hκ hx hp)
  · have hV2 : f.1 = 0 → isSi U2 (r + 19) s := fun z => isSi_F (Utk_F hU2) (fun j hj z => by omega) (hd z).1
    have hfl : f.1 = 0 → fullC U2 r (16 + κ) = decide ((s 0 : Nat) = 8) := fun z => by
      unfold fullC
      rw [if_pos (by omega)]
      exact fl_lt (m := 8) (hV2 z).1 b1 (by omega)
    have hxl : ∀ j, j < nu (16 + κ) → x j < 100 := fun j hj => by rw [hx]; exact Vk_lt (hkk j hj)
    obtain ⟨U4, e1, e2, e3, e4, e5⟩ := F_tail (s0 := Sk t n i) (Q := fun U4 => isSi U4 (r + 19) (upS (16 + κ) x s) ∧ SOK (upS (16 + κ) x s)) h4 hst (by omega) hN hkk hx hp (CF_k hU2 hC) hS.2.2.2.1 (by
      intro hz U3 hU3
      obtain ⟨z1, z2, z3⟩ := chk_in (nu (16 + κ)) hz
      have hw := isSi_F (Umk_F hU3) (fun j hj z => by omega) (hV2 z1)
      rw [hfl z1] at z2
      have z2 := of_decide_eq_false z2
      have q0 := hN 0 (by omega)
      have q1 := hN 1 (by omega)
      have q2 := hN 2 (by omega)
      rw [← hx, ← hp] at q0 q1 q2
      have o2 := of_decide_eq_false (z3 2 (by omega))
      have oo : ¬ (x 2 < 0 ∨ 7 < x 2) := by
        match κ, hκ, o2 with
        | 0, _, o2 => exact o2
        | 1, _, o2 => exact o2
      obtain ⟨U4, a1, a2, a3, a4, a5⟩ := C_fact (κ := κ) (x := x) hw (hd z1).2 hκ (by omega) (hxl 0 (by omega)) (hxl 1 (by omega)) (by omega) (by rw [hU3.2]; exact q0.1) (by rw [hU3.2]; exact q1.1) (by rw [hU3.2]; exact q2.1)
      exact ⟨U4, a1, ⟨a2, a3⟩, a4, a5⟩)
    rw [chk_i hfl, hnu] at e2 e5
    refine ⟨U4, e1, e2, e3, e4, fun M' hM' => ?_⟩
    obtain ⟨d', w1, w2, w4⟩ := hM'
    exact ⟨d', w1, w2, fun z => by rw [w4 z]; exact e5 z⟩
theorem J_anyLine {ν : zM} {sh : Nat → Nat} {U : zCS} {M : zMS} {r n i σ L : Nat} {t : Nat → Nat} {f : Nat × Nat} (h4 : isX4 sh r) (hst : stOk ν sh) (hσ : σ < 4) (hL : fS σ ≤ L) (hL2 : L < fS (σ + 1)) (hS : LSx M t n i f true) (hk : Kk t n i ≠ 0) (hC : CF U r f) (hf1 : f.1 ≠ 1) (hD : DR σ U M r f) : LJ ν sh σ L U M r t n i f := by
  match σ, hσ, hL, hL2, hD with
  | 0, _, _, hL2, hD => exact J_valleyLine h4 hst hL2 hS hk hC hf1 hD
  | 1, _, hL, hL2, hD =>
    have hL : 9 ≤ L := hL
    have hL2 : L < 14 := hL2
    obtain ⟨κ, rfl⟩ : ∃ κ, L = 9 + κ := ⟨L - 9, by omega⟩
    exact J_dayLine h4 hst (by omega) hS hk hC hf1 hD
  | 2, _, hL, hL2, hD => exact J_lessonLine h4 hst hL hL2 hS hk hC hf1 hD
  | 3, _, hL, hL2, hD =>
    have hL : 16 ≤ L := hL
    have hL2 : L < 18 := hL2
    obtain ⟨κ, rfl⟩ : ∃ κ, L = 16 + κ := ⟨L - 16, by omega⟩
    exact J_sightLine h4 hst (by omega) hS hk hC hf1 hD
theorem R_lineNone {M : zMS} {t : Nat → Nat} {n i σ : Nat} {w : Int64} {a : Int32} (hσ : σ < 4) (h : RLx M t n i) (hw : ∀ L, fS σ ≤ L → L < fS (σ + 1) → w ≠ Jl (cL L)) : gX12_lineOf M (J σ) w a = some (0, zsI M 16 (J (Sk t n i))) := by
  unfold gX12_lineOf
  match σ, hσ, hw with
  | 0, _, hw => rw [if_pos (show J 0 = 0 from rfl), R_valleyNone h (fun L hL => hw L (Nat.zero_le _) hL), wb2]; rfl
  | 1, _, hw => rw [if_neg (show ¬ J 1 = 0 by decide), if_pos (show J 1 = 1 from rfl), R_dayNone h (fun L h1 h2 => hw L h1 h2), wb2]; rfl
  | 2, _, hw => rw [if_neg (show ¬ J 2 = 0 by decide), if_neg (show ¬ J 2 = 1 by decide), if_pos (show J 2 = 2 from rfl), R_lessonNone h (fun L h1 h2 => hw L h1 h2), wb2]; rfl
  | 3, _, hw => rw [if_neg (show ¬ J 3 = 0 by decide), if_neg (show ¬ J 3 = 1 by decide), if_neg (show ¬ J 3 = 2 by decide), R_sightNone h (fun L h1 h2 => hw L h1 h2), wb2]; rfl
theorem DR_M {σ : Nat} {U : zCS} {M M' : zMS} {r : Nat} {f : Nat × Nat} (h19 : M'.2.2 19 = M.2.2 19) (h21 : M'.1 21 = M.1 21) (h : DR σ U M r f) : DR σ U M' r f := by
  match σ, h with
  | 0, ⟨v, a1, a2, a3, a4⟩ => exact ⟨v, RV_M h19 a1, a2, a3, fun z => ⟨(a4 z).1, (a4 z).2.1, by rw [h21]; exact (a4 z).2.2⟩⟩
  | 1, ⟨d, a1, a2, a3⟩ => exact ⟨d, RDy_M h19 a1, a2, a3⟩
  | 2, ⟨l, a1, a2, a3⟩ => exact ⟨l, RLs_M h19 a1, a2, a3⟩
  | _ + 3, ⟨s, a1, a2, a3⟩ => exact ⟨s, fun k hk => by rw [h19]; exact a1 k hk, a2, a3⟩
theorem Msame_n {M M' : zMS} (h : Mln M M') : Msame M M' := fun k hk => h.2 k (by omega) (by omega)
theorem Msame_k {M M' : zMS} (h : Mtk M M') : Msame M M' := fun k _ => by rw [h.2]
theorem kmp_2 : ∀ k, k ≤ 4 → (kmp k = 2 ↔ k = 1) := by decide
/-- texts under way, both sides -/
def JT (σ : Nat) (U : zCS) (M : zMS) (r : Nat) (t : Nat → Nat) (n i : Nat) (f : Nat × Nat) : Prop := CL U r t n i ∧ RLx M t n i ∧ RF M f ∧ CF U r f ∧ f.1 < 4 ∧ f.1 ≠ 1 ∧ (f.1 ≠ 0 → f.2 < Sk t n i) ∧ DR σ U M r f
theorem J_line {ν : zM} {sh : Nat → Nat} {U : zCS} {M : zMS} {r n i σ : Nat} {t : Nat → Nat} {f : Nat × Nat} (h4 : isX4 sh r) (hst : stOk ν sh) (hx : txOk ν sh) (hσ : σ < 4) (hJ : JT σ U M r t n i f) (hk : Kk t n i ≠ 0) :
    ∃ U', fX4_readLine (cmem ν sh U) r (J σ) = some (cmem ν sh U') ∧ Ufr U U' (rdr r) ∧ ((∃ p M', (∀ F, gX12_lines_l2 (J σ) F 1 M = F 0 M') ∧ Msame M M' ∧ U'.1 r 4 = J 1 ∧ U'.1 r 5 = J p ∧ M'.1 16 = J p) ∨ (∃ M' f' i', (∀ F, gX12_lines_l2 (J σ) F 1 M = F 1 M') ∧ Msame M M' ∧ JT σ U' M' r t n i' f' ∧ Ek t n i ≤ i' ∧ U'.1 r 7 = U.1 r 7)) := by
  obtain ⟨hC, hR, hRF, hCF, hf4, hf1, hord, hD⟩ := hJ
  have h53 := h4.2.2.2.2.2.2.2.2
  have hKle := @Kk_le t n i
  have hE := Ek_p (t := t) hR.2.1
  have hn := hR.1
  obtain ⟨M12, hM12⟩ : ∃ m, m = zsI M 22 1 := ⟨_, rfl⟩
  have hR12 : RLx M12 t n i := by rw [hM12]; exact RL_lt (M := M) (M' := zsI M 22 1) (fun k hk => zsI_o (by omega)) rfl rfl hR
  have hS12 : LSx M12 t n i f true := ⟨hR12, ⟨by rw [hM12, zsI_o (by omega)]; exact hRF.1, fun z => by rw [hM12, zsI_o (by omega)]; exact hRF.2 z⟩, hord, hf4, by rw [hM12]; exact zsI_1⟩
  have hD12 : DR σ U M12 r f := DR_M (by rw [hM12]; rfl) (by rw [hM12, zsI_o (by omega)]) hD
  have hms : Msame M M12 := by rw [hM12]; exact Msame_I
  have hk13 : ¬ M.1 13 = 0 := by
    rw [hR.2.2.2.2.1, show (0 : Int32) = J 0 from rfl, J_eq (by unfold kmp; split <;> omega) (by omega)]
    unfold kmp; split <;> omega
  have hk2 : (M12.1 13 = 2) ↔ Kk t n i = 1 := by
    rw [hR12.2.2.2.2.1, show (2 : Int32) = J 2 from rfl, J_eq (by unfold kmp; split <;> omega) (by omega)]
    exact kmp_2 _ hKle
  have hlw := F_lineWord h4 hst hx hσ hKle hC.2.2.2.1 hC.2.2.2.2.1 hC.2.2.2.2.2.1 hE.1 (by omega) hC.2.2.2.2.2.2
  have hLine : ∀ F, gX12_lines_l2 (J σ) F 1 M = zb2 (gX12_lineOf M12 (J σ) (if Kk t n i = 1 then wrd t (Sk t n i) (Ek t n i) else 0) (J (Sk t n i))) fun v20 M19 =>
      zc2 (if v20 = 0 then some (v20, M19) else if (M19.1 13) = 4 then some (v20, M19) else zb2 (gX12_fails M19) fun v32 M31 => some (v32, M31)) fun x2_21 m22 =>
      zc1 (if x2_21 = 0 then some m22 else zb1 (gX12_token m22) fun M27 => some M27) fun m24 => F x2_21 m24 := by
    intro F
    unfold gX12_lines_l2
    rw [if_neg (show ¬ (1 : Int32) = 0 by decide), if_neg hk13, wb1, ← hM12, hR.2.2.2.1]
    by_cases c : Kk t n i = 1
    · rw [if_pos (hk2.mpr c), if_pos c, wb1, hR12.2.2.2.2.2.2.1 c]
    · rw [if_neg (fun z => c (hk2.mp z)), if_neg c, wb1]
  by_cases hfound : ∃ L, Kk t n i = 1 ∧ lwd t (Sk t n i) (Ek t n i) σ = some L
  · obtain ⟨L, c1, hLw⟩ := hfound
    have hww := fun j h1 h2 => (Kk_w c1 j h1 h2).2
    obtain ⟨l1, l2, l3⟩ := lwd_s hσ hww hLw
    have hfl := fS_le σ hσ
    obtain ⟨f', P, hRes, hf1', hT⟩ := J_anyLine (ν := ν) (sh := sh) h4 hst hσ l1 l2 hS12 hk hCF hf1 hD12
    obtain ⟨U1, a1, a2, a3, a4⟩ := CL_adv hC
    obtain ⟨M19, r1, r2, r3, r4⟩ := hRes
    have hJm : ∀ F, gX12_lines_l2 (J σ) F 1 M = _ := fun F => by rw [hLine F, if_pos c1, l3, r1, wb2]
    have hread : fX4_readLine (cmem ν sh U) r (J σ) = zf2 (fX4_readLine_l28 (J L) r (J (Sk t n i))) zfu 0 (cmem ν sh U1) := by
      unfold fX4_readLine
      rw [ck_X4 h4, zgd_t, cgr_X4_9 h4, wb1, hC.2.2.2.2.1, hlw, if_pos c1, hLw, wb1, oJ_s, if_neg (show ¬ J L = -1 by rw [show (-1 : Int32) = NN from rfl, J_eN (by omega)]; exact fun z => z), eX4_advance h4, a1, zmap_some, wb1]
    obtain ⟨U', e1, e2⟩ := F_nums (L := L) (v1 := J (Sk t n i)) (Q := fun U4 => CF U4 r f' ∧ Ufr U U4 (rdr r) ∧ CL U4 r t n (Ek t n (pS t n (Ek t n i) (nu L))) ∧ (∀ M', P M' → DR σ U4 M' r f') ∧ U4.1 r 7 = U.1 r 7) h4 hst (by omega) a2 (by
      intro hb U2 u1 u2 u3
      have hbn : brkN t n (nu L) (Ek t n i) = none := by
        unfold brkQ at hb
        cases hq : brkN t n (nu L) (Ek t n i) with
        | none => rfl
        | some p => rw [hq] at hb; cases hb
      obtain ⟨U4, t1, t2, t3, t4, t5⟩ := hT (brkN_k _ _ hbn) U2 (Utk_t a3 u1) u3
      have hfr : Ufr U U4 (rdr r) := Ufr_t (Ufr_m (Utk_F (Utk_t a3 u1)) (fun q hq => ⟨by omega, by omega⟩)) t3
      refine ⟨U4, t1, t2, hfr, ⟨u2.1, u2.2.1, by rw [t4 7 (by omega) (by omega)]; exact u2.2.2.1, by rw [t4 8 (by omega) (by omega)]; exact u2.2.2.2.1, by rw [t4 9 (by omega) (by omega)]; exact u2.2.2.2.2.1, by rw [t4 10 (by omega) (by omega)]; exact u2.2.2.2.2.2.1, fun k hk => ?_⟩, t5, ?_⟩
      · rw [(t3.1 (r - 53) (fun z => by have := z.1; omega)).2]; exact u2.2.2.2.2.2.2 k hk
      · rw [t4 7 (by omega) (by omega), (Utk_t a3 u1).1 r 7 (fun z => by omega)])
    refine ⟨U', by rw [hread]; exact e1, ?_⟩
    rcases e2 with ⟨p, hb, Ux, x1, x2⟩ | ⟨hb, g1, g2, g3, g4, g5⟩
    · refine ⟨Ufr_t (Ufr_m (Utk_F (Utk_t a3 x1)) (fun q hq => ⟨by omega, by omega⟩)) (by rw [x2]; exact Ufr_t (Ufr_I ⟨by omega, by omega⟩) (Ufr_I ⟨by omega, by omega⟩)), .inl ?_⟩
      have y4 : U'.1 r 4 = J 1 := by rw [x2, csI_o2 (.inr (by omega)), csI_1]
      have y5 : U'.1 r 5 = J p := by rw [x2, csI_1]
      cases hq : brkN t n (nu L) (Ek t n i) with
      | some p' =>
        have hpp : p' = p := by
          unfold brkQ at hb
          rw [hq] at hb
          exact Option.some.inj hb
        subst hpp
        refine ⟨p', M19, fun F => ?_, Msame_t hms (Msame_n r2), y4, y5, r3 p' hq⟩
        rw [hJm F, hq, show bJ (some p' : Option Nat).isNone = 0 from rfl, if_pos rfl, wc2, if_pos rfl, wc1]
      | none =>
        have hKj := @Kk_le t n (pS t n (Ek t n i) (nu L))
        have hpp : Kk t n (pS t n (Ek t n i) (nu L)) ≠ 3 ∧ Sk t n (pS t n (Ek t n i) (nu L)) = p := by
          unfold brkQ at hb
          rw [hq] at hb
          by_cases c3 : Kk t n (pS t n (Ek t n i) (nu L)) = 3
          · have hb : (if Kk t n (pS t n (Ek t n i) (nu L)) = 3 then none else some (Sk t n (pS t n (Ek t n i) (nu L)))) = some p := hb
            rw [if_pos c3] at hb; cases hb
          · have hb : (if Kk t n (pS t n (Ek t n i) (nu L)) = 3 then none else some (Sk t n (pS t n (Ek t n i) (nu L)))) = some p := hb
            rw [if_neg c3] at hb
            exact ⟨c3, Option.some.inj hb⟩
        obtain ⟨⟨gg, hls⟩, -⟩ := r4 hq
        have h13 : ¬ M19.1 13 = 4 := by
          rw [hls.1.2.2.2.2.1, show (4 : Int32) = J 4 from rfl, J_eq (by unfold kmp; split <;> omega) (by omega)]
          unfold kmp; split <;> omega
        refine ⟨p, zsI M19 16 (J p), fun F => ?_, Msame_t hms (Msame_t (Msame_n r2) Msame_I), y4, y5, zsI_1⟩
        rw [hJm F, hq, show bJ (none : Option Nat).isNone = 1 from rfl, if_neg (show ¬ (1 : Int32) = 0 by decide), if_neg h13]
        unfold gX12_fails
        rw [wb1, wb2, wc2, if_pos rfl, wc1, hls.1.2.2.2.1, hpp.2]
    · refine ⟨g2, .inr ?_⟩
      have hq : brkN t n (nu L) (Ek t n i) = none := by
        unfold brkQ at hb
        cases hq : brkN t n (nu L) (Ek t n i) with
        | none => rfl
        | some p => rw [hq] at hb; cases hb
      have c3 : Kk t n (pS t n (Ek t n i) (nu L)) = 3 := by
        unfold brkQ at hb
        rw [hq] at hb
        by_cases c3 : Kk t n (pS t n (Ek t n i) (nu L)) = 3
        · exact c3
        · have hb : (if Kk t n (pS t n (Ek t n i) (nu L)) = 3 then none else some (Sk t n (pS t n (Ek t n i) (nu L)))) = none := hb
          rw [if_neg c3] at hb; cases hb
      obtain ⟨⟨gg, hls⟩, hP⟩ := r4 hq
      obtain ⟨M27, t1, t2, t3⟩ := LS_tok (LS_w hls) (by omega)
      have h13 : M19.1 13 = 4 := by rw [hls.1.2.2.2.2.1, c3]; rfl
      have hpl := pS_le (t := t) hE.2.1 (nu L)
      refine ⟨M27, f', Ek t n (pS t n (Ek t n i) (nu L)), fun F => ?_, Msame_t hms (Msame_t (Msame_n r2) (Msame_k t3)), ⟨g3, t2.1, t2.2.1, g1, t2.2.2.2.1, hf1', t2.2.2.1, DR_M (by rw [t3.2]) (t3.1 21 (by omega) (by omega) (by omega) (by omega)) (g4 M19 hP)⟩, ?_, g5⟩
      · rw [hJm F, hq, show bJ (none : Option Nat).isNone = 1 from rfl, if_neg (show ¬ (1 : Int32) = 0 by decide), if_pos h13, wc2, if_neg (show ¬ (1 : Int32) = 0 by decide), t1, wb1, wc1]
      · have mono : ∀ j, Ek t n i ≤ pS t n (Ek t n i) j := by
          intro j
          induction j with
          | zero => exact Nat.le_refl _
          | succ j ih =>
            have h1 := pS_le (t := t) hE.2.1 j
            have h2 := Sk_p (t := t) h1
            have h3 := Ek_p (t := t) h1
            show Ek t n i ≤ Ek t n (pS t n (Ek t n i) j)
            omega
        exact mono (nu L + 1)
  · have hno : ∀ L, fS σ ≤ L → L < fS (σ + 1) → (if Kk t n i = 1 then wrd t (Sk t n i) (Ek t n i) else 0) ≠ Jl (cL L) := by
      intro L h1 h2
      have hfl := fS_le σ hσ
      by_cases c : Kk t n i = 1
      · rw [if_pos c]
        have hww := fun j h1 h2 => (Kk_w c j h1 h2).2
        refine lwd_n hσ hww ?_ L h1 h2
        cases hq : lwd t (Sk t n i) (Ek t n i) σ with
        | none => rfl
        | some L' => exact absurd ⟨L', c, hq⟩ hfound
      · rw [if_neg c]
        intro z
        have := Jl_inj (a := 0) (by decide) (cL_ok L (by omega)).2 z
        have := (cL_ok L (by omega)).1
        omega
    have hlw2 : fX4_lineWord (cmem ν sh U) r (J σ) = some NN := by
      rw [hlw]
      by_cases c : Kk t n i = 1
      · rw [if_pos c]
        cases hq : lwd t (Sk t n i) (Ek t n i) σ with
        | none => rfl
        | some L' => exact absurd ⟨L', c, hq⟩ hfound
      · rw [if_neg c]
    refine ⟨csI (csI U r 4 (J 1)) r 5 (J (Sk t n i)), ?_, Ufr_t (Ufr_I ⟨by omega, by omega⟩) (Ufr_I ⟨by omega, by omega⟩), .inl ⟨Sk t n i, zsI M12 16 (J (Sk t n i)), fun F => ?_, Msame_t hms Msame_I, by rw [csI_o2 (.inr (by omega)), csI_1], csI_1, zsI_1⟩⟩
    · unfold fX4_readLine
      rw [ck_X4 h4, zgd_t, cgr_X4_9 h4, wb1, hlw2, wb1, if_pos (show NN = -1 from rfl), F_breakOff h4 hC.2.2.2.2.1, wb1]
    · rw [hLine F, R_lineNone hσ hR12 hno, wb2, if_pos rfl, wc2, if_pos rfl, wc1]
