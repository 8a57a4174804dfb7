/-! texts: the reference's lines, whole -/
theorem LRes_z {M : zMS} {R : Option (Int32 × zMS)} {t : Nat → Nat} {n d i : Nat} {f : Nat × Nat} {P : zMS → Prop} (h : LRes M R t n d i f P) : LRes M (zb2 R fun v37 M36 => zb1 (zbz v37) fun v38 => some (v38, M36)) t n d i f P := by
  obtain ⟨M', h1, h2⟩ := h
  exact ⟨M', by rw [h1, wb2, zbz_b, wb1], h2⟩
theorem LRes_m {M : zMS} {R : Option (Int32 × zMS)} {t : Nat → Nat} {n d i : Nat} {f f' : Nat × Nat} {P P' : zMS → Prop} (h : LRes M R t n d i f P) (hf : f = f') (hp : ∀ m, P m → P' m) : LRes M R t n d i f' P' := by
  subst hf
  obtain ⟨M', h1, h2, h3, h4⟩ := h
  exact ⟨M', h1, h2, h3, fun z => ⟨(h4 z).1, hp _ (h4 z).2⟩⟩
def flV (L : Nat) (v : zV) : Bool := if 4 ≤ L ∧ L < 7 then decide ((v 1 : Nat) = 6) else if 7 ≤ L then decide ((v 2 : Nat) = 4) else false
def farY (L : Nat) (y : Int32) (x : Nat → Nat) : Int32 := if 4 ≤ L ∧ L < 7 then mxI y (J (x 0)) else y
theorem kb_ok : ∀ L, L < 9 → gX12_kindBy (Jl (cL L)) = some (if 4 ≤ L ∧ L < 7 then J (L - 4) else NN) := by decide +kernel
theorem sk_ok : ∀ L, L < 9 → (if (lg_cmp (Jl (cL L)) 6713191) = 0 then gX12_valleyLine_b22 else if (lg_cmp (Jl (cL L)) 1936617335) = 0 then gX12_valleyLine_b22 else some 0) = some (if 7 ≤ L then J 1 else J 0) := by decide +kernel
theorem RV_M {M M' : zMS} {v : zV} (h : M'.2.2 19 = M.2.2 19) (hv : RV M v) : RV M' v := fun k hk => by rw [h]; exact hv k hk
theorem R_valleyLine {M : zMS} {t : Nat → Nat} {n i L : Nat} {f : Nat × Nat} {v : zV} {x p : Nat → Nat} (h : LSx M t n i f true) (hk : Kk t n i ≠ 0) (hv : RV M v) (b1 : (v 1 : Nat) ≤ 6) (b2 : (v 2 : Nat) ≤ 4) (hL : L < 9) (hx : ∀ j, x j = Vk t n (pS t n (Ek t n i) j)) (hp : ∀ j, p j = Sk t n (pS t n (Ek t n i) j)) :
    LRes M (gX12_valleyLine M (Jl (cL L)) (J (Sk t n i))) t n (nu L) (Ek t n i) (chk L f (flV L v) (Sk t n i) x p (nu L)) (PV L x v (chk L f (flV L v) (Sk t n i) x p (nu L)) (farY L (M.1 21) x)) := by
  have hx0 : x 0 = Vk t n (Ek t n i) := hx 0
  have hx1 : x 1 = Vk t n (Ek t n (Ek t n i)) := hx 1
  have hp0 : p 0 = Sk t n (Ek t n i) := hp 0
  have hp1 : p 1 = Sk t n (Ek t n (Ek t n i)) := hp 1
  unfold gX12_valleyLine
  rw [kb_ok L hL, wb1, sk_ok L hL, wb1]
  by_cases cP : 4 ≤ L ∧ L < 7
  · obtain ⟨κ, rfl⟩ : ∃ κ, L = 4 + κ := ⟨L - 4, by omega⟩
    have hκ : κ < 3 := by omega
    rw [if_pos cP, if_neg (show ¬ 7 ≤ 4 + κ by omega), Nat.add_sub_cancel_left, if_neg (show ¬ J κ = -1 by rw [show (-1 : Int32) = NN from rfl, J_eN (by omega)]; exact fun z => z)]
    unfold gX12_valleyLine_b77
    rw [if_neg (show ¬ J κ = -1 by rw [show (-1 : Int32) = NN from rfl, J_eN (by omega)]; exact fun z => z)]
    obtain ⟨m6, e1, e2, e3⟩ := R_full (q := 1) (most := 6) h (by omega) (hv 1 (by omega)) (by omega) (by omega)
    rw [show gX12_full M 1 6 (J (Sk t n i)) = some m6 from e1, wb1, wc1, if_pos (show J 0 = 0 from rfl), wc1]
    obtain ⟨M11, d1, d2, d3⟩ := LS_tok e2 hk
    rw [d1, wb1, if_neg (show ¬ J κ = -1 by rw [show (-1 : Int32) = NN from rfl, J_eN (by omega)]; exact fun z => z)]
    have hfl : flV (4 + κ) v = decide ((v 1 : Nat) = 6) := if_pos cP
    have h19 : M11.2.2 19 = M.2.2 19 := by rw [d3.2, e3.2]
    have h21 : M11.1 21 = M.1 21 := by rw [d3.1 21 (by omega) (by omega) (by omega) (by omega), e3.1 21 (by omega) (by omega)]
    have hR := R_person (M0 := M) (κ := κ) (x := x) d2 (Mln_t (Mln_T (Mtt_l e3)) (Mln_T (Mtt_k d3))) (RV_M h19 hv) b1 b2 hκ (fun z => by
      have := of_decide_eq_false (mk1_0 (by omega) z).2
      omega) hx0 hx1
    have hf : mk1 (mk1 (mk1 f (decide ((v 1 : Nat) = 6)) 3 (Sk t n i)) (ob 0 30 (x 0)) 2 (Sk t n (Ek t n i))) (ob 0 99 (x 1)) 2 (Sk t n (Ek t n (Ek t n i))) = chk (4 + κ) f (flV (4 + κ) v) (Sk t n i) x p 2 := by
      rw [hfl, ← hp0, ← hp1]
      match κ, hκ with
      | 0, _ => rfl
      | 1, _ => rfl
      | 2, _ => rfl
    have hnu : nu (4 + κ) = 2 := by
      match κ, hκ with
      | 0, _ => rfl
      | 1, _ => rfl
      | 2, _ => rfl
    rw [hnu]
    refine LRes_m (LRes_z hR) hf (fun m hm => ?_)
    rw [hf, h21] at hm
    rw [show farY (4 + κ) (M.1 21) x = mxI (M.1 21) (J (x 0)) from if_pos cP]
    exact hm
  · rw [if_neg cP, if_pos (show NN = -1 from rfl)]
    have hfy : farY L (M.1 21) x = M.1 21 := if_neg cP
    rw [hfy]
    by_cases cS : 7 ≤ L
    · obtain ⟨κ, rfl⟩ : ∃ κ, L = 7 + κ := ⟨L - 7, by omega⟩
      have hκ : κ < 2 := by omega
      rw [if_pos cS, if_neg (show ¬ J 1 = 0 by decide)]
      unfold gX12_valleyLine_b77
      obtain ⟨m6, e1, e2, e3⟩ := R_full (q := 2) (most := 4) h (by omega) (hv 2 (by omega)) (by omega) (by omega)
      rw [if_pos (show NN = -1 from rfl), wc1, if_neg (show ¬ J 1 = 0 by decide), show gX12_full M 2 4 (J (Sk t n i)) = some m6 from e1, wb1, wc1]
      obtain ⟨M11, d1, d2, d3⟩ := LS_tok e2 hk
      have hsn : (if lg_cmp (Jl (cL (7 + κ))) 1936617335 = 0 then some 1 else some 0 : Option Int32) = some (J κ) := by
        rw [kw_8]
        have := lgc (L := 7 + κ) (K := 8) (by omega) (by omega)
        by_cases c8 : 7 + κ = 8
        · rw [if_pos (this.mpr c8), show κ = 1 by omega]; rfl
        · rw [if_neg (fun z => c8 (this.mp z)), show κ = 0 by omega]; rfl
      rw [d1, wb1, if_pos (show NN = -1 from rfl), if_neg (show ¬ J 1 = 0 by decide), hsn, wb1]
      have hfl : flV (7 + κ) v = decide ((v 2 : Nat) = 4) := by unfold flV; rw [if_neg cP, if_pos cS]
      have h19 : M11.2.2 19 = M.2.2 19 := by rw [d3.2, e3.2]
      have h21 : M11.1 21 = M.1 21 := by rw [d3.1 21 (by omega) (by omega) (by omega) (by omega), e3.1 21 (by omega) (by omega)]
      have hR := R_sky (M0 := M) (κ := κ) (x := x) d2 (Mln_t (Mln_T (Mtt_l e3)) (Mln_T (Mtt_k d3))) (RV_M h19 hv) b1 b2 hκ (fun z => by
        have := of_decide_eq_false (mk1_0 (by omega) z).2
        omega) hx0 hx1
      have hf : mk1 (mk1 (mk1 f (decide ((v 2 : Nat) = 4)) 3 (Sk t n i)) (ob 0 99 (x 0)) 2 (Sk t n (Ek t n i))) (ob (x 0) 99 (x 1)) 2 (Sk t n (Ek t n (Ek t n i))) = chk (7 + κ) f (flV (7 + κ) v) (Sk t n i) x p 2 := by
        rw [hfl, ← hp0, ← hp1]
        match κ, hκ with
        | 0, _ => rfl
        | 1, _ => rfl
      have hnu : nu (7 + κ) = 2 := by
        match κ, hκ with
        | 0, _ => rfl
        | 1, _ => rfl
      rw [hnu]
      refine LRes_m (LRes_z hR) hf (fun m hm => ?_)
      rw [hf, h21] at hm
      exact hm
    · rw [if_neg cS, if_pos (show J 0 = 0 from rfl)]
      have hfl : flV L v = false := by unfold flV; rw [if_neg cP, if_neg cS]
      have q0 : (lg_cmp (Jl (cL L)) 2003395685 = 0) ↔ L = 0 := by rw [kw_0]; exact lgc (by omega) (by omega)
      have q1 : (lg_cmp (Jl (cL L)) 126892383759460 = 0) ↔ L = 1 := by rw [kw_1]; exact lgc (by omega) (by omega)
      have q2 : (lg_cmp (Jl (cL L)) 32765925218805876 = 0) ↔ L = 2 := by rw [kw_2]; exact lgc (by omega) (by omega)
      have q3 : (lg_cmp (Jl (cL L)) 131277443786868 = 0) ↔ L = 3 := by rw [kw_3]; exact lgc (by omega) (by omega)
      have hch : ∀ A B : Option (Int32 × zMS), (if lg_cmp (Jl (cL L)) 2003395685 = 0 then A else if lg_cmp (Jl (cL L)) 126892383759460 = 0 then A else if lg_cmp (Jl (cL L)) 32765925218805876 = 0 then A else if lg_cmp (Jl (cL L)) 131277443786868 = 0 then A else B) = A := by
        intro A B
        by_cases a0 : L = 0
        · rw [if_pos (q0.mpr a0)]
        · rw [if_neg (fun z => a0 (q0.mp z))]
          by_cases a1 : L = 1
          · rw [if_pos (q1.mpr a1)]
          · rw [if_neg (fun z => a1 (q1.mp z))]
            by_cases a2 : L = 2
            · rw [if_pos (q2.mpr a2)]
            · rw [if_neg (fun z => a2 (q2.mp z)), if_pos (q3.mpr (by omega))]
      rw [hch]
      unfold gX12_valleyLine_b77
      obtain ⟨M11, d1, d2, d3⟩ := LS_tok (LS_w h) hk
      rw [if_pos (show NN = -1 from rfl), wc1, if_pos (show J 0 = 0 from rfl), wc1, d1, wb1, if_pos (show NN = -1 from rfl), if_pos (show J 0 = 0 from rfl)]
      have h19 : M11.2.2 19 = M.2.2 19 := by rw [d3.2]
      have h21 : M11.1 21 = M.1 21 := by rw [d3.1 21 (by omega) (by omega) (by omega) (by omega)]
      by_cases a0 : L = 0
      · subst a0
        rw [if_pos (q0.mpr rfl), show nu 0 = 1 from rfl]
        have hf : mk1 f (ob 2 30 (x 0)) 2 (Sk t n (Ek t n i)) = chk 0 f (flV 0 v) (Sk t n i) x p 1 := by
          rw [hfl, ← hp0]
          show _ = mk1 (mk1 f false 3 (Sk t n i)) (outB 0 x 0) 2 (p 0)
          rw [mk1_f]
          rfl
        by_cases c1 : Kk t n (Ek t n i) = 2
        · refine LRes_s c1 ?_
          have hV0 := Vk_lt c1
          obtain ⟨M2, e1, e2, e3, e4⟩ := R_tkT (k := 0) (lo := 2) (hi := 30) d2 c1 (by omega) (by omega) (by omega)
          rw [show gX12_take M11 0 2 30 = some (J 1, M2) from e1, wb2, if_neg (show ¬ J 1 = 0 by decide)]
          rw [← hx0] at e2 e4 hV0
          have hv2 : RV M2 v := RV_M (by rw [e3.2 19 (by omega), h19]) hv
          obtain ⟨s1, hs1⟩ := R_set (k := 0) (x := x 0) hv2 (by omega) hV0
          rw [show zag 4 (M2.2.2 20) 0 = some (J (x 0)) by rw [show (0 : Int32) = J 0 from rfl, zag_J (by omega) (by omega), e4, upd_1], wb1, show zas 121 (M2.2.2 19) 0 (J (x 0)) = some (upd (M2.2.2 19) 0 (J (x 0))) from s1, wb1, wb1]
          refine LRes_e (g := (true && !ob 2 30 (x 0))) (Mln_t (Mln_T (Mtt_k d3)) (Mln_t (Mln_T e3) (Mln_A (by omega)))) (LS_A (by omega) (by rw [← hf]; exact e2)) ⟨_, hs1, ?_, ?_, fun _ => ⟨rfl, ?_⟩⟩
          · rw [vset_o (by omega)]; exact b1
          · rw [vset_o (by omega)]; exact b2
          · rw [zsA_i, e3.1 21 (by omega) (by omega) (by omega) (by omega) (by omega) (by omega) (by omega) (by omega)]; exact h21
        · rw [R_tkF d2.1 c1, wb2, if_pos rfl]
          exact LRes_f c1 (Mln_T (Mtt_k d3))
      · rw [if_neg (fun z => a0 (q0.mp z))]
        have hR := R_word (M0 := M) (L := L) (x := x) d2 (Mln_T (Mtt_k d3)) (RV_M h19 hv) b1 b2 (by omega) (by omega) hx0 hx1
        have hL4 : L < 4 := by omega
        have hf : mk1 (mk1 f (ob 0 7 (x 0)) 2 (Sk t n (Ek t n i))) (ob 0 (hiW L) (x 1)) 2 (Sk t n (Ek t n (Ek t n i))) = chk L f (flV L v) (Sk t n i) x p 2 := by
          rw [hfl, ← hp0, ← hp1]
          show _ = mk1 (mk1 (mk1 f false 3 (Sk t n i)) (outB L x 0) 2 (p 0)) (outB L x 1) 2 (p 1)
          rw [mk1_f]
          match L, hL4, a0 with
          | 1, _, _ => rfl
          | 2, _, _ => rfl
          | 3, _, _ => rfl
        have hnu : nu L = 2 := by
          match L, hL4, a0 with
          | 1, _, _ => rfl
          | 2, _, _ => rfl
          | 3, _, _ => rfl
        rw [hnu]
        refine LRes_m (LRes_z hR) hf (fun m hm => ?_)
        rw [hf, h21] at hm
        exact hm
theorem R_valleyNone {M : zMS} {t : Nat → Nat} {n i : Nat} {w : Int64} {a : Int32} (h : RLx M t n i) (hw : ∀ L, L < 9 → w ≠ Jl (cL L)) : gX12_valleyLine M w a = some (0, zsI M 16 (J (Sk t n i))) := by
  have hq : ∀ L, L < 9 → ¬ lg_cmp w (Jl (cL L)) = 0 := fun L hL z => hw L hL (lg0.mp z)
  have hk : gX12_kindBy w = some (-1) := by
    unfold gX12_kindBy
    rw [kw_4, kw_5, kw_6, if_neg (hq 4 (by omega)), if_neg (hq 5 (by omega)), if_neg (hq 6 (by omega)), wb1]
  unfold gX12_valleyLine gX12_fails
  rw [hk, wb1, kw_7, kw_8, kw_0, kw_1, kw_2, kw_3, if_neg (hq 7 (by omega)), if_neg (hq 8 (by omega)), wb1, if_pos rfl, if_pos rfl, if_neg (hq 0 (by omega)), if_neg (hq 1 (by omega)), if_neg (hq 2 (by omega)), if_neg (hq 3 (by omega)), h.2.2.2.1]
  rfl
/-! a row is kept -/
theorem R_keep0 {M : zMS} {q fr wd most : Nat} (hq : M.2.2 19 q = J most) (hqb : q < 121) (hm : most < 1000) : gX12_keep M (J q) (J fr) (J wd) (J most) = some M := by
  unfold gX12_keep
  rw [zag_J hqb (by omega), wb1, hq, if_pos rfl]
