/-! texts: the reference's lines of days, lessons, sights -/
theorem R_keep1 {M : zMS} {q fr wd most c : Nat} (hq : M.2.2 19 q = J c) (hc : c < most) (hqf : q < fr) (hfit : fr + wd * c + wd ≤ 121) (hw : wd ≤ 4) (hmost : most < 1000) : ∃ M', gX12_keep M (J q) (J fr) (J wd) (J most) = some M' ∧ M'.1 = M.1 ∧ M'.2.1 = M.2.1 ∧ (∀ j, j ≠ 19 → M'.2.2 j = M.2.2 j) ∧ M'.2.2 19 q = J (c + 1) ∧ (∀ j, j < wd → M'.2.2 19 (fr + wd * c + j) = M.2.2 20 j) ∧ ∀ z, z ≠ q → (z < fr + wd * c ∨ fr + wd * c + wd ≤ z) → M'.2.2 19 z = M.2.2 19 z := by
  obtain ⟨b, hb⟩ : ∃ b, b = fr + wd * c := ⟨_, rfl⟩
  rw [← hb] at hfit ⊢
  have hbf : fr ≤ b := by rw [hb]; exact Nat.le_add_right _ _
  obtain ⟨m9, e1, e2, e3, e4, e5, e6⟩ := zf2_inv (f := gX12_keep_l19 (J wd) (J fr) (J c)) wd (fun k x m => x = J k ∧ m.1 = M.1 ∧ m.2.1 = M.2.1 ∧ (∀ j, j ≠ 19 → m.2.2 j = M.2.2 j) ∧ (∀ j, j < k → m.2.2 19 (b + j) = M.2.2 20 j) ∧ ∀ z, (z < b ∨ b + k ≤ z) → m.2.2 19 z = M.2.2 19 z) (fun m => m.1 = M.1 ∧ m.2.1 = M.2.1 ∧ (∀ j, j ≠ 19 → m.2.2 j = M.2.2 j) ∧ (∀ j, j < wd → m.2.2 19 (b + j) = M.2.2 20 j) ∧ ∀ z, (z < b ∨ b + wd ≤ z) → m.2.2 19 z = M.2.2 19 z) (by
    rintro k x m hk ⟨rfl, f1, f2, f3, f4, f5⟩ F
    refine ⟨J (k + 1), zsA m 19 (upd (m.2.2 19) (b + k) (M.2.2 20 k)), ?_, rfl, f1, f2, fun j hj => by rw [zsA_o hj]; exact f3 j hj, fun j hj => ?_, fun z hz => ?_⟩
    · unfold gX12_keep_l19
      rw [if_neg (show ¬ J wd ≤ J k by rw [J_le (by omega) (by omega)]; omega), zag_J (by omega) (by omega), wb1, J_mul, J_add, J_add, ← hb, zas_J (by omega) (by omega), wb1, wb1, f3 20 (by omega)]
      show F (J k + J 1) _ = _
      rw [J_add]
    · rw [zsA_1]
      by_cases hjk : j = k
      · subst hjk; rw [upd_1]
      · rw [upd_o (by omega)]; exact f4 j (by omega)
    · rw [zsA_1, upd_o (by omega)]; exact f5 z (by omega)) (by
    rintro x m ⟨rfl, f1, f2, f3, f4, f5⟩ F
    refine ⟨m, ?_, f1, f2, f3, f4, f5⟩
    unfold gX12_keep_l19
    rw [if_pos (show J wd ≤ J wd by rw [J_le (by omega) (by omega)]; omega)]) (zfu_lt (by omega)) (x0 := 0) (x1 := M) ⟨rfl, rfl, rfl, fun _ _ => rfl, fun j hj => by omega, fun _ _ => rfl⟩
  refine ⟨zsA m9 19 (upd (m9.2.2 19) q (J (c + 1))), ?_, e2, e3, fun j hj => by rw [zsA_o hj]; exact e4 j hj, by rw [zsA_1, upd_1], fun j hj => ?_, fun z h1 h2 => ?_⟩
  · unfold gX12_keep
    rw [zag_J (by omega) (by omega), wb1, hq, if_neg (show ¬ J c = J most by rw [J_eq (by omega) (by omega)]; omega), e1, wb1, zag_J (by omega) (by omega), wb1, e6 q (by omega), hq, show (J c + 1 : Int32) = J (c + 1) from J_add c 1, zas_J (by omega) (by omega), wb1, wb1]
  · rw [zsA_1, upd_o (by omega)]; exact e5 j hj
  · rw [zsA_1, upd_o h1]; exact e6 z h2
theorem LS_K {M M' : zMS} {t : Nat → Nat} {n i : Nat} {f : Nat × Nat} {b : Bool} (h1 : M'.1 = M.1) (h2 : M'.2.1 = M.2.1) (h3 : M'.2.2 1 = M.2.2 1) (h : LSx M t n i f b) : LSx M' t n i f b := by
  obtain ⟨a1, a2, a3, a4, a5⟩ := h
  exact ⟨RL_lt (fun k _ => by rw [h1]) (by rw [h2]) h3 a1, ⟨by rw [h1]; exact a2.1, fun z => by rw [h1]; exact a2.2 z⟩, a3, a4, by rw [h1]; exact a5⟩
theorem Mln_K {M M' : zMS} (h1 : M'.1 = M.1) (h3 : ∀ j, j ≠ 19 → M'.2.2 j = M.2.2 j) : Mln M M' := ⟨fun k _ _ _ _ _ _ _ _ _ => by rw [h1], fun k h _ => h3 k h⟩
/-! days -/
def RDy (M : zMS) (d : zV) : Prop := M.2.2 19 0 = J (d 0) ∧ ∀ k, k < (d 0 : Nat) → M.2.2 19 (1 + 3 * k) = J (d (1 + 3 * k)) ∧ M.2.2 19 (2 + 3 * k) = J (d (2 + 3 * k)) ∧ M.2.2 19 (3 + 3 * k) = sec d k
def upD (L : Nat) (x : Nat → Nat) (d : zV) : zV := vset (vset (vset (vset d (1 + 3 * (d 0 : Nat)) (L - 9)) (2 + 3 * (d 0 : Nat)) (x 0)) (3 + 3 * (d 0 : Nat)) (x 1)) 0 ((d 0 : Nat) + 1)
def PD (L : Nat) (x : Nat → Nat) (d : zV) (f : Nat × Nat) (M' : zMS) : Prop := ∃ d', RDy M' d' ∧ (d' 0 : Nat) ≤ 40 ∧ (f.1 = 0 → d' = upD L x d)
theorem RDy_M {M M' : zMS} {d : zV} (h : M'.2.2 19 = M.2.2 19) (hd : RDy M d) : RDy M' d := by unfold RDy; rw [h]; exact hd
theorem upD_0 {L : Nat} {x : Nat → Nat} {d : zV} (hc : (d 0 : Nat) < 40) : ((upD L x d) 0 : Nat) = (d 0 : Nat) + 1 := vset_1 (by omega)
theorem upD_o {L : Nat} {x : Nat → Nat} {d : zV} {j : Nat} (h0 : j ≠ 0) (h1 : j ≠ 1 + 3 * (d 0 : Nat)) (h2 : j ≠ 2 + 3 * (d 0 : Nat)) (h3 : j ≠ 3 + 3 * (d 0 : Nat)) : (upD L x d) j = d j := by
  unfold upD; rw [vset_o h0, vset_o h3, vset_o h2, vset_o h1]
theorem upD_1 {L : Nat} {x : Nat → Nat} {d : zV} (hL : L - 9 < 100) : ((upD L x d) (1 + 3 * (d 0 : Nat)) : Nat) = L - 9 := by
  unfold upD; rw [vset_o (by omega), vset_o (by omega), vset_o (by omega), vset_1 hL]
theorem upD_2 {L : Nat} {x : Nat → Nat} {d : zV} (hx : x 0 < 100) : ((upD L x d) (2 + 3 * (d 0 : Nat)) : Nat) = x 0 := by
  unfold upD; rw [vset_o (by omega), vset_o (by omega), vset_1 hx]
theorem upD_3 {L : Nat} {x : Nat → Nat} {d : zV} (hx : x 1 < 100) : ((upD L x d) (3 + 3 * (d 0 : Nat)) : Nat) = x 1 := by
  unfold upD; rw [vset_o (by omega), vset_1 hx]
theorem R_b107 {M0 m : zMS} {t : Nat → Nat} {n i κ : Nat} {f : Nat × Nat} {g : Bool} {d : zV} {x : Nat → Nat} (h : LSx m t n i f g) (h0 : Mln M0 m) (hd : RDy m d) (hb : (d 0 : Nat) ≤ 40) (hκ : κ < 5) (hx0 : x 0 < 100) (hx1 : κ ≠ 4 → x 1 < 100) (r1 : m.2.2 20 1 = J (x 0)) (r2 : m.2.2 20 2 = if κ = 4 then NN else J (x 1)) (hfull : f.1 = 0 → (d 0 : Nat) < 40) :
    LRes M0 (gX12_dayLine_b107 (J κ) m) t n 0 i f (PD (9 + κ) x d f) := by
  unfold gX12_dayLine_b107
  obtain ⟨M23, hM⟩ : ∃ M, M = zsA m 20 (upd (m.2.2 20) 0 (J κ)) := ⟨_, rfl⟩
  rw [show zas 4 (m.2.2 20) 0 (J κ) = some (upd (m.2.2 20) 0 (J κ)) from zas_J (i := 0) (by omega) (by omega), wb1, wb1, ← hM]
  have hl : LSx M23 t n i f g := by rw [hM]; exact LS_A (by omega) h
  have hm : Mln M0 M23 := Mln_t h0 (by rw [hM]; exact Mln_A (by omega))
  have hd2 : RDy M23 d := RDy_M (by rw [hM, zsA_o (by omega)]) hd
  have r20 : M23.2.2 20 0 = J κ ∧ M23.2.2 20 1 = J (x 0) ∧ M23.2.2 20 2 = (if κ = 4 then NN else J (x 1)) := by
    rw [hM, zsA_1]
    exact ⟨upd_1, by rw [upd_o (by omega)]; exact r1, by rw [upd_o (by omega)]; exact r2⟩
  obtain ⟨c, hc⟩ : ∃ c, c = (d 0 : Nat) := ⟨_, rfl⟩
  by_cases c1 : c = 40
  · have hk := R_keep0 (M := M23) (q := 0) (fr := 1) (wd := 3) (most := 40) (by rw [hd2.1, ← hc, c1]) (by omega) (by omega)
    rw [show gX12_keep M23 0 1 3 40 = some M23 from hk, wb1]
    refine LRes_e hm hl ⟨d, hd2, hb, fun z => ?_⟩
    have := hfull z
    omega
  · obtain ⟨M26, k1, k2, k3, k4, k5, k6, k7⟩ := R_keep1 (M := M23) (q := 0) (fr := 1) (wd := 3) (most := 40) (c := c) (by rw [hd2.1, hc]) (by omega) (by omega) (by omega) (by omega) (by omega)
    rw [show gX12_keep M23 0 1 3 40 = some M26 from k1, wb1]
    have g0 := k6 0 (by omega)
    have g1 := k6 1 (by omega)
    have g2 := k6 2 (by omega)
    have hu0 : ((upD (9 + κ) x d) 0 : Nat) = c + 1 := by rw [upD_0 (by omega), hc]
    refine LRes_e (Mln_t hm (Mln_K k2 k4)) (LS_K k2 k3 (k4 1 (by omega)) hl) ⟨upD (9 + κ) x d, ⟨by rw [k5, hu0], fun k hk => ?_⟩, by omega, fun _ => rfl⟩
    have hk : k < c + 1 := by rw [← hu0]; exact hk
    by_cases hkc : k = c
    · have q1 : ((upD (9 + κ) x d) (1 + 3 * c) : Nat) = κ := by rw [hc, upD_1 (by omega)]; omega
      have q2 : ((upD (9 + κ) x d) (2 + 3 * c) : Nat) = x 0 := by rw [hc, upD_2 hx0]
      subst hkc
      refine ⟨?_, ?_, ?_⟩
      · rw [q1, ← r20.1]; exact g0
      · rw [q2, ← r20.2.1, ← g1, show 2 + 3 * k = 1 + 3 * k + 1 by omega]
      · rw [show 3 + 3 * k = 1 + 3 * k + 2 by omega, g2, r20.2.2]
        unfold sec
        rw [q1]
        by_cases c4 : κ = 4
        · rw [if_pos c4, if_pos c4]
        · rw [if_neg c4, if_neg c4, hc, upD_3 (hx1 c4)]
    · have hold := hd2.2 k (by omega)
      have o1 := upD_o (L := 9 + κ) (x := x) (d := d) (j := 1 + 3 * k) (by omega) (by omega) (by omega) (by omega)
      have o2 := upD_o (L := 9 + κ) (x := x) (d := d) (j := 2 + 3 * k) (by omega) (by omega) (by omega) (by omega)
      have o3 := upD_o (L := 9 + κ) (x := x) (d := d) (j := 3 + 3 * k) (by omega) (by omega) (by omega) (by omega)
      unfold sec at hold ⊢
      rw [o1, o2, o3, k7 (1 + 3 * k) (by omega) (by omega), k7 (2 + 3 * k) (by omega) (by omega), k7 (3 + 3 * k) (by omega) (by omega)]
      exact hold
theorem db_ok : ∀ κ, κ < 5 → gX12_deedBy (Jl (cL (9 + κ))) = some (J κ) := by decide +kernel
theorem R_dayLine {M : zMS} {t : Nat → Nat} {n i κ : Nat} {f : Nat × Nat} {d : zV} {x p : Nat → Nat} (h : LSx M t n i f true) (hk : Kk t n i ≠ 0) (hd : RDy M d) (hb : (d 0 : Nat) ≤ 40) (hκ : κ < 5) (hx : ∀ j, x j = Vk t n (pS t n (Ek t n i) j)) (hp : ∀ j, p j = Sk t n (pS t n (Ek t n i) j)) :
    LRes M (gX12_dayLine M (Jl (cL (9 + κ))) (J (Sk t n i))) t n (nu (9 + κ)) (Ek t n i) (chk (9 + κ) f (decide ((d 0 : Nat) = 40)) (Sk t n i) x p (nu (9 + κ))) (PD (9 + κ) x d (chk (9 + κ) f (decide ((d 0 : Nat) = 40)) (Sk t n i) x p (nu (9 + κ)))) := by
  have hx0 : x 0 = Vk t n (Ek t n i) := hx 0
  have hx1 : x 1 = Vk t n (Ek t n (Ek t n i)) := hx 1
  have hp0 : p 0 = Sk t n (Ek t n i) := hp 0
  have hp1 : p 1 = Sk t n (Ek t n (Ek t n i)) := hp 1
  obtain ⟨f1, hf1⟩ : ∃ f1, f1 = mk1 f (decide ((d 0 : Nat) = 40)) 3 (Sk t n i) := ⟨_, rfl⟩
  have hfl : f1.1 = 0 → (d 0 : Nat) < 40 := fun z => by
    rw [hf1] at z
    have := of_decide_eq_false (mk1_0 (by omega) z).2
    omega
  unfold gX12_dayLine
  rw [db_ok κ hκ, wb1, if_neg (show ¬ J κ = -1 by rw [show (-1 : Int32) = NN from rfl, J_eN (by omega)]; exact fun z => z)]
  obtain ⟨M4, e1, e2, e3⟩ := R_full (q := 0) (most := 40) h (by omega) hd.1 (by omega) (by omega)
  rw [← hf1] at e2
  rw [show gX12_full M 0 40 (J (Sk t n i)) = some M4 from e1, wb1]
  obtain ⟨M6, d1, d2, d3⟩ := LS_tok e2 hk
  obtain ⟨M9, hM9⟩ : ∃ m, m = zsA M6 20 (upd (M6.2.2 20) 2 NN) := ⟨_, rfl⟩
  rw [d1, wb1, show zas 4 (M6.2.2 20) 2 (-1) = some (upd (M6.2.2 20) 2 NN) from zas_J (i := 2) (by omega) (by omega), wb1, wb1, ← hM9]
  have l9 : LSx M9 t n (Ek t n i) f1 true := by rw [hM9]; exact LS_A (by omega) d2
  have n9 : Mln M M9 := Mln_t (Mln_T (Mtt_l e3)) (Mln_t (Mln_T (Mtt_k d3)) (by rw [hM9]; exact Mln_A (by omega)))
  have y9 : RDy M9 d := RDy_M (by rw [hM9, zsA_o (by omega), d3.2, e3.2]) hd
  have r9 : M9.2.2 20 2 = NN := by rw [hM9, zsA_1, upd_1]
  by_cases c4 : κ = 4
  · subst c4
    rw [if_pos (show J 4 = 4 from rfl), wb1, if_neg (show ¬ (1 : Int32) = 0 by decide), wb1, if_neg (show ¬ (1 : Int32) = 0 by decide), wb1, show nu (9 + 4) = 1 from rfl]
    by_cases c1 : Kk t n (Ek t n i) = 2
    · refine LRes_s c1 ?_
      have hV0 := Vk_lt c1
      obtain ⟨M18, a1, a2, a3, a4⟩ := R_tkT (k := 1) (lo := 1) (hi := 60) l9 c1 (by omega) (by omega) (by omega)
      rw [← hx0] at a2 a4 hV0
      rw [show gX12_take M9 1 1 60 = some (J 1, M18) from a1, wb2, if_neg (show ¬ J 1 = 0 by decide), if_neg (show ¬ (1 : Int32) = 0 by decide)]
      have hf : mk1 f1 (decide (x 0 < 1 ∨ 60 < x 0)) 2 (Sk t n (Ek t n i)) = chk (9 + 4) f (decide ((d 0 : Nat) = 40)) (Sk t n i) x p 1 := by rw [hf1, ← hp0]; rfl
      rw [← hf]
      refine R_b107 (κ := 4) a2 (Mln_t n9 (Mln_T a3)) (RDy_M (a3.2 19 (by omega)) y9) hb (by omega) hV0 (fun z => absurd rfl z) (by rw [a4, upd_1]) (by rw [a4, upd_o (by omega), r9, if_pos rfl]) (fun z => hfl (mk1_0 (by omega) z).1)
    · rw [R_tkF l9.1 c1, wb2, if_pos rfl]
      exact LRes_f c1 n9
  · have hκ4 : κ < 4 := by omega
    have hnu : nu (9 + κ) = 2 := by
      match κ, hκ4 with
      | 0, _ => rfl
      | 1, _ => rfl
      | 2, _ => rfl
      | 3, _ => rfl
    obtain ⟨w, hw, hwb⟩ : ∃ w, (if J κ = 3 then some 30 else some 7 : Option Int32) = some (J w) ∧ w = if κ = 3 then 30 else 7 := by
      refine ⟨_, ?_, rfl⟩
      by_cases c3 : κ = 3
      · rw [if_pos (show J κ = 3 by rw [c3]; rfl), if_pos c3]; rfl
      · rw [if_neg (show ¬ J κ = 3 by rw [show (3 : Int32) = J 3 from rfl, J_eq (by omega) (by omega)]; exact c3), if_neg c3]; rfl
    have hwl : w < 1000 := by rw [hwb]; split <;> omega
    rw [if_neg (show ¬ J κ = 4 by rw [show (4 : Int32) = J 4 from rfl, J_eq (by omega) (by omega)]; exact c4), wb1, if_pos rfl, wb1, if_pos rfl, wb1, hnu]
    by_cases c1 : Kk t n (Ek t n i) = 2
    · refine LRes_s c1 ?_
      have hV0 := Vk_lt c1
      obtain ⟨M18, a1, a2, a3, a4⟩ := R_tkT (k := 1) (lo := 0) (hi := 5) l9 c1 (by omega) (by omega) (by omega)
      rw [← hx0] at a2 a4 hV0
      rw [show gX12_take M9 1 0 5 = some (J 1, M18) from a1, wb2, if_neg (show ¬ J 1 = 0 by decide), if_pos rfl, hw, wb1]
      by_cases c2 : Kk t n (Ek t n (Ek t n i)) = 2
      · refine LRes_s c2 ?_
        have hV1 := Vk_lt c2
        obtain ⟨M31, b1, b2, b3, b4⟩ := R_tkT (k := 2) (lo := 0) (hi := w) a2 c2 (by omega) (by omega) hwl
        rw [← hx1] at b2 b4 hV1
        rw [show gX12_take M18 2 0 (J w) = some (J 1, M31) from b1, wb2, if_neg (show ¬ J 1 = 0 by decide)]
        have hf : mk1 (mk1 f1 (decide (x 0 < 0 ∨ 5 < x 0)) 2 (Sk t n (Ek t n i))) (decide (x 1 < 0 ∨ w < x 1)) 2 (Sk t n (Ek t n (Ek t n i))) = chk (9 + κ) f (decide ((d 0 : Nat) = 40)) (Sk t n i) x p 2 := by
          rw [hf1, ← hp0, ← hp1, hwb]
          clear hw
          match κ, hκ4 with
          | 0, _ => rfl
          | 1, _ => rfl
          | 2, _ => rfl
          | 3, _ => rfl
        rw [← hf]
        refine R_b107 (κ := κ) b2 (Mln_t n9 (Mln_t (Mln_T a3) (Mln_T b3))) (RDy_M (by rw [b3.2 19 (by omega), a3.2 19 (by omega)]) y9) hb hκ hV0 (fun _ => hV1) (by rw [b4, upd_o (by omega), a4, upd_1]) (by rw [b4, upd_1, if_neg c4]) (fun z => hfl (mk1_0 (by omega) (mk1_0 (by omega) z).1).1)
      · rw [R_tkF a2.1 c2, wb2, if_pos rfl]
        exact LRes_f c2 (Mln_t n9 (Mln_T a3))
    · rw [R_tkF l9.1 c1, wb2, if_pos rfl]
      exact LRes_f c1 n9
theorem R_dayNone {M : zMS} {t : Nat → Nat} {n i : Nat} {w : Int64} {a : Int32} (h : RLx M t n i) (hw : ∀ L, 9 ≤ L → L < 14 → w ≠ Jl (cL L)) : gX12_dayLine M w a = some (0, zsI M 16 (J (Sk t n i))) := by
  have hq : ∀ L, 9 ≤ L → L < 14 → ¬ lg_cmp w (Jl (cL L)) = 0 := fun L h1 h2 z => hw L h1 h2 (lg0.mp z)
  unfold gX12_dayLine gX12_deedBy gX12_fails
  rw [kw_9, kw_10, kw_11, kw_12, kw_13, if_neg (hq 9 (by omega) (by omega)), if_neg (hq 10 (by omega) (by omega)), if_neg (hq 11 (by omega) (by omega)), if_neg (hq 12 (by omega) (by omega)), if_neg (hq 13 (by omega) (by omega)), wb1, wb1, if_pos rfl, h.2.2.2.1]
  rfl
/-! lessons -/
def RLs (M : zMS) (l : zV) : Prop := ∀ k, k < 22 → M.2.2 19 k = J (l k)
def upL (L : Nat) (x : Nat → Nat) (l : zV) : zV := if L = 14 then vset (vset (vset l (2 + 2 * (l 1 : Nat)) (x 0)) (3 + 2 * (l 1 : Nat)) (x 1)) 1 ((l 1 : Nat) + 1) else vset l 0 (x 0)
def PLs (L : Nat) (x : Nat → Nat) (l : zV) (f : Nat × Nat) (M' : zMS) : Prop := ∃ l', RLs M' l' ∧ (l' 1 : Nat) ≤ 10 ∧ (f.1 = 0 → l' = upL L x l)
theorem RLs_M {M M' : zMS} {l : zV} (h : M'.2.2 19 = M.2.2 19) (hl : RLs M l) : RLs M' l := fun k hk => by rw [h]; exact hl k hk
theorem R_gave {M : zMS} {t : Nat → Nat} {n i : Nat} {f : Nat × Nat} {l : zV} {x p : Nat → Nat} (h : LSx M t n i f true) (hk : Kk t n i ≠ 0) (hl : RLs M l) (hb : (l 1 : Nat) ≤ 10) (hx : ∀ j, x j = Vk t n (pS t n (Ek t n i) j)) (hp : ∀ j, p j = Sk t n (pS t n (Ek t n i) j)) :
    LRes M (gX12_lessonLine M (Jl (cL 14)) (J (Sk t n i))) t n 2 (Ek t n i) (chk 14 f (decide ((l 1 : Nat) = 10)) (Sk t n i) x p 2) (PLs 14 x l (chk 14 f (decide ((l 1 : Nat) = 10)) (Sk t n i) x p 2)) := by
  have hx0 : x 0 = Vk t n (Ek t n i) := hx 0
  have hx1 : x 1 = Vk t n (Ek t n (Ek t n i)) := hx 1
  have hp0 : p 0 = Sk t n (Ek t n i) := hp 0
  have hp1 : p 1 = Sk t n (Ek t n (Ek t n i)) := hp 1
  have q : lg_cmp (Jl (cL 14)) 1734440549 = 0 := by rw [kw_14]; exact lg0.mpr rfl
  obtain ⟨f1, hf1⟩ : ∃ f1, f1 = mk1 f (decide ((l 1 : Nat) = 10)) 3 (Sk t n i) := ⟨_, rfl⟩
  have hfl : f1.1 = 0 → (l 1 : Nat) < 10 := fun z => by
    rw [hf1] at z
    have := of_decide_eq_false (mk1_0 (by omega) z).2
    omega
  unfold gX12_lessonLine gX12_lessonLine_b21
  obtain ⟨M1, e1, e2, e3⟩ := R_full (q := 1) (most := 10) h (by omega) (hl 1 (by omega)) (by omega) (by omega)
  rw [← hf1] at e2
  obtain ⟨M4, d1, d2, d3⟩ := LS_tok e2 hk
  rw [if_pos q, if_pos q, show gX12_full M 1 10 (J (Sk t n i)) = some M1 from e1, wb1, wc1, d1, wb1, if_pos q, wb1]
  have n4 : Mln M M4 := Mln_t (Mln_T (Mtt_l e3)) (Mln_T (Mtt_k d3))
  by_cases c1 : Kk t n (Ek t n i) = 2
  · refine LRes_s c1 ?_
    have hV0 := Vk_lt c1
    obtain ⟨M8, a1, a2, a3, a4⟩ := R_tkT (k := 0) (lo := 0) (hi := 7) d2 c1 (by omega) (by omega) (by omega)
    rw [← hx0] at a2 a4 hV0
    rw [show gX12_take M4 0 0 7 = some (J 1, M8) from a1, wb2, if_neg (show ¬ J 1 = 0 by decide), if_pos q]
    by_cases c2 : Kk t n (Ek t n (Ek t n i)) = 2
    · refine LRes_s c2 ?_
      have hV1 := Vk_lt c2
      obtain ⟨M25, b1, b2, b3, b4⟩ := R_tkT (k := 1) (lo := 0) (hi := 7) a2 c2 (by omega) (by omega) (by omega)
      rw [← hx1] at b2 b4 hV1
      rw [show gX12_take M8 1 0 7 = some (J 1, M25) from b1, wb2, if_neg (show ¬ J 1 = 0 by decide)]
      have hf : mk1 (mk1 f1 (decide (x 0 < 0 ∨ 7 < x 0)) 2 (Sk t n (Ek t n i))) (decide (x 1 < 0 ∨ 7 < x 1)) 2 (Sk t n (Ek t n (Ek t n i))) = chk 14 f (decide ((l 1 : Nat) = 10)) (Sk t n i) x p 2 := by rw [hf1, ← hp0, ← hp1]; rfl
      rw [← hf]
      have n25 : Mln M M25 := Mln_t n4 (Mln_t (Mln_T a3) (Mln_T b3))
      have l25 : RLs M25 l := RLs_M (by rw [b3.2 19 (by omega), a3.2 19 (by omega), d3.2, e3.2]) hl
      unfold gX12_lessonLine_b86
      rw [if_pos q]
      obtain ⟨c, hc⟩ : ∃ c, c = (l 1 : Nat) := ⟨_, rfl⟩
      by_cases cc : c = 10
      · have hk := R_keep0 (M := M25) (q := 1) (fr := 2) (wd := 2) (most := 10) (by rw [l25 1 (by omega), ← hc, cc]) (by omega) (by omega)
        rw [show gX12_keep M25 1 2 2 10 = some M25 from hk, wb1, wc1]
        refine LRes_e n25 b2 ⟨l, l25, hb, fun z => ?_⟩
        have := hfl (mk1_0 (by omega) (mk1_0 (by omega) z).1).1
        omega
      · obtain ⟨M26, k1, k2, k3, k4, k5, k6, k7⟩ := R_keep1 (M := M25) (q := 1) (fr := 2) (wd := 2) (most := 10) (c := c) (by rw [l25 1 (by omega), hc]) (by omega) (by omega) (by omega) (by omega) (by omega)
        rw [show gX12_keep M25 1 2 2 10 = some M26 from k1, wb1, wc1]
        have hu : upL 14 x l = vset (vset (vset l (2 + 2 * c) (x 0)) (3 + 2 * c) (x 1)) 1 (c + 1) := by rw [hc]; exact if_pos rfl
        refine LRes_e (Mln_t n25 (Mln_K k2 k4)) (LS_K k2 k3 (k4 1 (by omega)) b2) ⟨upL 14 x l, fun k hk => ?_, ?_, fun _ => rfl⟩
        · rw [hu]
          by_cases z1 : k = 1
          · rw [z1, vset_1 (by omega), k5]
          · rw [vset_o z1]
            by_cases z3 : k = 3 + 2 * c
            · rw [z3, vset_1 hV1, show 3 + 2 * c = 2 + 2 * c + 1 by omega, k6 1 (by omega), b4, upd_1]
            · rw [vset_o z3]
              by_cases z2 : k = 2 + 2 * c
              · have := k6 0 (by omega)
                rw [z2, vset_1 hV0, ← Nat.add_zero (2 + 2 * c), this, b4, upd_o (by omega), a4, upd_1]
              · rw [vset_o z2, k7 k z1 (by omega)]; exact l25 k hk
        · rw [hu, vset_1 (by omega)]; omega
    · rw [R_tkF a2.1 c2, wb2, if_pos rfl]
      exact LRes_f c2 (Mln_t n4 (Mln_T a3))
  · rw [R_tkF d2.1 c1, wb2, if_pos rfl]
    exact LRes_f c1 n4
theorem R_lies {M : zMS} {t : Nat → Nat} {n i : Nat} {f : Nat × Nat} {l : zV} {x p : Nat → Nat} {a : Int32} (h : LSx M t n i f true) (hk : Kk t n i ≠ 0) (hl : RLs M l) (hb : (l 1 : Nat) ≤ 10) (hx : ∀ j, x j = Vk t n (pS t n (Ek t n i) j)) (hp : ∀ j, p j = Sk t n (pS t n (Ek t n i) j)) :
    LRes M (gX12_lessonLine M (Jl (cL 15)) a) t n 1 (Ek t n i) (chk 15 f false (Sk t n i) x p 1) (PLs 15 x l (chk 15 f false (Sk t n i) x p 1)) := by
  have hx0 : x 0 = Vk t n (Ek t n i) := hx 0
  have hp0 : p 0 = Sk t n (Ek t n i) := hp 0
  have q : ¬ lg_cmp (Jl (cL 15)) 1734440549 = 0 := by rw [kw_14, lgc (by omega) (by omega)]; omega
  have q2 : lg_cmp (Jl (cL 15)) 1818846579 = 0 := by rw [kw_15]; exact lg0.mpr rfl
  unfold gX12_lessonLine gX12_lessonLine_b21
  obtain ⟨M4, d1, d2, d3⟩ := LS_tok (LS_w h) hk
  rw [if_neg q, if_pos q2, if_neg q, wc1, d1, wb1, if_neg q, wb1]
  have n4 : Mln M M4 := Mln_T (Mtt_k d3)
  by_cases c1 : Kk t n (Ek t n i) = 2
  · refine LRes_s c1 ?_
    have hV0 := Vk_lt c1
    obtain ⟨M8, a1, a2, a3, a4⟩ := R_tkT (k := 0) (lo := 0) (hi := 9) d2 c1 (by omega) (by omega) (by omega)
    rw [← hx0] at a2 a4 hV0
    rw [show gX12_take M4 0 0 9 = some (J 1, M8) from a1, wb2, if_neg (show ¬ J 1 = 0 by decide), if_neg q]
    have hf : mk1 f (decide (x 0 < 0 ∨ 9 < x 0)) 2 (Sk t n (Ek t n i)) = chk 15 f false (Sk t n i) x p 1 := by
      rw [← hp0]
      show _ = mk1 (mk1 f false 3 (Sk t n i)) (outB 15 x 0) 2 (p 0)
      rw [mk1_f]; rfl
    rw [← hf]
    have l8 : RLs M8 l := RLs_M (by rw [a3.2 19 (by omega), d3.2]) hl
    unfold gX12_lessonLine_b86
    rw [if_neg q, show zag 4 (M8.2.2 20) 0 = some (J (x 0)) by rw [show (0 : Int32) = J 0 from rfl, zag_J (by omega) (by omega), a4, upd_1], wb1, show zas 121 (M8.2.2 19) 0 (J (x 0)) = some (upd (M8.2.2 19) 0 (J (x 0))) from zas_J (i := 0) (by omega) (by omega), wb1, wb1, wc1]
    have hu : upL 15 x l = vset l 0 (x 0) := if_neg (by omega)
    refine LRes_e (Mln_t n4 (Mln_t (Mln_T a3) (Mln_A (by omega)))) (LS_A (by omega) a2) ⟨upL 15 x l, fun k hk => ?_, by rw [hu, vset_o (by omega)]; exact hb, fun _ => rfl⟩
    rw [zsA_1, hu]
    by_cases z : k = 0
    · subst z; rw [upd_1, vset_1 hV0]
    · rw [upd_o z, vset_o z]; exact l8 k hk
  · rw [R_tkF d2.1 c1, wb2, if_pos rfl]
    exact LRes_f c1 n4
theorem R_lessonNone {M : zMS} {t : Nat → Nat} {n i : Nat} {w : Int64} {a : Int32} (h : RLx M t n i) (hw : ∀ L, 14 ≤ L → L < 16 → w ≠ Jl (cL L)) : gX12_lessonLine M w a = some (0, zsI M 16 (J (Sk t n i))) := by
  have hq : ∀ L, 14 ≤ L → L < 16 → ¬ lg_cmp w (Jl (cL L)) = 0 := fun L h1 h2 z => hw L h1 h2 (lg0.mp z)
  unfold gX12_lessonLine gX12_fails
  rw [kw_14, kw_15, if_neg (hq 14 (by omega) (by omega)), if_neg (hq 15 (by omega) (by omega)), h.2.2.2.1]
  rfl
/-! sights -/
def RSi (M : zMS) (s : zV) : Prop := ∀ k, k < 33 → M.2.2 19 k = J (s k)
def upS (L : Nat) (x : Nat → Nat) (s : zV) : zV := vset (vset (vset (vset (vset s (1 + 4 * (s 0 : Nat)) (L - 16)) (2 + 4 * (s 0 : Nat)) (x 0)) (3 + 4 * (s 0 : Nat)) (x 1)) (4 + 4 * (s 0 : Nat)) (x 2)) 0 ((s 0 : Nat) + 1)
def PSi (L : Nat) (x : Nat → Nat) (s : zV) (f : Nat × Nat) (M' : zMS) : Prop := ∃ s', RSi M' s' ∧ (s' 0 : Nat) ≤ 8 ∧ (f.1 = 0 → s' = upS L x s)
theorem R_sightLine {M : zMS} {t : Nat → Nat} {n i κ : Nat} {f : Nat × Nat} {s : zV} {x p : Nat → Nat} (h : LSx M t n i f true) (hk : Kk t n i ≠ 0) (hs : RSi M s) (hb : (s 0 : Nat) ≤ 8) (hκ : κ < 2) (hx : ∀ j, x j = Vk t n (pS t n (Ek t n i) j)) (hp : ∀ j, p j = Sk t n (pS t n (Ek t n i) j)) :
    LRes M (gX12_sightLine M (Jl (cL (16 + κ))) (J (Sk t n i))) t n 3 (Ek t n i) (chk (16 + κ) f (decide ((s 0 : Nat) = 8)) (Sk t n i) x p 3) (PSi (16 + κ) x s (chk (16 + κ) f (decide ((s 0 : Nat) = 8)) (Sk t n i) x p 3)) := by
  have hx0 : x 0 = Vk t n (Ek t n i) := hx 0
  have hx1 : x 1 = Vk t n (Ek t n (Ek t n i)) := hx 1
  have hx2 : x 2 = Vk t n (Ek t n (Ek t n (Ek t n i))) := hx 2
  have hp0 : p 0 = Sk t n (Ek t n i) := hp 0
  have hp1 : p 1 = Sk t n (Ek t n (Ek t n i)) := hp 1
  have hp2 : p 2 = Sk t n (Ek t n (Ek t n (Ek t n i))) := hp 2
  have q17 : (lg_cmp (Jl (cL (16 + κ))) 448377483876 = 0) ↔ 16 + κ = 17 := by rw [kw_17]; exact lgc (by omega) (by omega)
  have q16 : (lg_cmp (Jl (cL (16 + κ))) 7237492 = 0) ↔ 16 + κ = 16 := by rw [kw_16]; exact lgc (by omega) (by omega)
  have hch : ∀ A B : Option (Int32 × zMS), (if lg_cmp (Jl (cL (16 + κ))) 448377483876 = 0 then A else if lg_cmp (Jl (cL (16 + κ))) 7237492 = 0 then A else B) = A := by
    intro A B
    by_cases a1 : 16 + κ = 17
    · rw [if_pos (q17.mpr a1)]
    · rw [if_neg (fun z => a1 (q17.mp z)), if_pos (q16.mpr (by omega))]
  have hκv : (if lg_cmp (Jl (cL (16 + κ))) 448377483876 = 0 then some 1 else some 0 : Option Int32) = some (J κ) := by
    by_cases a1 : 16 + κ = 17
    · rw [if_pos (q17.mpr a1), show κ = 1 by omega]; rfl
    · rw [if_neg (fun z => a1 (q17.mp z)), show κ = 0 by omega]; rfl
  obtain ⟨f1, hf1⟩ : ∃ f1, f1 = mk1 f (decide ((s 0 : Nat) = 8)) 3 (Sk t n i) := ⟨_, rfl⟩
  have hfl : f1.1 = 0 → (s 0 : Nat) < 8 := fun z => by
    rw [hf1] at z
    have := of_decide_eq_false (mk1_0 (by omega) z).2
    omega
  unfold gX12_sightLine
  rw [hch]
  unfold gX12_sightLine_b21
  obtain ⟨M1, e1, e2, e3⟩ := R_full (q := 0) (most := 8) h (by omega) (hs 0 (by omega)) (by omega) (by omega)
  rw [← hf1] at e2
  obtain ⟨M4, d1, d2, d3⟩ := LS_tok e2 hk
  rw [show gX12_full M 0 8 (J (Sk t n i)) = some M1 from e1, wb1, d1, wb1]
  have n4 : Mln M M4 := Mln_t (Mln_T (Mtt_l e3)) (Mln_T (Mtt_k d3))
  by_cases c1 : Kk t n (Ek t n i) = 2
  · refine LRes_s c1 ?_
    have hV0 := Vk_lt c1
    obtain ⟨M6, a1, a2, a3, a4⟩ := R_tkT (k := 1) (lo := 0) (hi := 30) d2 c1 (by omega) (by omega) (by omega)
    rw [← hx0] at a2 a4 hV0
    rw [show gX12_take M4 1 0 30 = some (J 1, M6) from a1, wb2, if_neg (show ¬ J 1 = 0 by decide)]
    by_cases c2 : Kk t n (Ek t n (Ek t n i)) = 2
    · refine LRes_s c2 ?_
      have hV1 := Vk_lt c2
      obtain ⟨M9, b1, b2, b3, b4⟩ := R_tkT (k := 2) (lo := 0) (hi := 99) a2 c2 (by omega) (by omega) (by omega)
      rw [← hx1] at b2 b4 hV1
      rw [show gX12_take M6 2 0 99 = some (J 1, M9) from b1, wb2, if_neg (show ¬ J 1 = 0 by decide)]
      by_cases c3 : Kk t n (Ek t n (Ek t n (Ek t n i))) = 2
      · refine LRes_s c3 ?_
        have hV2 := Vk_lt c3
        obtain ⟨M12, g1, g2, g3, g4⟩ := R_tkT (k := 3) (lo := 0) (hi := 7) b2 c3 (by omega) (by omega) (by omega)
        rw [← hx2] at g2 g4 hV2
        obtain ⟨M18, hM18⟩ : ∃ m, m = zsA M12 20 (upd (M12.2.2 20) 0 (J κ)) := ⟨_, rfl⟩
        rw [show gX12_take M9 3 0 7 = some (J 1, M12) from g1, wb2, if_neg (show ¬ J 1 = 0 by decide), hκv, wb1, show zas 4 (M12.2.2 20) 0 (J κ) = some (upd (M12.2.2 20) 0 (J κ)) from zas_J (i := 0) (by omega) (by omega), wb1, wb1, ← hM18]
        have hf : mk1 (mk1 (mk1 f1 (decide (x 0 < 0 ∨ 30 < x 0)) 2 (Sk t n (Ek t n i))) (decide (x 1 < 0 ∨ 99 < x 1)) 2 (Sk t n (Ek t n (Ek t n i)))) (decide (x 2 < 0 ∨ 7 < x 2)) 2 (Sk t n (Ek t n (Ek t n (Ek t n i)))) = chk (16 + κ) f (decide ((s 0 : Nat) = 8)) (Sk t n i) x p 3 := by
          rw [hf1, ← hp0, ← hp1, ← hp2]
          match κ, hκ with
          | 0, _ => rfl
          | 1, _ => rfl
        rw [← hf]
        have l18 := LS_A (j := 20) (g := upd (M12.2.2 20) 0 (J κ)) (.inr rfl) g2
        rw [← hM18] at l18
        have n18 : Mln M M18 := Mln_t n4 (Mln_t (Mln_T a3) (Mln_t (Mln_T b3) (Mln_t (Mln_T g3) (by rw [hM18]; exact Mln_A (by omega)))))
        have s18 : RSi M18 s := fun k hk => by rw [hM18, zsA_o (by omega), g3.2 19 (by omega), b3.2 19 (by omega), a3.2 19 (by omega), d3.2, e3.2]; exact hs k hk
        have r18 : M18.2.2 20 0 = J κ ∧ M18.2.2 20 1 = J (x 0) ∧ M18.2.2 20 2 = J (x 1) ∧ M18.2.2 20 3 = J (x 2) := by
          rw [hM18, zsA_1]
          refine ⟨upd_1, ?_, ?_, ?_⟩
          · rw [upd_o (by omega), g4, upd_o (by omega), b4, upd_o (by omega), a4, upd_1]
          · rw [upd_o (by omega), g4, upd_o (by omega), b4, upd_1]
          · rw [upd_o (by omega), g4, upd_1]
        obtain ⟨c, hc⟩ : ∃ c, c = (s 0 : Nat) := ⟨_, rfl⟩
        by_cases cc : c = 8
        · have hk := R_keep0 (M := M18) (q := 0) (fr := 1) (wd := 4) (most := 8) (by rw [s18 0 (by omega), ← hc, cc]) (by omega) (by omega)
          rw [show gX12_keep M18 0 1 4 8 = some M18 from hk, wb1]
          refine LRes_e n18 l18 ⟨s, s18, hb, fun z => ?_⟩
          have := hfl (mk1_0 (by omega) (mk1_0 (by omega) (mk1_0 (by omega) z).1).1).1
          omega
        · obtain ⟨M21, k1, k2, k3, k4, k5, k6, k7⟩ := R_keep1 (M := M18) (q := 0) (fr := 1) (wd := 4) (most := 8) (c := c) (by rw [s18 0 (by omega), hc]) (by omega) (by omega) (by omega) (by omega) (by omega)
          rw [show gX12_keep M18 0 1 4 8 = some M21 from k1, wb1]
          have hu : upS (16 + κ) x s = vset (vset (vset (vset (vset s (1 + 4 * c) κ) (2 + 4 * c) (x 0)) (3 + 4 * c) (x 1)) (4 + 4 * c) (x 2)) 0 (c + 1) := by
            unfold upS; rw [← hc, Nat.add_sub_cancel_left]
          refine LRes_e (Mln_t n18 (Mln_K k2 k4)) (LS_K k2 k3 (k4 1 (by omega)) l18) ⟨upS (16 + κ) x s, fun k hk => ?_, ?_, fun _ => rfl⟩
          · rw [hu]
            by_cases z0 : k = 0
            · rw [z0, vset_1 (by omega), k5]
            · rw [vset_o z0]
              by_cases z4 : k = 4 + 4 * c
              · rw [z4, vset_1 hV2, show 4 + 4 * c = 1 + 4 * c + 3 by omega, k6 3 (by omega)]; exact r18.2.2.2
              · rw [vset_o z4]
                by_cases z3 : k = 3 + 4 * c
                · rw [z3, vset_1 hV1, show 3 + 4 * c = 1 + 4 * c + 2 by omega, k6 2 (by omega)]; exact r18.2.2.1
                · rw [vset_o z3]
                  by_cases z2 : k = 2 + 4 * c
                  · rw [z2, vset_1 hV0, show 2 + 4 * c = 1 + 4 * c + 1 by omega, k6 1 (by omega)]; exact r18.2.1
                  · rw [vset_o z2]
                    by_cases z1 : k = 1 + 4 * c
                    · have := k6 0 (by omega)
                      rw [z1, vset_1 (by omega), ← Nat.add_zero (1 + 4 * c), this]; exact r18.1
                    · rw [vset_o z1, k7 k z0 (by omega)]; exact s18 k hk
          · rw [hu, vset_1 (by omega)]; omega
      · rw [R_tkF b2.1 c3, wb2, if_pos rfl]
        exact LRes_f c3 (Mln_t n4 (Mln_t (Mln_T a3) (Mln_T b3)))
    · rw [R_tkF a2.1 c2, wb2, if_pos rfl]
      exact LRes_f c2 (Mln_t n4 (Mln_T a3))
  · rw [R_tkF d2.1 c1, wb2, if_pos rfl]
    exact LRes_f c1 n4
theorem R_sightNone {M : zMS} {t : Nat → Nat} {n i : Nat} {w : Int64} {a : Int32} (h : RLx M t n i) (hw : ∀ L, 16 ≤ L → L < 18 → w ≠ Jl (cL L)) : gX12_sightLine M w a = some (0, zsI M 16 (J (Sk t n i))) := by
  have hq : ∀ L, 16 ≤ L → L < 18 → ¬ lg_cmp w (Jl (cL L)) = 0 := fun L h1 h2 z => hw L h1 h2 (lg0.mp z)
  unfold gX12_sightLine gX12_fails
  rw [kw_17, kw_16, if_neg (hq 17 (by omega) (by omega)), if_neg (hq 16 (by omega) (by omega)), h.2.2.2.1]
  rfl
