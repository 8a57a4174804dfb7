/-! texts: the reference's numbers -/
def RLx (M : zMS) (t : Nat → Nat) (n i : Nat) : Prop := n ≤ 600 ∧ i ≤ n ∧ M.1 11 = J n ∧ M.1 12 = J (Sk t n i) ∧ M.1 13 = J (kmp (Kk t n i)) ∧ M.1 10 = J (Ek t n i) ∧ (Kk t n i = 1 → M.2.1 15 = wrd t (Sk t n i) (Ek t n i)) ∧ (Kk t n i = 2 → M.1 14 = J (Vk t n i)) ∧ tRow M t
def RF (M : zMS) (f : Nat × Nat) : Prop := M.1 17 = J f.1 ∧ (f.1 ≠ 0 → M.1 18 = J f.2)
/-- a line under way: token, fault (at a place ahead), whether its numbers are good -/
def LSw (M : zMS) (t : Nat → Nat) (n i : Nat) (f : Nat × Nat) (g : Bool) : Prop := RLx M t n i ∧ RF M f ∧ (f.1 ≠ 0 → f.2 ≤ Sk t n i) ∧ f.1 < 4 ∧ M.1 22 = bJ g
def LSx (M : zMS) (t : Nat → Nat) (n i : Nat) (f : Nat × Nat) (g : Bool) : Prop := RLx M t n i ∧ RF M f ∧ (f.1 ≠ 0 → f.2 < Sk t n i) ∧ f.1 < 4 ∧ M.1 22 = bJ g
theorem LS_w {M : zMS} {t : Nat → Nat} {n i : Nat} {f : Nat × Nat} {g : Bool} (h : LSx M t n i f g) : LSw M t n i f g := ⟨h.1, h.2.1, fun z => Nat.le_of_lt (h.2.2.1 z), h.2.2.2⟩
theorem RL_tok {M : zMS} {t : Nat → Nat} {n i : Nat} (h : RLx M t n i) : ∃ M', gX12_token M = some M' ∧ RLx M' t n (Ek t n i) ∧ Mtk M M' := by
  obtain ⟨h1, h2, h3, h4, h5, h6, h7, h8, h9⟩ := h
  have hE := Ek_p (t := t) h2
  obtain ⟨M', e1, e2, e3, e4, e5, e6, e7⟩ := R_token h9 h1 hE.2.1 h3 h6
  refine ⟨M', e1, ⟨h1, hE.2.1, ?_, e3, e4, e5, e6, e7, fun k hk => by rw [e2.2]; exact h9 k hk⟩, e2⟩
  rw [e2.1 11 (by omega) (by omega) (by omega) (by omega)]; exact h3
theorem Kk_n0 {t : Nat → Nat} {n i : Nat} (hi : i ≤ n) (h : Kk t n i ≠ 0) : Sk t n i < Ek t n i ∧ Ek t n i ≤ Sk t n (Ek t n i) := by
  have hE := Ek_p (t := t) hi
  have hS := Sk_p (t := t) hi
  have h1 : Sk t n i < n := by
    rcases Nat.lt_or_ge (Sk t n i) n with z | z
    · exact z
    · exact absurd (hE.2.2.2.mpr (by omega)) h
  exact ⟨hE.2.2.1 h1, (Sk_p (t := t) hE.2.1).1⟩
theorem LS_tok {M : zMS} {t : Nat → Nat} {n i : Nat} {f : Nat × Nat} {g : Bool} (h : LSw M t n i f g) (hk : Kk t n i ≠ 0) : ∃ M', gX12_token M = some M' ∧ LSx M' t n (Ek t n i) f g ∧ Mtk M M' := by
  obtain ⟨h1, h2, h3, h4, h5⟩ := h
  obtain ⟨M', e1, e2, e3⟩ := RL_tok h1
  have hK := Kk_n0 h1.2.1 hk
  refine ⟨M', e1, ⟨e2, ⟨?_, fun z => ?_⟩, fun z => ?_, h4, ?_⟩, e3⟩
  · rw [e3.1 17 (by omega) (by omega) (by omega) (by omega)]; exact h2.1
  · rw [e3.1 18 (by omega) (by omega) (by omega) (by omega)]; exact h2.2 z
  · have := h3 z; omega
  · rw [e3.1 22 (by omega) (by omega) (by omega) (by omega)]; exact h5
def Mlt (M M' : zMS) : Prop := (∀ k, k ≠ 17 → k ≠ 18 → M'.1 k = M.1 k) ∧ M'.2 = M.2
theorem Mlt_r {M : zMS} : Mlt M M := ⟨fun _ _ _ => rfl, rfl⟩
theorem Mlt_s {M : zMS} {x y : Int32} : Mlt M (zsI (zsI M 17 x) 18 y) := ⟨fun k h1 h2 => by rw [zsI_o h2, zsI_o h1], rfl⟩
theorem R_later {M : zMS} {g p : Nat} {f : Nat × Nat} (h : RF M f) (hf : f.1 < 4) (hp : p < 1000) (ho : f.1 ≠ 0 → f.2 < p) : ∃ M', gX12_later M (J g) (J p) = some M' ∧ RF M' (mk1 f true g p) ∧ Mlt M M' := by
  unfold gX12_later mk1
  rw [h.1]
  by_cases c : f.1 = 0
  · rw [if_pos (show J f.1 = 0 by rw [c]; rfl), if_pos ⟨c, rfl⟩]
    exact ⟨zsI (zsI M 17 (J g)) 18 (J p), rfl, ⟨by rw [zsI_o (by omega), zsI_1], fun _ => zsI_1⟩, Mlt_s⟩
  · have h1 := ho c
    rw [if_neg (show ¬ J f.1 = 0 by rw [show (0 : Int32) = J 0 from rfl, J_eq (by omega) (by omega)]; exact c), h.2 c, if_neg (show ¬ J p < J f.2 by rw [J_lt (by omega) (by omega)]; omega), if_neg (show ¬ J p = J f.2 by rw [J_eq (by omega) (by omega)]; omega), if_neg (show ¬ (f.1 = 0 ∧ true = true) from fun z => c z.1)]
    exact ⟨M, rfl, h, Mlt_r⟩
theorem RL_lt {M M' : zMS} {t : Nat → Nat} {n i : Nat} (hm : ∀ k, (k = 10 ∨ k = 11 ∨ k = 12 ∨ k = 13 ∨ k = 14) → M'.1 k = M.1 k) (hl : M'.2.1 15 = M.2.1 15) (ha : M'.2.2 1 = M.2.2 1) (h : RLx M t n i) : RLx M' t n i := by
  obtain ⟨h1, h2, h3, h4, h5, h6, h7, h8, h9⟩ := h
  exact ⟨h1, h2, by rw [hm 11 (by omega)]; exact h3, by rw [hm 12 (by omega)]; exact h4, by rw [hm 13 (by omega)]; exact h5, by rw [hm 10 (by omega)]; exact h6, fun z => by rw [hl]; exact h7 z, fun z => by rw [hm 14 (by omega)]; exact h8 z, fun k hk => by rw [ha]; exact h9 k hk⟩
/-- what stays while numbers are taken -/
def Mtt (M M' : zMS) : Prop := (∀ k, k ≠ 10 → k ≠ 12 → k ≠ 13 → k ≠ 14 → k ≠ 16 → k ≠ 17 → k ≠ 18 → k ≠ 22 → M'.1 k = M.1 k) ∧ ∀ k, k ≠ 20 → M'.2.2 k = M.2.2 k
theorem Mtt_r {M : zMS} : Mtt M M := ⟨fun _ _ _ _ _ _ _ _ _ => rfl, fun _ _ => rfl⟩
theorem Mtt_t {a b c : zMS} (h1 : Mtt a b) (h2 : Mtt b c) : Mtt a c := ⟨fun k x1 x2 x3 x4 x5 x6 x7 x8 => (h2.1 k x1 x2 x3 x4 x5 x6 x7 x8).trans (h1.1 k x1 x2 x3 x4 x5 x6 x7 x8), fun k x => (h2.2 k x).trans (h1.2 k x)⟩
theorem Mtt_k {M M' : zMS} (h : Mtk M M') : Mtt M M' := ⟨fun k x1 x2 x3 x4 _ _ _ _ => h.1 k x1 x2 x3 x4, fun k _ => by rw [h.2]⟩
theorem Mtt_l {M M' : zMS} (h : Mlt M M') : Mtt M M' := ⟨fun k _ _ _ _ _ x1 x2 _ => h.1 k x1 x2, fun k _ => by rw [h.2]⟩
theorem Mtt_I {M : zMS} {j : Nat} {x : Int32} (h : j = 16 ∨ j = 22) : Mtt M (zsI M j x) := ⟨fun k _ _ _ _ _ _ _ _ => zsI_o (by omega), fun _ _ => rfl⟩
theorem Mtt_A {M : zMS} {g : Nat → Int32} : Mtt M (zsA M 20 g) := ⟨fun _ _ _ _ _ _ _ _ _ => rfl, fun k hk => zsA_o hk⟩
theorem R_tkF {M : zMS} {t : Nat → Nat} {n i : Nat} {a b c : Int32} (h : RLx M t n i) (hc : Kk t n i ≠ 2) : gX12_take M a b c = some (0, zsI M 16 (J (Sk t n i))) := by
  have hK := @Kk_le t n i
  have h3 : ¬ M.1 13 = 3 := by
    rw [h.2.2.2.2.1, show (3 : Int32) = J 3 from rfl, J_eq (by unfold kmp; split <;> omega) (by omega)]
    unfold kmp; split <;> omega
  unfold gX12_take gX12_fails
  rw [if_neg h3, h.2.2.2.1]
  rfl
theorem R_tkT {M : zMS} {t : Nat → Nat} {n i k lo hi : Nat} {f : Nat × Nat} {g : Bool} (h : LSx M t n i f g) (hc : Kk t n i = 2) (hk : k < 4) (hlo : lo < 1000) (hhi : hi < 1000) :
    ∃ M', gX12_take M (J k) (J lo) (J hi) = some (J 1, M') ∧ LSx M' t n (Ek t n i) (mk1 f (decide (Vk t n i < lo ∨ hi < Vk t n i)) 2 (Sk t n i)) (g && !decide (Vk t n i < lo ∨ hi < Vk t n i)) ∧ Mtt M M' ∧ M'.2.2 20 = upd (M.2.2 20) k (J (Vk t n i)) := by
  obtain ⟨h1, h2, h3, h4, h5⟩ := h
  have hV := Vk_lt hc
  have hS := Sk_p (t := t) h1.2.1
  have hn := h1.1
  obtain ⟨M7, hM7⟩ : ∃ m, m = zsA M 20 (upd (M.2.2 20) k (J (Vk t n i))) := ⟨_, rfl⟩
  have hR7 : RLx M7 t n i := by rw [hM7]; exact RL_lt (fun _ _ => rfl) rfl (zsA_o (by omega)) h1
  have hF7 : RF M7 f := by rw [hM7]; exact h2
  have h57 : M7.1 22 = bJ g := by rw [hM7]; exact h5
  have hT7 : Mtt M M7 := by rw [hM7]; exact Mtt_A
  have h20 : M7.2.2 20 = upd (M.2.2 20) k (J (Vk t n i)) := by rw [hM7]; exact zsA_1
  have hin : gX12_in (M7.1 14) (J lo) (J hi) = some (bJ (!decide (Vk t n i < lo ∨ hi < Vk t n i))) := by
    rw [hR7.2.2.2.2.2.2.2.1 hc, R_in, ← decide_not]
    refine congrArg (fun z => some (bJ z)) (decide_eq_decide.mpr ?_)
    rw [J_lt (by omega) (by omega), J_lt (by omega) (by omega)]
    omega
  have hM13 : M.1 13 = 3 := by rw [h1.2.2.2.2.1, hc]; rfl
  unfold gX12_take
  rw [if_pos hM13, h1.2.2.2.2.2.2.2.1 hc, zas_J (by omega) (by omega), wb1, wb1, ← hM7, hin, wb1]
  by_cases cc : Vk t n i < lo ∨ hi < Vk t n i
  · rw [decide_eq_true cc, if_pos (show bJ (!true) = 0 from rfl), hR7.2.2.2.1]
    obtain ⟨M20, e1, e2, e3⟩ := R_later (g := 2) (p := Sk t n i) hF7 h4 (by omega) h3
    have e1 : gX12_later M7 2 (J (Sk t n i)) = some M20 := e1
    obtain ⟨M21, hM21⟩ : ∃ m, m = zsI M20 22 0 := ⟨_, rfl⟩
    have hL : LSw M21 t n i (mk1 f true 2 (Sk t n i)) false := by
      rw [hM21]
      refine ⟨RL_lt (fun j hj => by rw [zsI_o (by omega), e3.1 j (by omega) (by omega)]) (by rw [zsI_l, e3.2]) (by rw [zsI_a, e3.2]) hR7, ⟨by rw [zsI_o (by omega)]; exact e2.1, fun z => by rw [zsI_o (by omega)]; exact e2.2 z⟩, fun z => ?_, mk1_b h4 (by omega), zsI_1⟩
      unfold mk1 at z ⊢
      split
      · exact Nat.le_refl _
      · next hq => rw [if_neg hq] at z; exact Nat.le_of_lt (h3 z)
    obtain ⟨M16, e4, e5, e6⟩ := LS_tok hL (by omega)
    rw [e1, wb1, wb1, ← hM21, wc1, e4, wb1]
    refine ⟨M16, rfl, by rw [show (g && !true) = false from Bool.and_false g]; exact e5, Mtt_t hT7 (Mtt_t (Mtt_l e3) (Mtt_t (by rw [hM21]; exact Mtt_I (by omega)) (Mtt_k e6))), ?_⟩
    rw [e6.2, hM21, zsI_a, e3.2]; exact h20
  · rw [decide_eq_false cc, if_neg (show ¬ bJ (!false) = 0 by decide), wc1]
    obtain ⟨M16, e4, e5, e6⟩ := LS_tok (LS_w ⟨hR7, hF7, h3, h4, h57⟩) (by omega)
    rw [e4, wb1]
    refine ⟨M16, rfl, by rw [mk1_f, show (g && !false) = g from Bool.and_true g]; exact e5, Mtt_t hT7 (Mtt_k e6), ?_⟩
    rw [e6.2]; exact h20
theorem R_full {M : zMS} {t : Nat → Nat} {n i q most c : Nat} {f : Nat × Nat} {g : Bool} (h : LSx M t n i f g) (hq : q < 121) (hc : M.2.2 19 q = J c) (hcb : c < 1000) (hmb : most < 1000) : ∃ M', gX12_full M (J q) (J most) (J (Sk t n i)) = some M' ∧ LSw M' t n i (mk1 f (decide (c = most)) 3 (Sk t n i)) g ∧ Mlt M M' := by
  obtain ⟨h1, h2, h3, h4, h5⟩ := h
  have hS := Sk_p (t := t) h1.2.1
  have hn := h1.1
  unfold gX12_full
  rw [zag_J hq (by omega), wb1, hc]
  by_cases cc : c = most
  · rw [if_pos (congrArg J cc), decide_eq_true cc]
    obtain ⟨M8, e1, e2, e3⟩ := R_later (g := 3) (p := Sk t n i) h2 h4 (by omega) h3
    have e1 : gX12_later M 3 (J (Sk t n i)) = some M8 := e1
    rw [e1, wb1, wc1]
    refine ⟨M8, rfl, ⟨RL_lt (fun j hj => e3.1 j (by omega) (by omega)) (by rw [e3.2]) (by rw [e3.2]) h1, e2, fun z => ?_, mk1_b h4 (by omega), by rw [e3.1 22 (by omega) (by omega)]; exact h5⟩, e3⟩
    unfold mk1 at z ⊢
    split
    · exact Nat.le_refl _
    · next hq => rw [if_neg hq] at z; exact Nat.le_of_lt (h3 z)
  · rw [if_neg (show ¬ J c = J most by rw [J_eq (by omega) (by omega)]; exact cc), decide_eq_false cc, mk1_f, wc1]
    exact ⟨M, rfl, LS_w ⟨h1, h2, h3, h4, h5⟩, Mlt_r⟩
theorem mk1_0 {f : Nat × Nat} {c : Bool} {g p : Nat} (hg : g ≠ 0) (h : (mk1 f c g p).1 = 0) : f.1 = 0 ∧ c = false := by
  unfold mk1 at h
  by_cases hc : f.1 = 0 ∧ c = true
  · rw [if_pos hc] at h; exact absurd h hg
  · rw [if_neg hc] at h
    refine ⟨h, ?_⟩
    cases c with
    | false => rfl
    | true => exact absurd ⟨h, rfl⟩ hc
