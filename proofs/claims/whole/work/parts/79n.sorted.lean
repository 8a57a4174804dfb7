/-! the shortest talk: the class's own row, sorted -/
def RM (μ : zM) (g : Nat → Int32) : zM := zm_nw μ (.inl (0, 8, .inl g))
theorem RM_at {μ : zM} {g : Nat → Int32} : (RM μ g).1 μ.2.1 = some (.inl (0, 8, .inl g)) := by
  show (if μ.2.1 = μ.2.1 then some (.inl (0, 8, .inl g)) else μ.1 μ.2.1) = _
  rw [if_pos rfl]
theorem RM_ok {k : Nat} (hk : k < 8) : ¬ ((J k) < 0 ∨ 8 ≤ (J k).toNatClampNeg) := by
  rw [show (0 : Int32) = J 0 from rfl, J_lt (by omega) (by omega), J_nat (by omega)]; omega
theorem RM_aI {μ : zM} {g : Nat → Int32} {k : Nat} (hk : k < 8) : zm_aI (RM μ g) 0 μ.2.1 (J k) = some (g k) := by
  unfold zm_aI
  rw [RM_at]
  show (if 0 % 10 = 0 ∧ 0 < 12 ∧ ¬ ((J k) < 0 ∨ 8 ≤ (J k).toNatClampNeg) then some (g (J k).toNatClampNeg) else none) = _
  rw [if_pos ⟨rfl, by decide, RM_ok hk⟩, J_nat (by omega)]
theorem RM_sI {μ : zM} {g : Nat → Int32} {k : Nat} {x : Int32} (hk : k < 8) : zm_sI (RM μ g) 0 μ.2.1 (J k) x = some (RM μ (upd g k x)) := by
  unfold zm_sI
  rw [RM_at]
  show (if 0 = 0 ∧ ¬ ((J k) < 0 ∨ 8 ≤ (J k).toNatClampNeg) then some (zm_up (RM μ g) μ.2.1 (.inl (0, 8, .inl (upd g (J k).toNatClampNeg x)))) else none) = _
  rw [if_pos ⟨rfl, RM_ok hk⟩, J_nat (by omega)]
  refine congrArg some (Prod.ext (funext fun q => ?_) rfl)
  show (if q = μ.2.1 then some (Sum.inl (0, 8, Sum.inl (upd g k x))) else if q = μ.2.1 then some (Sum.inl (0, 8, Sum.inl g)) else μ.1 q) = if q = μ.2.1 then some (Sum.inl (0, 8, Sum.inl (upd g k x))) else μ.1 q
  by_cases hq : q = μ.2.1
  · rw [if_pos hq, if_pos hq]
  · rw [if_neg hq, if_neg hq, if_neg hq]
theorem cnt_sw {p q : Nat → Bool} {a : Nat} (h0 : q a = p (a + 1)) (h1 : q (a + 1) = p a) (ho : ∀ i, i ≠ a → i ≠ a + 1 → q i = p i) : ∀ d, cnt q (a + 2 + d) = cnt p (a + 2 + d)
  | 0 => by
    rw [show a + 2 + 0 = a + 1 + 1 from rfl, cnt_s, cnt_s, cnt_s, cnt_s, h0, h1, cnt_c (fun i hi => ho i (by omega) (by omega))]; omega
  | d + 1 => by
    rw [show a + 2 + (d + 1) = a + 2 + d + 1 from rfl, cnt_s, cnt_s, cnt_sw h0 h1 ho d, ho (a + 2 + d) (by omega) (by omega)]
/-- the row under way: numbers below 100, as many above each as at first -/
def rwg (w h : Nat → Nat) (g : Nat → Int32) : Prop := (∀ k, k < 8 → g k = J (h k) ∧ h k < 100) ∧ ∀ c, cnt (fun k => decide (c ≤ h k)) 8 = cnt (fun k => decide (c ≤ w k)) 8
def swp (h : Nat → Nat) (a : Nat) : Nat → Nat := fun k => if k = a then h (a + 1) else if k = a + 1 then h a else h k
theorem rwg_swp {w h : Nat → Nat} {g : Nat → Int32} (H : rwg w h g) {a : Nat} (ha : a + 1 < 8) : rwg w (swp h a) (upd (upd g a (J (h (a + 1)))) (a + 1) (J (h a))) := by
  refine ⟨fun k hk => ?_, fun c => ?_⟩
  · unfold swp
    by_cases h1 : k = a + 1
    · subst h1
      rw [upd_1, if_neg (by omega), if_pos rfl]
      exact ⟨rfl, (H.1 a (by omega)).2⟩
    · rw [upd_o h1]
      by_cases h2 : k = a
      · subst h2
        rw [upd_1, if_pos rfl]
        exact ⟨rfl, (H.1 _ ha).2⟩
      · rw [upd_o h2, if_neg h2, if_neg h1]
        exact H.1 k hk
  · rw [← H.2 c]
    have := cnt_sw (p := fun k => decide (c ≤ h k)) (q := fun k => decide (c ≤ swp h a k)) (a := a) (by simp [swp]) (by simp [swp]) (fun i h1 h2 => by simp [swp, h1, h2]) (8 - (a + 2))
    rwa [show a + 2 + (8 - (a + 2)) = 8 by omega] at this
theorem F_sift {μ : zM} {w : Nat → Nat} {k : Nat} (hk : k < 8) {h : Nat → Nat} {g : Nat → Int32} (H : rwg w h g) (hf : ∀ i j, i < j → j ≤ k → j ≠ k → h j ≤ h i) :
    ∃ m, zf2 (fX10_fewestAnswers_l22 μ) zfu (J k) (RM μ g) = some m ∧ ∃ h' g', m = RM μ g' ∧ rwg w h' g' ∧ ∀ i j, i < j → j ≤ k → h' j ≤ h' i := by
  refine zf2_stop k (fun n x m => x = J (k - n) ∧ ∃ h' g', m = RM μ g' ∧ rwg w h' g' ∧ ∀ i j, i < j → j ≤ k → j ≠ k - n → h' j ≤ h' i) _ ?_ ?_ (zfu_lt (by omega)) ⟨rfl, h, g, rfl, H, hf⟩
  · rintro n x m hn ⟨rfl, h', g', rfl, H', hf'⟩
    obtain ⟨a, hza⟩ : ∃ a, k - n = a + 1 := ⟨k - n - 1, by omega⟩
    rw [hza] at hf' ⊢
    have h1 := H'.1 (a + 1) (by omega)
    have h2 := H'.1 a (by omega)
    have hm1 : J (a + 1) - 1 = J a := by rw [show (1 : Int32) = J 1 from rfl, J_sub (by omega), Nat.add_sub_cancel]
    by_cases hc : h' (a + 1) ≤ h' a
    · refine .inl ⟨RM μ g', ⟨h', g', rfl, H', fun i j hij hj => ?_⟩, fun F => ?_⟩
      · by_cases hja : j = a + 1
        · subst hja
          by_cases hia : i = a
          · subst hia; exact hc
          · exact Nat.le_trans hc (hf' i a (by omega) (by omega) (by omega))
        · exact hf' i j hij hj hja
      · unfold fX10_fewestAnswers_l22
        rw [if_neg (show ¬ J (a + 1) ≤ 0 by rw [show (0 : Int32) = J 0 from rfl, J_le (by omega) (by omega)]; omega), RM_aI (by omega), wb1, hm1, RM_aI (by omega), wb1, h1.1, h2.1, if_pos (show J (h' (a + 1)) ≤ J (h' a) by rw [J_le (by omega) (by omega)]; exact hc)]
    · refine .inr ⟨J a, RM μ (upd (upd g' a (J (h' (a + 1)))) (a + 1) (J (h' a))), ⟨by rw [show k - (n + 1) = a by omega], swp h' a, _, rfl, rwg_swp H' (by omega), fun i j hij hj hja => ?_⟩, fun F => ?_⟩
      · rw [show k - (n + 1) = a by omega] at hja
        unfold swp
        rw [if_neg hja]
        by_cases hj1 : j = a + 1
        · subst hj1
          rw [if_pos rfl]
          by_cases hia : i = a
          · rw [if_pos hia]; omega
          · rw [if_neg hia, if_neg (by omega)]
            exact hf' i a (by omega) (by omega) (by omega)
        · rw [if_neg hj1]
          by_cases hia : i = a
          · rw [if_pos hia]; exact hf' (a + 1) j (by omega) hj hj1
          · rw [if_neg hia]
            by_cases hi1 : i = a + 1
            · rw [if_pos hi1]; exact hf' a j (by omega) hj hj1
            · rw [if_neg hi1]; exact hf' i j hij hj hj1
      · unfold fX10_fewestAnswers_l22
        rw [if_neg (show ¬ J (a + 1) ≤ 0 by rw [show (0 : Int32) = J 0 from rfl, J_le (by omega) (by omega)]; omega), RM_aI (by omega), wb1, hm1, RM_aI (by omega), wb1, h1.1, h2.1, if_neg (show ¬ J (h' (a + 1)) ≤ J (h' a) by rw [J_le (by omega) (by omega)]; exact hc), wb1, wb1, RM_sI (by omega), wb1, RM_sI (by omega), wb1]
        have hm2 : J (a + 1) + -1 = J a := by rw [← hm1, Int32.sub_eq_add_neg]
        rw [hm2]
  · rintro x m ⟨rfl, h', g', rfl, H', hf'⟩
    refine ⟨RM μ g', ⟨h', g', rfl, H', fun i j hij hj => hf' i j hij hj (by omega)⟩, fun F => ?_⟩
    unfold fX10_fewestAnswers_l22
    rw [if_pos (show J (k - k) ≤ 0 by rw [show (0 : Int32) = J 0 from rfl, J_le (by omega) (by omega)]; omega)]
theorem F_fewestAnswers {μ : zM} {a b n : Nat} {f : Nat → Int32} {w : Nat → Nat} (hw : zm_gR μ 9 a 3 = some b) (hb : μ.1 b = some (.inl (0, 8, .inl f))) (hfw : ∀ k, k < 8 → f k = J (w k) ∧ w k < 100) (hn : n ≤ 7) :
    ∃ g, fX10_fewestAnswers μ a (J n) = some (J (fT (hvy w) n 8 1), RM μ g) := by
  have hcl : zm_cl μ b 8 = some (RM μ f) := by
    unfold zm_cl
    rw [hb]
    rfl
  obtain ⟨m, hzm, h', g', rfl, H', hf'⟩ : ∃ m, zf2 (fX10_fewestAnswers_l13 μ) zfu 1 (RM μ f) = some m ∧ ∃ h' g', m = RM μ g' ∧ rwg w h' g' ∧ ∀ i j, i < j → j ≤ 7 → h' j ≤ h' i := by
    refine zf2_inv 7 (fun i x m => x = J (i + 1) ∧ ∃ h' g', m = RM μ g' ∧ rwg w h' g' ∧ ∀ k j, k < j → j ≤ i → h' j ≤ h' k) _ ?_ ?_ (zfu_lt (by omega)) ⟨rfl, w, f, rfl, ⟨hfw, fun _ => rfl⟩, fun k j h1 h2 => by omega⟩
    · rintro i x m hi ⟨rfl, h', g', rfl, H', hf'⟩ F
      obtain ⟨m', hzm', h2, g2, rfl, H2, hf2⟩ := F_sift (μ := μ) (k := i + 1) (by omega) H' (fun k j h1 h2 h3 => hf' k j h1 (by omega))
      refine ⟨J (i + 1 + 1), RM μ g2, ?_, rfl, h2, g2, rfl, H2, hf2⟩
      unfold fX10_fewestAnswers_l13
      rw [if_neg (show ¬ (8 : Int32) ≤ J (i + 1) by rw [show (8 : Int32) = J 8 from rfl, J_le (by omega) (by omega)]; omega), hzm', wb1]
      show F (J (i + 1) + J 1) _ = _
      rw [J_add]
    · rintro x m ⟨rfl, h', g', rfl, H', hf'⟩ F
      refine ⟨RM μ g', ?_, h', g', rfl, H', hf'⟩
      unfold fX10_fewestAnswers_l13
      rw [if_pos (show (8 : Int32) ≤ J (7 + 1) by decide)]
  have hu := fall_u (a := h') (b := hvy w) (fun k hk => hf' k (k + 1) (by omega) (by omega)) (fun k hk => hvy_d k hk) (fun c => by rw [H'.2 c, hvy_c])
  have hrw : isRw (RM μ g') μ.2.1 (hvy w) := fun k hk => by rw [RM_aI hk, (H'.1 k hk).1, hu k hk]
  have hze := F_fewestBelow hrw (fun k hk => by rw [← hu k hk]; exact (H'.1 k hk).2) n 9 8 1 (by omega) hn (by omega) (by omega)
  refine ⟨g', ?_⟩
  unfold fX10_fewestAnswers
  rw [hw, wb1, hcl, wb1, hzm, wb1]
  unfold fX10_fewestBelow
  rw [show (0 : Int32) = J (8 - 8) from rfl, show (1 : Int32) = J 1 from rfl, hze, wb1]
