/-! the heaviest words: the reference -/
def wwt (v : zV) (x : Nat) : Nat := (v (19 + x) : Nat)
theorem R_heavy {M : zMS} {v : zV} (hm : isMV M v) {k : Nat} (hk : k < 8) : gX12_heavy M (J k) = some (J (hvy (wwt v) k)) := by
  have a19 : ∀ j, (19 : Int32) + J j = J (19 + j) := fun j => J_add (a := 19) (b := j)
  have inn : ∀ x, x < 8 → zf2 (gX12_heavy_l13 M (J x)) zfu 0 0 = some (J (hrk (wwt v) x)) := by
    intro x hx
    exact zf2_run (f := gX12_heavy_l13 M (J x)) (r := some (J (hrk (wwt v) x))) 8 (fun i => J (cnt (hbf (wwt v) x) i)) J (by
      intro i hi F
      unfold gX12_heavy_l13
      rw [if_neg (show ¬ (8 : Int32) ≤ J i by rw [show (8 : Int32) = J 8 from rfl, J_le (by omega) (by omega)]; omega), a19, a19, R_of hm (by omega), wb1, R_of hm (by omega), wb1, wb1, wb1, cnt_s]
      have hs : (if J (v (19 + x)) < J (v (19 + i)) then some 1 else if J (v (19 + i)) = J (v (19 + x)) then (if J x ≤ J i then some 0 else some 1) else some 0 : Option Int32) = some (J (if hbf (wwt v) x i then 1 else 0)) := by
        simp only [J_lt (show (v (19 + x) : Nat) < 2147483648 by omega) (show (v (19 + i) : Nat) < 2147483648 by omega), J_eq (show (v (19 + i) : Nat) < 2147483648 by omega) (show (v (19 + x) : Nat) < 2147483648 by omega), J_le (show x < 2147483648 by omega) (show i < 2147483648 by omega)]
        by_cases c1 : (v (19 + x) : Nat) < (v (19 + i) : Nat)
        · rw [if_pos c1, if_pos (hbf_p.mpr (.inl c1))]; rfl
        · rw [if_neg c1]
          by_cases c2 : (v (19 + i) : Nat) = (v (19 + x) : Nat)
          · rw [if_pos c2]
            by_cases c3 : x ≤ i
            · rw [if_pos c3, if_neg (fun z => by rcases hbf_p.mp z with z | z; exact c1 z; exact absurd z.2 (by omega))]; rfl
            · rw [if_neg c3, if_pos (hbf_p.mpr (.inr ⟨c2, by omega⟩))]; rfl
          · rw [if_neg c2, if_neg (fun z => by rcases hbf_p.mp z with z | z; exact c1 z; exact c2 z.1)]; rfl
      rw [hs, wb1, J_add]
      show F _ (J i + J 1) = _
      rw [J_add]) (by
      intro F
      unfold gX12_heavy_l13
      rw [if_pos (show (8 : Int32) ≤ J 8 by decide)]
      rfl) (zfu_lt (by omega))
  have hst : ∀ i, i < 8 → ∀ F, gX12_heavy_l2 M (J k) F (J i) = if hrk (wwt v) i = k then some (J (wwt v i)) else F (J (i + 1)) := by
    intro i hi F
    have hr := hrk_lt (g := wwt v) hi
    unfold gX12_heavy_l2
    rw [if_neg (show ¬ (8 : Int32) ≤ J i by rw [show (8 : Int32) = J 8 from rfl, J_le (by omega) (by omega)]; omega), inn i hi, wb1]
    by_cases hq : hrk (wwt v) i = k
    · rw [if_pos hq, hq, if_pos rfl, a19, R_of hm (by omega), wb1]; rfl
    · rw [if_neg hq, if_neg (show ¬ J (hrk (wwt v) i) = J k by rw [J_eq (by omega) (by omega)]; exact hq)]
      show F (J i + J 1) = _
      rw [J_add]
  obtain ⟨x, hx, hxk⟩ := hrk_o (g := wwt v) hk
  have hze : hvy (wwt v) k = wwt v x := by rw [← hxk, hvy_r hx]
  rw [hze]
  unfold gX12_heavy
  exact zf1_run (f := gX12_heavy_l2 M (J k)) (r := some (J (wwt v x))) x J (fun i hi F => by
    rw [hst i (by omega) F, if_neg (fun z => by have := hrk_i (g := wwt v) (by omega) hx (z.trans hxk.symm); omega)]) (fun F => by
    rw [hst x hx F, if_pos hxk]) (zfu_lt (by omega))
theorem R_treeW {M : zMS} {v : zV} (hm : isMV M v) {x : Nat} (hx : x ≤ 7) : ∃ M', gX12_treeOf M (J x) = some (J (fT (hvy (wwt v)) x 8 1), M') ∧ Msame M M' ∧ ∀ j, M'.1 j = M.1 j := by
  rw [tree_same (h := hvy (wwt v)) hvy_d]
  exact R_tree hm hx (fun k hk => hvy_lt hk (fun y _ => by unfold wwt; omega)) (fun m hmv k hk => R_heavy hmv hk)
theorem R_talkT {M M4 : zMS} {x1 : Int32} {v : zV} (hh : gX12_hand (zsI M 0 (J 0)) x1 = some (J 1, M4)) (hm : isMV M4 v) {n : Nat} (h3 : 3 ≤ n) (h7 : n ≤ 7) : ∃ M', gX12_talk M x1 (J n) = some (J (fT (hvy (wwt v)) n 8 1), M') ∧ Msame M4 M' ∧ ∀ j, M'.1 j = M4.1 j := by
  obtain ⟨M', e1, e2, e3⟩ := R_treeW hm (x := n) h7
  refine ⟨M', ?_, e2, e3⟩
  unfold gX12_talk gX12_talk_b30
  rw [wb1, show (0 : Int32) = J 0 from rfl, hh, wb2, if_neg (by decide), if_neg (J_m1 (by omega)), if_neg (J_m1 (by omega)), show gX12_in (J n) 3 7 = _ from R_inJ (a := 3) (b := 7) (by omega) (by omega) (by omega), wb1, decide_eq_true ⟨h3, h7⟩, if_neg (by decide), wb1, e1, wb2]
theorem R_talkN {M M4 : zMS} {x1 : Int32} {v : zV} (hh : gX12_hand (zsI M 0 (J 0)) x1 = some (J 1, M4)) (hm : isMV M4 v) : ∃ M', gX12_talk M x1 NN = some (J (fT (hvy (wwt v)) 7 8 1), M') ∧ Msame M4 M' ∧ ∀ j, M'.1 j = M4.1 j := by
  obtain ⟨M', e1, e2, e3⟩ := R_treeW hm (x := 7) (by omega)
  refine ⟨M', ?_, e2, e3⟩
  unfold gX12_talk gX12_talk_b30
  rw [wb1, show (0 : Int32) = J 0 from rfl, hh, wb2, if_neg (by decide), if_pos (show NN = -1 from rfl), if_pos (show NN = -1 from rfl), wb1, show gX12_treeOf M4 7 = _ from e1, wb2]
