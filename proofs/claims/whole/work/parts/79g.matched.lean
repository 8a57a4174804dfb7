/-! the match: the reference's asking, and its rounds -/
theorem R_asks1 {M : zMS} {v : zV} (hm : isMV M v) (hV : VOK v) {ak : Nat → Nat → Bool} {w : Nat → Option Nat} (hW : rW M ak w) (hI : wI (v 1) (knd v 0) (knd v 1) (wK v) ak w) {a b : Nat} (ha : a < (v 1 : Nat)) (pa : knd v 0 a = true) (wa : w a = none) (hb0 : nrs (wK v a) (unk v ak a) (v 1) = some b) : ∃ M', gX12_asksOn M (J a) = some (J 1, M') ∧ isMV M' v ∧ Msame M M' ∧ (∀ j, M'.1 j = M.1 j) ∧ rW M' (ak1 ak a b) (w1 (wK v) w a b) := by
  have h6 := hV.2.2.1
  obtain ⟨-, -, -, hb, qb, nk, hn⟩ := nrs_S (w := w) ha pa wa hb0
  have hab : a ≠ b := fun z => knd_d a pa (z ▸ qb)
  obtain ⟨M5, hM5⟩ : ∃ M5, M5 = zsA M 52 (upd (M.2.2 52) a (J (bts (ak1 ak a b a) 6))) := ⟨_, rfl⟩
  have v5 : isMV M5 v := by rw [hM5]; exact isMV_A (by omega) hm
  have s5 : Msame M M5 := by rw [hM5]; exact Msame_A (by omega)
  have j5 : ∀ j, M5.1 j = M.1 j := fun j => by rw [hM5]; rfl
  have r2 : M5.2.2 51 = M.2.2 51 := by rw [hM5]; exact zsA_o (by omega)
  have r3 : ∀ x, x < 6 → M5.2.2 52 x = J (bts (ak1 ak a b x) 6) := fun x hx => by
    rw [hM5, zsA_1]
    by_cases hxa : x = a
    · rw [hxa, upd_1]
    · rw [upd_o hxa, ak1_o hxa]; exact (hW x hx).2
  have pre : gX12_asksOn M (J a) = zc1 (if oJ (w b) = -1 then gX12_asksOn_b64 M5 (J b) (J a) else zb1 (gX12_isNearer M5 (J b) (J a) (oJ (w b))) fun v47 => if v47 = 0 then some M5 else gX12_asksOn_b64 M5 (J b) (J a)) fun m17 => some (J 1, m17) := by
    unfold gX12_asksOn
    have hsh : ((1 : Int32) <<< (J b &&& 31)) = J (2 ^ b) := J_shl b (by omega)
    rw [zag_J (by omega) (by omega), wb1, (hW a (by omega)).1, wa, oJ_n, if_pos (show NN = -1 from rfl), R_nextFor hm hV hW ha, wb1, hb0, oJ_s, wb1, if_neg (J_m1 (by omega)), zag_J (by omega) (by omega), wb1, (hW a (by omega)).2, hsh, J_or, bts_set (by omega), zas_J (by omega) (by omega), wb1, wb1, ← hM5, zag_J (by omega) (by omega), wb1, wb1, r2, (hW b (by omega)).1]
    rfl
  have put : ∀ M6 : zMS, isMV M6 v → Msame M M6 → (∀ j, M6.1 j = M.1 j) → (∀ x, x < 6 → M6.2.2 52 x = J (bts (ak1 ak a b x) 6)) → (∀ x, x < 6 → x ≠ a → x ≠ b → M6.2.2 51 x = oJ (if w b = some x then none else w x)) → tak (wK v) w a b = true → ∃ M', (zb1 (zas 6 (M6.2.2 51) (J b) (J a)) fun f15 => zb1 (some (zsA M6 51 f15)) fun U15 => zb1 (zas 6 (U15.2.2 51) (J a) (J b)) fun f19 => zb1 (some (zsA U15 51 f19)) fun U19 => some U19) = some M' ∧ isMV M' v ∧ Msame M M' ∧ (∀ j, M'.1 j = M.1 j) ∧ rW M' (ak1 ak a b) (w1 (wK v) w a b) := by
    intro M6 v6 s6 j6 q3 q2 ht
    refine ⟨zsA (zsA M6 51 (upd (M6.2.2 51) b (J a))) 51 (upd (upd (M6.2.2 51) b (J a)) a (J b)), ?_, isMV_A (by omega) (isMV_A (by omega) v6), Msame_t s6 (Msame_t (Msame_A (by omega)) (Msame_A (by omega))), j6, fun x hx => ⟨?_, ?_⟩⟩
    · rw [zas_J (by omega) (by omega), wb1, wb1, zsA_1, zas_J (by omega) (by omega), wb1, wb1]
    · rw [zsA_1]
      unfold w1
      rw [if_pos ht]
      by_cases hxa : x = a
      · rw [if_pos hxa, hxa, upd_1]; rfl
      · rw [if_neg hxa, upd_o hxa]
        by_cases hxb : x = b
        · rw [if_pos hxb, hxb, upd_1]; rfl
        · rw [if_neg hxb, upd_o hxb]
          exact q2 x hx hxa hxb
    · rw [zsA_o (by omega), zsA_o (by omega)]
      exact q3 x hx
  rw [pre]
  cases hw : w b with
  | none =>
    rw [oJ_n, if_pos (show NN = -1 from rfl)]
    unfold gX12_asksOn_b64
    rw [zag_J (by omega) (by omega), wb1, r2, (hW b (by omega)).1, hw, oJ_n, if_pos (show NN = -1 from rfl), wc1]
    obtain ⟨M', e1, e2⟩ := put M5 v5 s5 j5 r3 (fun x hx _ _ => by rw [r2, hw, if_neg (by simp)]; exact (hW x hx).1) (by unfold tak; rw [hw])
    exact ⟨M', by rw [e1, wc1], e2⟩
  | some g =>
    have g2 := hI.2.1 b g hw
    have gk := w_ask hI knd_d hw qb
    have hg := (hI.1 g b gk).1
    have nO : gX12_isNearer M5 (J b) (J a) (J g) = some (bJ (decide (wK v b a < wK v b g))) := R_isNearerW (o := some g) v5 hV hb ha (fun j hj => by cases hj; exact hg)
    rw [oJ_s, if_neg (J_m1 (by omega)), nO, wb1]
    by_cases hk : wK v b a < wK v b g
    · rw [decide_eq_true hk, if_neg (show ¬ bJ true = 0 by decide)]
      unfold gX12_asksOn_b64
      rw [zag_J (by omega) (by omega), wb1, r2, (hW b (by omega)).1, hw, oJ_s, if_neg (J_m1 (by omega)), wb1, zas_J (by omega) (by omega), wb1, wb1, wc1]
      obtain ⟨M', e1, e2⟩ := put (zsA M5 51 (upd (M.2.2 51) g (-1))) (isMV_A (by omega) v5) (Msame_t s5 (Msame_A (by omega))) j5 (fun x hx => by rw [zsA_o (by omega)]; exact r3 x hx) (fun x hx _ _ => by
        rw [zsA_1, hw]
        by_cases hxg : x = g
        · rw [hxg, upd_1, if_pos rfl]; rfl
        · rw [upd_o hxg, if_neg (fun z => hxg (Option.some.inj z).symm)]; exact (hW x hx).1) (by unfold tak; rw [hw]; exact decide_eq_true hk)
      exact ⟨M', by rw [e1, wc1], e2⟩
    · rw [decide_eq_false hk, if_pos (show bJ false = 0 from rfl), wc1]
      refine ⟨M5, rfl, v5, s5, j5, fun x hx => ⟨?_, r3 x hx⟩⟩
      have ht : tak (wK v) w a b = false := by unfold tak; rw [hw]; exact decide_eq_false hk
      rw [r2, (hW x hx).1]
      unfold w1
      rw [ht]
      simp
theorem R_asks0 {M : zMS} {v : zV} (hm : isMV M v) (hV : VOK v) {ak : Nat → Nat → Bool} {w : Nat → Option Nat} (hW : rW M ak w) (hI : wI (v 1) (knd v 0) (knd v 1) (wK v) ak w) {a : Nat} (ha : a < (v 1 : Nat)) (h : w a = none → nrs (wK v a) (unk v ak a) (v 1) = none) : gX12_asksOn M (J a) = some (J 0, M) := by
  have h6 := hV.2.2.1
  unfold gX12_asksOn
  rw [zag_J (by omega) (by omega), wb1, (hW a (by omega)).1]
  cases hw : w a with
  | none => rw [oJ_n, if_pos (show NN = -1 from rfl), R_nextFor hm hV hW ha, wb1, h hw, oJ_n, wb1, if_pos (show NN = -1 from rfl)]; rfl
  | some y =>
    have := w_rng hI hw
    rw [oJ_s, if_neg (J_m1 (by omega)), wb1, if_pos rfl]; rfl
