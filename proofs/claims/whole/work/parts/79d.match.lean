/-! the match: one asks (the class) -/
theorem C_ask {U : zCS} {va e : Nat} {v : zV} (h : isVal U va v) (hV : VOK v) (hae : ∀ j, j ≤ 10 → ¬ (e ≤ va + j ∧ va + j ≤ e + 3)) {ak : Nat → Nat → Bool} {w : Nat → Option Nat} (hW : cW U e ak w) (hI : wI (v 1) (knd v 0) (knd v 1) (wK v) ak w) {a b : Nat} (hs : wS (v 1) (knd v 0) (knd v 1) (wK v) ak w a b) : ∃ U', gX0_ask U e va (J a) (J b) = some U' ∧ Ufr U U' (fun q => e ≤ q ∧ q ≤ e + 3) ∧ cW U' e (ak1 ak a b) (w1 (wK v) w a b) := by
  have h6 := hV.2.2.1
  obtain ⟨ha, pa, wa, hb, qb, nk, hn⟩ := hs
  have hd : ∀ x, knd v 0 x = true → knd v 1 x = true → False := fun x p q => by
    have p := of_decide_eq_true p
    have q := of_decide_eq_true q
    omega
  have hab : a ≠ b := fun z => hd a pa (z ▸ qb)
  obtain ⟨U5, hU5⟩ : ∃ U5, U5 = csA U (e + 3) (upd (U.2.1 (e + 3)) a (J (bts (ak1 ak a b a) 6))) := ⟨_, rfl⟩
  have f5 : Ufr U U5 (fun q => e ≤ q ∧ q ≤ e + 3) := by rw [hU5]; exact Ufr_A (by omega)
  have h5 := isVal_F f5 hae h
  have r2 : U5.2.1 (e + 2) = U.2.1 (e + 2) := by rw [hU5]; exact csA_o2 (by omega)
  have r3 : ∀ x, x < 6 → U5.2.1 (e + 3) x = J (bts (ak1 ak a b x) 6) := fun x hx => by
    rw [hU5, csA_1]
    by_cases hxa : x = a
    · rw [hxa, upd_1]
    · rw [upd_o hxa, ak1_o hxa]; exact (hW x hx).2
  have pre : gX0_ask U e va (J a) (J b) = if oJ (w b) = -1 then gX0_ask_b44 (oJ (w b)) U5 e (J b) (J a) else zb1 (gX0_isNearer U5 va (J a) (oJ (w b)) (J b)) fun v27 => if v27 = 0 then some U5 else gX0_ask_b44 (oJ (w b)) U5 e (J b) (J a) := by
    unfold gX0_ask
    have hsh : ((1 : Int32) <<< (J b &&& 31)) = J (2 ^ b) := J_shl b (by omega)
    rw [if_neg (J_m1 (by omega)), zag_J (by omega) (by omega), wb1, (hW a (by omega)).2, hsh, J_or, bts_set (by omega), zas_J (by omega) (by omega), wb1, wb1, ← hU5, zag_J (by omega) (by omega), wb1, r2, (hW b (by omega)).1]
  -- the pair is made
  have put : ∀ U6 : zCS, Ufr U U6 (fun q => e ≤ q ∧ q ≤ e + 3) → (∀ x, x < 6 → U6.2.1 (e + 3) x = J (bts (ak1 ak a b x) 6)) → (∀ x, x < 6 → x ≠ a → x ≠ b → U6.2.1 (e + 2) x = oJ (if w b = some x then none else w x)) → tak (wK v) w a b = true → ∃ U', (zb1 (zas 6 (U6.2.1 (e + 2)) (J b) (J a)) fun f15 => zb1 (some (csA U6 (e + 2) f15)) fun U15 => zb1 (zas 6 (U15.2.1 (e + 2)) (J a) (J b)) fun f19 => zb1 (some (csA U15 (e + 2) f19)) fun U19 => some U19) = some U' ∧ Ufr U U' (fun q => e ≤ q ∧ q ≤ e + 3) ∧ cW U' e (ak1 ak a b) (w1 (wK v) w a b) := by
    intro U6 f6 q3 q2 ht
    refine ⟨csA (csA U6 (e + 2) (upd (U6.2.1 (e + 2)) b (J a))) (e + 2) (upd (upd (U6.2.1 (e + 2)) b (J a)) a (J b)), ?_, Ufr_t f6 (Ufr_t (Ufr_A (by omega)) (Ufr_A (by omega))), fun x hx => ⟨?_, ?_⟩⟩
    · rw [zas_J (by omega) (by omega), wb1, wb1, csA_1, zas_J (by omega) (by omega), wb1, wb1]
    · rw [csA_1]
      unfold w1
      rw [if_pos ht]
      by_cases hxa : x = a
      · rw [if_pos hxa, hxa, upd_1]; rfl
      · rw [if_neg hxa, upd_o hxa]
        by_cases hxb : x = b
        · rw [if_pos hxb, hxb, upd_1]; rfl
        · rw [if_neg hxb, upd_o hxb]
          exact q2 x hx hxa hxb
    · rw [csA_o2 (by omega), csA_o2 (by omega)]
      exact q3 x hx
  rw [pre]
  cases hw : w b with
  | none =>
    rw [oJ_n, if_pos (show NN = -1 from rfl)]
    unfold gX0_ask_b44
    rw [if_pos (show NN = -1 from rfl), wc1]
    exact put U5 f5 r3 (fun x hx _ _ => by rw [r2, hw, if_neg (by simp)]; exact (hW x hx).1) (by unfold tak; rw [hw])
  | some g =>
    have g2 := hI.2.1 b g hw
    have gk := w_ask hI hd hw qb
    have hg := (hI.1 g b gk).1
    have hga : g ≠ a := fun z => by rw [z, wa] at g2; cases g2.1
    have hgb : g ≠ b := fun z => hd b (z ▸ (hI.1 g b gk).2.2.1) qb
    rw [oJ_s, if_neg (J_m1 (by omega)), C_isNearerW h5 hV hb ha hg, wb1]
    by_cases hk : wK v b a < wK v b g
    · rw [decide_eq_true hk, if_neg (show ¬ bJ true = 0 by decide)]
      unfold gX0_ask_b44
      rw [if_neg (J_m1 (by omega)), zas_J (by omega) (by omega), wb1, wb1, wc1]
      refine put (csA U5 (e + 2) (upd (U5.2.1 (e + 2)) g (-1))) (Ufr_t f5 (Ufr_A (by omega))) (fun x hx => by rw [csA_o2 (by omega)]; exact r3 x hx) (fun x hx _ _ => ?_) (by unfold tak; rw [hw]; exact decide_eq_true hk)
      rw [csA_1, hw]
      by_cases hxg : x = g
      · rw [hxg, upd_1, if_pos rfl]; rfl
      · rw [upd_o hxg, if_neg (fun z => hxg (Option.some.inj z).symm), r2]; exact (hW x hx).1
    · rw [decide_eq_false hk, if_pos (show bJ false = 0 from rfl)]
      refine ⟨U5, rfl, f5, fun x hx => ⟨?_, r3 x hx⟩⟩
      have ht : tak (wK v) w a b = false := by unfold tak; rw [hw]; exact decide_eq_false hk
      rw [r2, (hW x hx).1]
      unfold w1
      rw [ht]
      simp
