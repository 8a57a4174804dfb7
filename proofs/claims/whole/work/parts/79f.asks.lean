/-! the match: the reference -/
def rW (M : zMS) (ak : Nat → Nat → Bool) (w : Nat → Option Nat) : Prop := ∀ x, x < 6 → M.2.2 51 x = oJ (w x) ∧ M.2.2 52 x = J (bts (ak x) 6)
theorem dist_y {a b : Nat} : dist a b = dist b a := by unfold dist; omega
def tkO (v : zV) (x i : Nat) (o : Option Nat) : Bool := match o with
  | none => true
  | some j => decide (wK v x i < wK v x j)
theorem R_isNearerW {M : zMS} {v : zV} (hm : isMV M v) (hV : VOK v) {x i : Nat} {o : Option Nat} (hx : x < (v 1 : Nat)) (hi : i < (v 1 : Nat)) (ho : ∀ j, o = some j → j < (v 1 : Nat)) : gX12_isNearer M (J x) (J i) (oJ o) = some (bJ (tkO v x i o)) := by
  have h6 := hV.2.2.1
  have d1 : dist (v (33 + i)) (v (33 + x)) < 1000 := by unfold dist; omega
  have a33 : ∀ k, (33 : Int32) + J k = J (33 + k) := fun k => J_add (a := 33) (b := k)
  unfold gX12_isNearer
  rw [a33, a33, R_of hm (by omega), wb1, R_of hm (by omega), wb1, R_apart (by omega) (by omega), wb1, dist_y]
  cases o with
  | none =>
    rw [oJ_n, if_pos (show NN = -1 from rfl), wb1, if_pos (show J (dist (v (33 + i)) (v (33 + x))) < 1000000 by rw [show (1000000 : Int32) = J 1000000 from rfl, J_lt (by omega) (by omega)]; omega)]
    rfl
  | some j =>
    have hj := ho j rfl
    have d2 : dist (v (33 + j)) (v (33 + x)) < 1000 := by unfold dist; omega
    rw [oJ_s, if_neg (J_m1 (by omega)), wb1, a33, R_of hm (by omega), wb1, R_apart (by omega) (by omega), wb1, wb1, dist_y (a := (v (33 + x) : Nat)) (b := (v (33 + j) : Nat))]
    simp (disch := omega) only [wb1, wb2, wb3, wb4, wc1, wc2, zb1_ite, zb2_ite, zb3_ite, zb4_ite, zzc1_ite, zzc2_ite, J_lit, J_n1, J_n2, J_add, J_mul, J_lt, J_le, J_eq, J_eN, N_eJ, J_eN2, J_nn, J_lN, N_lJ, J_leN, N_leJ, NN_l0, NN_eN, bJ_0, bJ_1, bJ_ite, zbz_b, zbz_0, zbz_1, zag_J, zas_J, ite_true, ite_false, if_true, if_false, ite_self, reduceIte, not_true_eq_false, not_false_eq_true, J_o, Nat.reduceEqDiff, Nat.reduceAdd, Nat.reduceMul, Nat.reduceSub, Nat.reduceLT, Nat.reduceLeDiff, Nat.one_ne_zero]
    show _ = some (bJ (decide (wK v x i < wK v x j)))
    unfold wK
    by_cases c1 : dist (v (33 + i)) (v (33 + x)) < dist (v (33 + j)) (v (33 + x))
    · rw [if_pos c1, decide_eq_true (by omega)]; rfl
    · rw [if_neg c1]
      by_cases c2 : dist (v (33 + i)) (v (33 + x)) = dist (v (33 + j)) (v (33 + x))
      · rw [if_pos c2]
        by_cases c3 : j ≤ i
        · rw [if_pos c3, decide_eq_false (by omega)]; rfl
        · rw [if_neg c3, decide_eq_true (by omega)]; rfl
      · rw [if_neg c2, decide_eq_false (by omega)]; rfl
theorem R_hasW {p : Nat → Bool} {i : Nat} (hi : i < 6) : gX12_has (J (bts p 6)) (J i) = some (bJ (p i)) := by
  have hb : ((J (bts p 6) >>> (J i &&& 31)) &&& 1) = bJ (p i) := by
    have := J_bit8 _ (bts_6 (p := p)) i (by omega)
    rw [bts_t, decide_eq_true (show i < 6 by omega), Bool.true_and] at this
    exact this
  unfold gX12_has
  rw [hb]
  cases p i <;> rfl
theorem R_nextFor {M : zMS} {v : zV} (hm : isMV M v) (hV : VOK v) {ak : Nat → Nat → Bool} {w : Nat → Option Nat} (hW : rW M ak w) {x : Nat} (hx : x < (v 1 : Nat)) : gX12_nextFor M (J x) = some (oJ (nrs (wK v x) (unk v ak x) (v 1))) := by
  have h6 := hV.2.2.1
  unfold gX12_nextFor
  have hze := zf2_run (f := gX12_nextFor_l4 M (J x)) (r := some (oJ (nrs (wK v x) (unk v ak x) (v 1)))) (v 1 : Nat) (fun i => oJ (nrs (wK v x) (unk v ak x) i)) J (by
    intro i hi F
    unfold gX12_nextFor_l4
    have hj1 : (J i + 1) = J (i + 1) := J_add (a := i) (b := 1)
    rw [R_p hm, if_neg (show ¬ J (v 1) ≤ J i by rw [J_le (by omega) (by omega)]; omega), show gX12_isKind M (J i) 1 = _ from R_isKind hm hV (k := 1) hi (by omega), wb1, zag_J (by omega) (by omega), wb1, (hW x (by omega)).2, R_hasW (by omega), wb1, hj1]
    have ho := nrs_o (K := wK v x) (P := unk v ak x) i
    rw [R_isNearerW hm hV hx hi (fun j hj => by have := (ho.2 j hj).1; omega), wb1]
    have hn : nrs (wK v x) (unk v ak x) (i + 1) = if unk v ak x i then (match nrs (wK v x) (unk v ak x) i with
      | none => some i
      | some j => if wK v x i < wK v x j then some i else some j) else nrs (wK v x) (unk v ak x) i := rfl
    rw [hn, show unk v ak x i = (knd v 1 i && !ak x i) from rfl]
    cases hk : knd v 1 i with
    | false => rw [if_pos (show bJ false = 0 from rfl), wb1]; rfl
    | true =>
      rw [if_neg (show ¬ bJ true = 0 by decide)]
      cases hak : ak x i with
      | true => rw [if_neg (show ¬ bJ true = 0 by decide), wb1]; rfl
      | false =>
        rw [if_pos (show bJ false = 0 from rfl)]
        simp only [Bool.not_false, Bool.and_true, if_true]
        cases hr : nrs (wK v x) (unk v ak x) i with
        | none => rfl
        | some j =>
          show zb1 (if bJ (decide (wK v x i < wK v x j)) = 0 then some (J j) else some (J i)) _ = F (oJ (if wK v x i < wK v x j then some i else some j)) _
          by_cases hk : wK v x i < wK v x j
          · rw [decide_eq_true hk, if_pos hk]; rfl
          · rw [decide_eq_false hk, if_neg hk]; rfl) (by
    intro F
    unfold gX12_nextFor_l4
    rw [R_p hm, if_pos (show J (v 1) ≤ J (v 1) by rw [J_le (by omega) (by omega)]; omega)]) (zfu_lt (by omega))
  show zb1 (zf2 (gX12_nextFor_l4 M (J x)) zfu NN (J 0)) _ = _
  rw [show oJ (nrs (wK v x) (unk v ak x) 0) = NN from rfl] at hze
  rw [hze, wb1]
