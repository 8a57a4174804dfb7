/-! a valley told: the reference -/
theorem R_inJ {k a b : Nat} (hk : k < 2147483648) (ha : a < 1000) (hb : b < 1000) : gX12_in (J k) (J a) (J b) = some (bJ (decide (a ≤ k ∧ k ≤ b))) := by
  rw [R_in]
  congr 2
  rw [decide_eq_decide, J_lt hk (by omega), J_lt (by omega) hk]
  omega
theorem R_inN {x : Int32} {a b : Nat} (hx : x < J 0) (ha : a < 1000) : gX12_in x (J a) (J b) = some (J 0) := by
  rw [R_in, decide_eq_false (fun z => z.1 ((neg_lt hx (by omega)).mpr trivial))]
  rfl
theorem R_valleyT {M M4 : zMS} {x1 : Int32} {v : zV} (hh : gX12_hand (zsI M 0 (J 0)) x1 = some (J 1, M4)) (hm : isMV M4 v) (hV : VOK v) {n : Nat} (hn : n < 2147483648) : gX12_valley M x1 (J n) = some (tlv v n, M4) := by
  have h1 := hV.2.2.1
  have h2 := hV.2.2.2.1
  have hmod : n - n / 10 * 10 = n % 10 := by omega
  have o2 : gX12_of M4 (J 2) = some (J (v 2)) := R_of hm (by omega)
  unfold gX12_valley tlv
  rw [wb1, show (0 : Int32) = J 0 from rfl, hh, wb2, if_neg (by decide)]
  simp (disch := omega) only [wb1, wb2, wb3, wb4, wc1, wc2, zb1_ite, zb2_ite, zb3_ite, zb4_ite, zzc1_ite, zzc2_ite, J_lit, J_n1, J_n2, J_add, J_mul, J_lt, J_le, J_eq, J_eN, N_eJ, J_eN2, J_nn, J_lN, N_lJ, J_leN, N_leJ, NN_l0, NN_eN, bJ_0, bJ_1, bJ_ite, zbz_b, zbz_0, zbz_1, zag_J, zas_J, ite_true, ite_false, if_true, if_false, ite_self, reduceIte, not_true_eq_false, not_false_eq_true, J_o, Nat.reduceEqDiff, Nat.reduceAdd, Nat.reduceMul, Nat.reduceSub, Nat.reduceLT, Nat.reduceLeDiff, Nat.one_ne_zero, J_div, J_sub, hmod, R_inJ, o2, decide_eq_false_iff_not]
  by_cases g1 : n < 10
  · rw [if_pos (show ¬ (10 ≤ n ∧ n ≤ 39) by omega), if_pos (show ¬ (40 ≤ n ∧ n ≤ 69) by omega), if_pos (show ¬ (70 ≤ n ∧ n ≤ 99) by omega)]
    by_cases g0 : n < 3
    · rw [if_neg (show ¬ ¬ (0 ≤ n ∧ n ≤ 2) by omega), if_pos g0, R_of hm (by omega)]; rfl
    · rw [if_pos (show ¬ (0 ≤ n ∧ n ≤ 2) by omega), if_neg g0, if_pos g1]
  rw [if_neg (show ¬ n < 3 by omega), if_neg g1]
  by_cases g2 : n < 40
  · rw [if_neg (show ¬ ¬ (10 ≤ n ∧ n ≤ 39) by omega), if_pos g2]
    by_cases g : n % 10 < 8
    · rw [if_neg (by omega), if_pos g]
      rw [R_of hm (by omega)]; rfl
    · rw [if_pos (by omega), if_neg g]
  rw [if_pos (show ¬ (10 ≤ n ∧ n ≤ 39) by omega), if_neg g2]
  by_cases g3 : n < 70
  · rw [if_neg (show ¬ ¬ (40 ≤ n ∧ n ≤ 69) by omega), if_pos g3, R_isPerson hm hV (by omega), wb1]
    by_cases g : n % 10 < (v 1 : Nat)
    · rw [decide_eq_true g, if_pos g, if_neg (by decide)]
      rw [R_of hm (by omega)]; rfl
    · rw [decide_eq_false g, if_neg g]; try rfl
  rw [if_pos (show ¬ (40 ≤ n ∧ n ≤ 69) by omega), if_neg g3]
  by_cases g4 : n < 100
  · rw [if_neg (show ¬ ¬ (70 ≤ n ∧ n ≤ 99) by omega), if_pos g4]
    by_cases g : n % 10 < (v 2 : Nat)
    · rw [if_neg (by omega), if_pos g]
      rw [R_of hm (by omega)]; rfl
    · rw [if_pos (by omega), if_neg g]
  rw [if_pos (show ¬ (70 ≤ n ∧ n ≤ 99) by omega), if_pos (show ¬ (0 ≤ n ∧ n ≤ 2) by omega), if_neg g4]
theorem R_valleyN {M M4 : zMS} {x1 x : Int32} (hh : gX12_hand (zsI M 0 (J 0)) x1 = some (J 1, M4)) (hx : x < J 0) : gX12_valley M x1 x = some (NN, M4) := by
  unfold gX12_valley
  rw [wb1, show (0 : Int32) = J 0 from rfl, hh, wb2, if_neg (by decide)]
  show zb1 (gX12_in x (J 10) (J 39)) _ = _
  rw [R_inN hx (by omega), wb1, if_pos rfl]
  show zb1 (gX12_in x (J 40) (J 69)) _ = _
  rw [R_inN hx (by omega), wb1, if_pos rfl]
  show zb1 (gX12_in x (J 70) (J 99)) _ = _
  rw [R_inN hx (by omega), wb1, if_pos rfl]
  show zb1 (gX12_in x (J 0) (J 2)) _ = _
  rw [R_inN hx (by omega), wb1, if_pos rfl]
  rfl
/-! a deed told -/
def tld (d : zV) (x y : Int32) : Int32 := if x = NN then (if y = J 0 then J (d 0) else NN2) else if inb (d 0) x = false then NN2 else if y = J 0 then J (d (1 + 3 * x.toNatClampNeg)) else if y = J 1 then J (d (2 + 3 * x.toNatClampNeg)) else if y = J 2 then sec d x.toNatClampNeg else NN2
theorem J_clamp {k : Nat} (hk : k < 2147483648) : (J k).toNatClampNeg = k := by
  unfold J
  rw [Int32.toNatClampNeg_ofNat_of_lt (by omega)]
theorem C_tellD {U : zCS} {a : Nat} {d : zV} (h : isDay U a d) (hD : DOK d) (x y : Int32) : gX2_tell U a x y = some (tld d x y) := by
  have h40 := hD.1
  unfold gX2_tell tld
  rw [h.1]
  by_cases hxn : x = NN
  · rw [if_pos (show x = -1 from hxn), if_pos hxn]
    by_cases hy : y = J 0
    · rw [if_pos (show y = 0 from hy), if_pos hy]; rfl
    · rw [if_neg (show ¬ y = 0 from hy), if_neg hy]; rfl
  rw [if_neg (show ¬ x = -1 from hxn), if_neg hxn]
  obtain ⟨k, hk, rfl⟩ | hx := J_all x
  · rw [inb_J (by omega) hk, J_clamp hk, if_neg (show ¬ J k < 0 by rw [show (0 : Int32) = J 0 from rfl, J_lt hk (by omega)]; omega)]
    by_cases g : k < (d 0 : Nat)
    · have hq := h.2 k g
      rw [if_pos (show J k < J (d 0) by rw [J_lt hk (by omega)]; exact g), decide_eq_true g, if_neg (show ¬ true = false by decide), zag_J (by omega) (by omega), zag_J (by omega) (by omega), zag_J (by omega) (by omega), hq.1, hq.2.1, hq.2.2]
      show (if y = J 0 then _ else if y = J 1 then _ else if y = J 2 then _ else _) = _
      split
      · rfl
      · split
        · rfl
        · split <;> rfl
    · rw [if_neg (show ¬ J k < J (d 0) by rw [J_lt hk (by omega)]; exact g), decide_eq_false g, if_pos rfl]; rfl
  · rw [if_pos (show x < 0 from hx), inb_n hx, if_pos rfl]; rfl
theorem R_deedT {M M4 : zMS} {x1 : Int32} {d : zV} (hh : gX12_hasDay (zsI M 0 (J 0)) x1 = some (J 1, M4)) (hm : isMD M4 d) (hD : DOK d) (x y : Int32) : gX12_deed M x1 x y = some (tld d x y, M4) := by
  have h40 := hD.1
  unfold gX12_deed tld
  rw [wb1, show (0 : Int32) = J 0 from rfl, hh, wb2, if_neg (by decide), R_deeds hm]
  by_cases hxn : x = NN
  · rw [if_pos (show x = -1 from hxn), if_pos hxn]
    by_cases hy : y = J 0
    · rw [if_pos hy, if_pos hy]; rfl
    · rw [if_neg hy, if_neg hy]; rfl
  rw [if_neg (show ¬ x = -1 from hxn), if_neg hxn, wb1, show gX12_in x (J 0) (J (d 0) - 1) = _ from R_in0 (by omega) x, wb1]
  obtain ⟨k, hk, rfl⟩ | hx := J_all x
  · rw [inb_J (by omega) hk, J_clamp hk]
    by_cases g : k < (d 0 : Nat)
    · rw [decide_eq_true g, if_neg (by decide), if_neg (by decide)]
      obtain ⟨j, hj, rfl⟩ | hy := J_all y
      · rw [show gX12_in (J j) (J 0) 2 = _ from R_inJ (b := 2) hj (by omega) (by omega), wb1]
        obtain rfl | rfl | rfl | h3 : j = 0 ∨ j = 1 ∨ j = 2 ∨ 3 ≤ j := by omega
        · rw [R_deed0 hm hD g]; rfl
        · rw [R_deed1 hm hD g]; rfl
        · rw [R_deed2 hm hD g]; rfl
        · rw [decide_eq_false (by omega), if_pos (show bJ false = J 0 from rfl), if_neg (show ¬ J j = J 0 by rw [J_eq hj (by omega)]; omega), if_neg (show ¬ J j = J 1 by rw [J_eq hj (by omega)]; omega), if_neg (show ¬ J j = J 2 by rw [J_eq hj (by omega)]; omega)]; rfl
      · rw [show gX12_in y (J 0) 2 = _ from R_inN (b := 2) hy (by omega), wb1, if_pos rfl]
        simp only [neg_ne hy (show 0 < 2147483648 by omega), neg_ne hy (show 1 < 2147483648 by omega), neg_ne hy (show 2 < 2147483648 by omega), if_false]
        rfl
    · rw [decide_eq_false g, if_pos (show bJ false = J 0 from rfl), if_pos rfl]; rfl
  · rw [inb_n hx, if_pos (show bJ false = J 0 from rfl), if_pos rfl]; rfl
/-! a fact told -/
def tlf (s : zV) (x y : Int32) : Int32 := if x = NN then (if y = J 0 then J (s 0) else NN2) else if inb (s 0) x = false then NN2 else if y = J 0 then J (s (1 + 4 * x.toNatClampNeg)) else if y = J 1 then J (s (2 + 4 * x.toNatClampNeg)) else if y = J 2 then J (s (3 + 4 * x.toNatClampNeg)) else if y = J 3 then J (s (4 + 4 * x.toNatClampNeg)) else NN2
theorem C_tellF {U : zCS} {a : Nat} {s : zV} (h : isSi U a s) (hS : SOK s) (x y : Int32) : gX6_tell U a x y = some (tlf s x y) := by
  have h40 := hS.1
  unfold gX6_tell tlf
  rw [h.1]
  by_cases hxn : x = NN
  · rw [if_pos (show x = -1 from hxn), if_pos hxn]
    by_cases hy : y = J 0
    · rw [if_pos (show y = 0 from hy), if_pos hy]; rfl
    · rw [if_neg (show ¬ y = 0 from hy), if_neg hy]; rfl
  rw [if_neg (show ¬ x = -1 from hxn), if_neg hxn]
  obtain ⟨k, hk, rfl⟩ | hx := J_all x
  · rw [inb_J (by omega) hk, J_clamp hk, if_neg (show ¬ J k < 0 by rw [show (0 : Int32) = J 0 from rfl, J_lt hk (by omega)]; omega)]
    by_cases g : k < (s 0 : Nat)
    · have hq := h.2 k g
      rw [if_pos (show J k < J (s 0) by rw [J_lt hk (by omega)]; exact g), decide_eq_true g, if_neg (show ¬ true = false by decide), zag_J (by omega) (by omega), zag_J (by omega) (by omega), zag_J (by omega) (by omega), zag_J (by omega) (by omega), hq.1, hq.2.1, hq.2.2.1, hq.2.2.2]
      show (if y = J 0 then _ else if y = J 1 then _ else if y = J 2 then _ else if y = J 3 then _ else _) = _
      split
      · rfl
      · split
        · rfl
        · split
          · rfl
          · split <;> rfl
    · rw [if_neg (show ¬ J k < J (s 0) by rw [J_lt hk (by omega)]; exact g), decide_eq_false g, if_pos rfl]; rfl
  · rw [if_pos (show x < 0 from hx), inb_n hx, if_pos rfl]; rfl
theorem R_factT {M M4 : zMS} {x1 : Int32} {s : zV} (hh : gX12_hasSight (zsI M 0 (J 0)) x1 = some (J 1, M4)) (hm : isMS M4 s) (hS : SOK s) (x y : Int32) : gX12_fact M x1 x y = some (tlf s x y, M4) := by
  have h40 := hS.1
  unfold gX12_fact tlf
  rw [wb1, show (0 : Int32) = J 0 from rfl, hh, wb2, if_neg (by decide), R_facts hm]
  by_cases hxn : x = NN
  · rw [if_pos (show x = -1 from hxn), if_pos hxn]
    by_cases hy : y = J 0
    · rw [if_pos hy, if_pos hy]; rfl
    · rw [if_neg hy, if_neg hy]; rfl
  rw [if_neg (show ¬ x = -1 from hxn), if_neg hxn, wb1, show gX12_in x (J 0) (J (s 0) - 1) = _ from R_in0 (by omega) x, wb1]
  obtain ⟨k, hk, rfl⟩ | hx := J_all x
  · rw [inb_J (by omega) hk, J_clamp hk]
    by_cases g : k < (s 0 : Nat)
    · rw [decide_eq_true g, if_neg (by decide), if_neg (by decide)]
      obtain ⟨j, hj, rfl⟩ | hy := J_all y
      · rw [show gX12_in (J j) (J 0) 3 = _ from R_inJ (b := 3) hj (by omega) (by omega), wb1]
        obtain rfl | rfl | rfl | rfl | h3 : j = 0 ∨ j = 1 ∨ j = 2 ∨ j = 3 ∨ 4 ≤ j := by omega
        · rw [R_fact hm hS g (by omega)]; rfl
        · rw [R_fact hm hS g (by omega), show 1 + 4 * k + 1 = 2 + 4 * k by omega]; rfl
        · rw [R_fact hm hS g (by omega), show 1 + 4 * k + 2 = 3 + 4 * k by omega]; rfl
        · rw [R_fact hm hS g (by omega), show 1 + 4 * k + 3 = 4 + 4 * k by omega]; rfl
        · rw [decide_eq_false (by omega), if_pos (show bJ false = J 0 from rfl), if_neg (show ¬ J j = J 0 by rw [J_eq hj (by omega)]; omega), if_neg (show ¬ J j = J 1 by rw [J_eq hj (by omega)]; omega), if_neg (show ¬ J j = J 2 by rw [J_eq hj (by omega)]; omega), if_neg (show ¬ J j = J 3 by rw [J_eq hj (by omega)]; omega)]; rfl
      · rw [show gX12_in y (J 0) 3 = _ from R_inN (b := 3) hy (by omega), wb1, if_pos rfl]
        simp only [neg_ne hy (show 0 < 2147483648 by omega), neg_ne hy (show 1 < 2147483648 by omega), neg_ne hy (show 2 < 2147483648 by omega), neg_ne hy (show 3 < 2147483648 by omega), if_false]
        rfl
    · rw [decide_eq_false g, if_pos (show bJ false = J 0 from rfl), if_pos rfl]; rfl
  · rw [inb_n hx, if_pos (show bJ false = J 0 from rfl), if_pos rfl]; rfl
/-! a lesson told -/
def tll (l : zV) (n : Nat) : Int32 := if n < 2 then J (l n) else if n < 10 then NN else if n < 20 then (if n - 10 < (l 1 : Nat) then J (l (2 + 2 * (n - 10))) else NN) else if n < 30 then (if n - 20 < (l 1 : Nat) then J (l (3 + 2 * (n - 20))) else NN) else NN
theorem C_tellL {U : zCS} {a : Nat} {l : zV} (h : isLe U a l) (hL : LOK l) {n : Nat} (hn : n < 2147483648) : gX3_tell U a (J n) = some (tll l n) := by
  have h10 := hL.2.1
  unfold gX3_tell gX3_tell_b46 tll
  rw [h.1, h.2.1]
  simp (disch := omega) only [wb1, wb2, wb3, wb4, wc1, wc2, zb1_ite, zb2_ite, zb3_ite, zb4_ite, zzc1_ite, zzc2_ite, J_lit, J_n1, J_n2, J_add, J_mul, J_lt, J_le, J_eq, J_eN, N_eJ, J_eN2, J_nn, J_lN, N_lJ, J_leN, N_leJ, NN_l0, NN_eN, bJ_0, bJ_1, bJ_ite, zbz_b, zbz_0, zbz_1, zag_J, zas_J, ite_true, ite_false, if_true, if_false, ite_self, reduceIte, not_true_eq_false, not_false_eq_true, J_o, Nat.reduceEqDiff, Nat.reduceAdd, Nat.reduceMul, Nat.reduceSub, Nat.reduceLT, Nat.reduceLeDiff, Nat.one_ne_zero]
  obtain rfl | rfl | h2 : n = 0 ∨ n = 1 ∨ 2 ≤ n := by omega
  · rfl
  · rfl
  rw [if_neg (show ¬ n = 0 by omega), if_neg (show ¬ n = 1 by omega), if_neg (show ¬ n < 2 by omega)]
  by_cases g1 : n < 10
  · rw [if_pos g1, if_pos g1, if_pos (show n < 20 by omega)]
  rw [if_neg g1, if_neg g1]
  by_cases g2 : n < 20
  · rw [if_pos g2, if_pos g2]
    by_cases g : n - 10 < (l 1 : Nat)
    · rw [if_neg (by omega), if_pos g, show (J n - J 10) = J (n - 10) from J_sub (by omega), zag_J (by omega) (by omega), (h.2.2 (n - 10) g).1]; rfl
    · rw [if_pos (by omega), if_neg g]
  rw [if_pos (show 10 + (l 1 : Nat) ≤ n by omega), if_neg g2, if_neg g2]
  by_cases g : n - 20 < (l 1 : Nat)
  · rw [if_neg (by omega), if_pos g, if_pos (show n < 30 by omega), show (J n - J 20) = J (n - 20) from J_sub (by omega), zag_J (by omega) (by omega), (h.2.2 (n - 20) g).2]; rfl
  · rw [if_pos (by omega), if_neg g, ite_self]
theorem C_tellLn {U : zCS} {a : Nat} {x : Int32} (hx : x < J 0) : gX3_tell U a x = some NN := by
  unfold gX3_tell gX3_tell_b46
  rw [if_neg (show ¬ x = 0 from fun z => (neg_ne hx (k := 0) (by omega)).mp z), if_neg (show ¬ x = 1 from fun z => (neg_ne hx (k := 1) (by omega)).mp z), if_pos (show x < 10 from (neg_lt hx (k := 10) (by omega)).mpr trivial), if_pos (show x < 20 from (neg_lt hx (k := 20) (by omega)).mpr trivial)]
  rfl
