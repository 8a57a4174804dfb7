/-! the reference's token -/
def Mtk (M M' : zMS) : Prop := (∀ k, k ≠ 10 → k ≠ 12 → k ≠ 13 → k ≠ 14 → M'.1 k = M.1 k) ∧ M'.2.2 = M.2.2
theorem Mtk_r {M : zMS} : Mtk M M := ⟨fun _ _ _ _ _ => rfl, rfl⟩
theorem Mtk_t {a b c : zMS} (h1 : Mtk a b) (h2 : Mtk b c) : Mtk a c := ⟨fun k x1 x2 x3 x4 => (h2.1 k x1 x2 x3 x4).trans (h1.1 k x1 x2 x3 x4), h2.2.trans h1.2⟩
theorem Mtk_I {M : zMS} {k : Nat} {x : Int32} (h : k = 10 ∨ k = 12 ∨ k = 13 ∨ k = 14) : Mtk M (zsI M k x) := ⟨fun j x1 x2 x3 x4 => zsI_o (by omega), rfl⟩
theorem Mtk_L {M : zMS} {k : Nat} {x : Int64} : Mtk M (zsL M k x) := ⟨fun _ _ _ _ _ => rfl, rfl⟩
theorem zsL_1 {M : zMS} {k : Nat} {x : Int64} : (zsL M k x).2.1 k = x := if_pos rfl
theorem zsL_i {M : zMS} {k : Nat} {x : Int64} : (zsL M k x).1 = M.1 := rfl
theorem zsI_l {M : zMS} {k : Nat} {x : Int32} : (zsI M k x).2.1 = M.2.1 := rfl
/-- the reference's tape -/
def tRow (M : zMS) (t : Nat → Nat) : Prop := ∀ k, k < 600 → M.2.2 1 k &&& 255 = J (t k) ∧ t k < 256
def seeV (t : Nat → Nat) (n j : Nat) : Int32 := if j < n then J (t j) else NN
theorem R_see {M : zMS} {n j : Nat} {t : Nat → Nat} (ht : tRow M t) (hn : n ≤ 600) (h11 : M.1 11 = J n) (hj : M.1 10 = J j) (hjn : j ≤ n) : gX12_see M = some (seeV t n j) := by
  unfold gX12_see seeV
  rw [h11, hj]
  by_cases c : n ≤ j
  · rw [if_pos ((J_le (by omega) (by omega)).mpr c), wb1, if_neg (by omega)]; rfl
  · rw [if_neg (fun z => c ((J_le (by omega) (by omega)).mp z)), zag_J (by omega) (by omega), wb1, (ht j (by omega)).1, wb1, if_pos (by omega)]
theorem R_seeIn {t : Nat → Nat} {n j a b : Nat} (hb : t j < 256) (ha : a < 1000) (hbb : b < 1000) : gX12_in (seeV t n j) (J a) (J b) = some (bJ (decide (j < n) && decide (a ≤ t j ∧ t j ≤ b))) := by
  rw [R_in]
  unfold seeV
  by_cases c : j < n
  · rw [if_pos c, decide_eq_true c, Bool.true_and]
    refine congrArg (fun z => some (bJ z)) (decide_eq_decide.mpr ?_)
    rw [J_lt (by omega) (by omega), J_lt (by omega) (by omega)]
    omega
  · rw [if_neg c, decide_eq_false c, Bool.false_and]
    congr 2
    exact decide_eq_false (fun z => z.1 (by rw [N_lJ (by omega)]; trivial))
theorem R_seeD {t : Nat → Nat} {n j : Nat} (hb : t j < 256) : gX12_in (seeV t n j) 48 57 = some (bJ (decide (j < n) && isDg (t j))) := R_seeIn (a := 48) (b := 57) hb (by omega) (by omega)
theorem R_seeL {t : Nat → Nat} {n j : Nat} (hb : t j < 256) : gX12_in (seeV t n j) 97 122 = some (bJ (decide (j < n) && isLt (t j))) := R_seeIn (a := 97) (b := 122) hb (by omega) (by omega)
def kmp (k : Nat) : Nat := match k with
  | 0 => 0
  | 1 => 2
  | 2 => 3
  | 3 => 4
  | _ => 1
def enc (t : Nat → Nat) (s : Nat) : Nat → Nat
  | 0 => 0
  | d + 1 => 256 * enc t s d + t (s + d)
def wrd (t : Nat → Nat) (s e : Nat) : Int64 := if e - s ≤ 8 then Jl (enc t s (e - s)) else 0
theorem Jl_shl {x b : Nat} (hb : b < 256) : (Jl x <<< ((8 : Int32).toInt64 &&& 63)) ||| Jl b = Jl (256 * x + b) := by
  have h8 : ((8 : Int32).toInt64 &&& 63) = 8 := by decide
  rw [h8]
  unfold Jl
  have h1 : 256 * x + b = (x <<< 8) ||| b := by
    rw [← Nat.shiftLeft_add_eq_or_of_lt (by omega : b < 2 ^ 8), Nat.shiftLeft_eq]; omega
  rw [h1]
  refine Int64.toBitVec_inj.1 ?_
  rw [Int64.toBitVec_or, Int64.toBitVec_shiftLeft, Int64.toBitVec_ofNat', Int64.toBitVec_ofNat', Int64.toBitVec_ofNat', BitVec.ofNat_or]
  congr 1
  have : (8 : Int64).toBitVec.smod 64 = 8#64 := by decide
  rw [this]
  refine BitVec.eq_of_toNat_eq ?_
  simp [Nat.shiftLeft_eq, Nat.mod_mul_mod]
theorem nmb_b {t : Nat → Nat} {s : Nat} : ∀ d, (∀ j, j < d → t (s + j) ≤ 57) → nmb t s d < 10 ^ d
  | 0, _ => by show 0 < 1; omega
  | d + 1, h => by
    have h1 := nmb_b d (fun j hj => h j (by omega))
    have h2 := h d (by omega)
    show 10 * nmb t s d + (t (s + d) - 48) < 10 ^ (d + 1)
    rw [Nat.pow_succ]; omega
theorem R_token {M : zMS} {n i : Nat} {t : Nat → Nat} (ht : tRow M t) (hn : n ≤ 600) (hi : i ≤ n) (h11 : M.1 11 = J n) (h10 : M.1 10 = J i) :
    ∃ M', gX12_token M = some M' ∧ Mtk M M' ∧ M'.1 12 = J (Sk t n i) ∧ M'.1 13 = J (kmp (Kk t n i)) ∧ M'.1 10 = J (Ek t n i) ∧ (Kk t n i = 1 → M'.2.1 15 = wrd t (Sk t n i) (Ek t n i)) ∧ (Kk t n i = 2 → M'.1 14 = J (Vk t n i)) := by
  have hsk := Sk_p (t := t) hi
  have hEK := Ek_p (t := t) hi
  obtain ⟨p1, p2, p3, p4⟩ := eRun_p (fun j => isBk (t j)) n i
  obtain ⟨s, hs⟩ : ∃ s, s = Sk t n i := ⟨_, rfl⟩
  rw [show eRun (fun j => isBk (t j)) n i = s from hs.symm] at p1 p2 p3 p4
  rw [← hs] at hsk hEK
  obtain ⟨m4, hm4, f4, g4⟩ := zf1_inv (f := gX12_token_l0) (s - i) (fun j m => Mtk M m ∧ m.1 10 = J (i + j)) (fun m => Mtk M m ∧ m.1 10 = J s) (by
    rintro j m hj ⟨f0, g0⟩ F
    have b1 := isBk_t.mp (p2 (i + j) (by omega) (by omega)).2
    have b2 := (p2 (i + j) (by omega) (by omega)).1
    have hsee := R_see (t := t) (j := i + j) (fun k hk => by rw [f0.2]; exact ht k hk) hn (by rw [f0.1 11 (by omega) (by omega) (by omega) (by omega)]; exact h11) g0 (by omega)
    have hbb : gX12_token_b18 m F = F (zsI m 10 (J (i + (j + 1)))) := by
      unfold gX12_token_b18
      rw [wb1, g0]
      show F (zsI m 10 (J (i + j) + J 1)) = _
      rw [J_add]; rfl
    refine ⟨zsI m 10 (J (i + (j + 1))), ?_, Mtk_t f0 (Mtk_I (by omega)), zsI_1⟩
    unfold gX12_token_l0
    rw [hsee, wb1]
    unfold seeV
    rw [if_pos b2]
    rcases b1 with b1 | b1
    · rw [b1, if_pos (show J 10 = 10 from rfl), hbb]
    · rw [b1, if_neg (show ¬ J 32 = 10 by decide), wb1, if_pos (show J 32 = 32 from rfl), hbb]) (by
    rintro m ⟨f0, g0⟩ F
    rw [show i + (s - i) = s by omega] at g0
    have hsee := R_see (t := t) (j := s) (fun k hk => by rw [f0.2]; exact ht k hk) hn (by rw [f0.1 11 (by omega) (by omega) (by omega) (by omega)]; exact h11) g0 (by omega)
    refine ⟨m, ?_, f0, g0⟩
    unfold gX12_token_l0
    rw [hsee, wb1]
    unfold seeV
    by_cases c : s < n
    · have hb : ¬ (t s = 10 ∨ t s = 32) := fun z => p3 ⟨c, isBk_t.mpr z⟩
      have hlt := (ht s (by omega)).2
      rw [if_pos c, if_neg (show ¬ J (t s) = 10 by rw [show (10 : Int32) = J 10 from rfl, J_eq (by omega) (by omega)]; omega), wb1, if_neg (show ¬ J (t s) = 32 by rw [show (32 : Int32) = J 32 from rfl, J_eq (by omega) (by omega)]; omega)]
    · rw [if_neg c, if_neg (show ¬ NN = 10 by decide), wb1, if_neg (show ¬ NN = 32 by decide)]) (zfu_lt (by omega)) (x0 := M) ⟨Mtk_r, h10⟩
  unfold gX12_token
  rw [hm4, wb1, wb1, g4]
  obtain ⟨m18, hm18⟩ : ∃ m, m = zsI m4 12 (J s) := ⟨_, rfl⟩
  rw [← hm18]
  have f18 : Mtk M m18 := by rw [hm18]; exact Mtk_t f4 (Mtk_I (by omega))
  have a18 : m18.1 10 = J s := by rw [hm18, zsI_o (by omega)]; exact g4
  have b18 : m18.1 12 = J s := by rw [hm18]; exact zsI_1
  have hsee := R_see (t := t) (j := s) (fun k hk => by rw [f18.2]; exact ht k hk) hn (by rw [f18.1 11 (by omega) (by omega) (by omega) (by omega)]; exact h11) a18 (by omega)
  rw [hsee, wb1, wb1]
  obtain ⟨m22, hm22⟩ : ∃ m, m = zsL m18 15 0 := ⟨_, rfl⟩
  rw [← hm22]
  have f22 : Mtk M m22 := by rw [hm22]; exact Mtk_t f18 Mtk_L
  have a22 : m22.1 10 = J s := by rw [hm22]; exact a18
  have b22 : m22.1 12 = J s := by rw [hm22]; exact b18
  have c22 : m22.2.1 15 = Jl 0 := by rw [hm22]; exact zsL_1
  by_cases c1 : n ≤ s
  · rw [show seeV t n s = NN from if_neg (by omega), if_neg (show ¬ (0 : Int32) ≤ NN by decide), wb1, wc1]
    have hk : Kk t n i = 0 := hEK.2.2.2.mpr (by omega)
    refine ⟨_, rfl, Mtk_t f22 (Mtk_I (by omega)), ?_, ?_, ?_, fun z => by omega, fun z => by omega⟩
    · rw [zsI_o (by omega), b22, hs]
    · rw [zsI_1, hk]; rfl
    · rw [zsI_o (by omega), a22]
      congr 1; omega
  · have hlt := (ht s (by omega)).2
    have hk0 : ∀ q, q ≤ 600 → tRow M t := fun _ _ => ht
    rw [if_pos (show (0 : Int32) ≤ seeV t n s by rw [show seeV t n s = J (t s) from if_pos (by omega), show (0 : Int32) = J 0 from rfl, J_le (by omega) (by omega)]; omega), R_seeL hlt, wb1, decide_eq_true (show s < n by omega), Bool.true_and]
    have hkE : Ek t n i = if isLt (t s) = true then eRun (fun j => isLt (t j)) n s else if isDg (t s) = true then eRun (fun j => isDg (t j)) n s else s + 1 := by
      unfold Ek; rw [← hs, if_neg c1]
    have hkK : Kk t n i = if isLt (t s) = true then 1 else if isDg (t s) = true then (if Ek t n i - s ≤ 2 then 2 else 4) else if t s = 59 then 3 else 4 := by
      unfold Kk; rw [← hs, if_neg c1]
    by_cases c2 : isLt (t s) = true
    · rw [if_pos c2] at hkE hkK
      rw [if_neg (show ¬ bJ (isLt (t s)) = 0 by rw [c2]; decide)]
      obtain ⟨q1, q2, q3, q4⟩ := eRun_p (fun j => isLt (t j)) n s
      rw [← hkE] at q1 q2 q3 q4
      obtain ⟨e, he⟩ : ∃ e, e = Ek t n i := ⟨_, rfl⟩
      rw [← he] at q1 q2 q3 q4 hEK ⊢
      have q5 := q4 (by omega)
      obtain ⟨⟨x2, m75⟩, hr, hx2, f75, a75, b75, c75⟩ := zf2_inv (f := gX12_token_l74) (e - s) (fun c x m => x = J c ∧ Mtk M m ∧ m.1 10 = J (s + c) ∧ m.1 12 = J s ∧ m.2.1 15 = Jl (enc t s c)) (fun r => r.1 = J (e - s) ∧ Mtk M r.2 ∧ r.2.1 10 = J e ∧ r.2.1 12 = J s ∧ r.2.2.1 15 = Jl (enc t s (e - s))) (by
        rintro c x m hc ⟨rfl, f0, g0, g1, g2⟩ F
        have b2 := q2 (s + c) (by omega) (by omega)
        have hlt2 := (ht (s + c) (by omega)).2
        have hsee2 := R_see (t := t) (j := s + c) (fun k hk => by rw [f0.2]; exact ht k hk) hn (by rw [f0.1 11 (by omega) (by omega) (by omega) (by omega)]; exact h11) g0 (by omega)
        refine ⟨J (c + 1), zsI (zsL m 15 (Jl (enc t s (c + 1)))) 10 (J (s + (c + 1))), ?_, rfl, Mtk_t f0 (Mtk_t Mtk_L (Mtk_I (by omega))), zsI_1, ?_, ?_⟩
        · unfold gX12_token_l74
          rw [hsee2, wb1, R_seeL hlt2, wb1, decide_eq_true b2.1, b2.2, if_neg (show ¬ bJ (true && true) = 0 by decide), wb1, wb1, wb1, show seeV t n (s + c) = J (t (s + c)) from if_pos b2.1, J_l (by omega), g2, Jl_shl hlt2]
          show F (J c + J 1) (zsI _ 10 (m.1 10 + J 1)) = _
          rw [J_add, g0, J_add]
          rfl
        · rw [zsI_o (by omega)]; exact g1
        · exact zsL_1) (by
        rintro x m ⟨rfl, f0, g0, g1, g2⟩ F
        rw [show s + (e - s) = e by omega] at g0
        have hsee2 := R_see (t := t) (j := e) (fun k hk => by rw [f0.2]; exact ht k hk) hn (by rw [f0.1 11 (by omega) (by omega) (by omega) (by omega)]; exact h11) g0 (by omega)
        refine ⟨(J (e - s), m), ?_, rfl, f0, g0, g1, g2⟩
        unfold gX12_token_l74
        rw [hsee2, wb1]
        by_cases c : e < n
        · have hbx : isLt (t e) = false := by cases h : isLt (t e) with | true => exact absurd ⟨c, h⟩ q3 | false => rfl
          rw [R_seeL (ht e (by omega)).2, wb1, hbx, Bool.and_false, if_pos (show bJ false = 0 from rfl)]
        · rw [show seeV t n e = seeV t n n by unfold seeV; rw [if_neg c, if_neg (by omega)], show seeV t n n = NN from if_neg (by omega), show gX12_in NN 97 122 = some (bJ false) by rw [R_in]; congr 2, wb1, if_pos (show bJ false = 0 from rfl)]) (zfu_lt (by omega)) (x0 := 0) (x1 := m22) ⟨rfl, f22, a22, b22, c22⟩
      obtain rfl : x2 = J (e - s) := hx2
      rw [hr, wb2]
      have hfin : ∀ w : Int64, w = wrd t s e → ∃ M', zc1 (zb1 (some w) fun s92 => zb1 (some (zsL m75 15 s92)) fun M94 => zb1 (some (zsI M94 13 2)) fun M96 => some M96) (fun m24 => some m24) = some M' ∧ Mtk M M' ∧ M'.1 12 = J (Sk t n i) ∧ M'.1 13 = J (kmp (Kk t n i)) ∧ M'.1 10 = J e ∧ (Kk t n i = 1 → M'.2.1 15 = wrd t (Sk t n i) e) ∧ (Kk t n i = 2 → M'.1 14 = J (Vk t n i)) := by
        intro w hw
        refine ⟨zsI (zsL m75 15 w) 13 2, rfl, Mtk_t f75 (Mtk_t Mtk_L (Mtk_I (by omega))), ?_, ?_, ?_, fun _ => ?_, fun z => by omega⟩
        · rw [zsI_o (by omega), ← hs]; exact b75
        · rw [zsI_1, hkK]; rfl
        · rw [zsI_o (by omega)]; exact a75
        · rw [← hs, ← hw]; exact zsL_1
      by_cases c8 : e - s ≤ 8
      · rw [if_pos (show J (e - s) ≤ 8 by rw [show (8 : Int32) = J 8 from rfl, J_le (by omega) (by omega)]; exact c8)]
        exact hfin _ (by unfold wrd; rw [if_pos c8]; exact c75)
      · rw [if_neg (show ¬ J (e - s) ≤ 8 by rw [show (8 : Int32) = J 8 from rfl, J_le (by omega) (by omega)]; exact c8)]
        exact hfin _ (by unfold wrd; rw [if_neg c8])
    · have c2' : isLt (t s) = false := by cases h : isLt (t s) with | true => exact absurd h c2 | false => rfl
      rw [if_neg c2] at hkE hkK
      rw [if_pos (show bJ (isLt (t s)) = 0 by rw [c2']; rfl), R_seeD hlt, wb1, decide_eq_true (show s < n by omega), Bool.true_and]
      by_cases c3 : isDg (t s) = true
      · rw [if_pos c3] at hkE hkK
        rw [if_neg (show ¬ bJ (isDg (t s)) = 0 by rw [c3]; decide)]
        obtain ⟨q1, q2, q3, q4⟩ := eRun_p (fun j => isDg (t j)) n s
        rw [← hkE] at q1 q2 q3 q4
        obtain ⟨e, he⟩ : ∃ e, e = Ek t n i := ⟨_, rfl⟩
        rw [← he] at q1 q2 q3 q4 hEK hkK ⊢
        have q5 := q4 (by omega)
        rw [wb1]
        obtain ⟨⟨x2, m75⟩, hr, hx2, f75, a75, b75, c75⟩ := zf2_inv (f := gX12_token_l163) (e - s) (fun c x m => x = J c ∧ Mtk M m ∧ m.1 10 = J (s + c) ∧ m.1 12 = J s ∧ m.1 14 = J (nmb t s (min c 2))) (fun r => r.1 = J (e - s) ∧ Mtk M r.2 ∧ r.2.1 10 = J e ∧ r.2.1 12 = J s ∧ r.2.1 14 = J (nmb t s (min (e - s) 2))) (by
          rintro c x m hc ⟨rfl, f0, g0, g1, g2⟩ F
          have b2 := q2 (s + c) (by omega) (by omega)
          have b3 := isDg_t.mp b2.2
          have hlt2 := (ht (s + c) (by omega)).2
          have hsee2 := R_see (t := t) (j := s + c) (fun k hk => by rw [f0.2]; exact ht k hk) hn (by rw [f0.1 11 (by omega) (by omega) (by omega) (by omega)]; exact h11) g0 (by omega)
          refine ⟨J (c + 1), zsI (zsI m 14 (J (nmb t s (min (c + 1) 2)))) 10 (J (s + (c + 1))), ?_, rfl, Mtk_t f0 (Mtk_t (Mtk_I (by omega)) (Mtk_I (by omega))), zsI_1, ?_, ?_⟩
          · unfold gX12_token_l163
            rw [hsee2, wb1, R_seeD hlt2, wb1, decide_eq_true b2.1, b2.2, if_neg (show ¬ bJ (true && true) = 0 by decide), wb1, show seeV t n (s + c) = J (t (s + c)) from if_pos b2.1, g2]
            have hval : (if (2 : Int32) ≤ J c then some (J (nmb t s (min c 2))) else some (10 * J (nmb t s (min c 2)) + J (t (s + c)) - 48) : Option Int32) = some (J (nmb t s (min (c + 1) 2))) := by
              by_cases c9 : 2 ≤ c
              · rw [if_pos (show (2 : Int32) ≤ J c by rw [show (2 : Int32) = J 2 from rfl, J_le (by omega) (by omega)]; exact c9), show min (c + 1) 2 = min c 2 by omega]
              · rw [if_neg (show ¬ (2 : Int32) ≤ J c by rw [show (2 : Int32) = J 2 from rfl, J_le (by omega) (by omega)]; exact c9), show min (c + 1) 2 = c + 1 by omega, show min c 2 = c by omega, show (10 : Int32) = J 10 from rfl, show (48 : Int32) = J 48 from rfl, J_mul, J_add, J_sub (by omega)]
                congr 2
                show _ = 10 * nmb t s c + (t (s + c) - 48)
                omega
            rw [hval, wb1, wb1, wb1, zsI_o (by omega), g0]
            show F (J c + J 1) (zsI _ 10 (J (s + c) + J 1)) = _
            rw [J_add, J_add]; rfl
          · rw [zsI_o (by omega), zsI_o (by omega)]; exact g1
          · rw [zsI_o (by omega)]; exact zsI_1) (by
          rintro x m ⟨rfl, f0, g0, g1, g2⟩ F
          rw [show s + (e - s) = e by omega] at g0
          have hsee2 := R_see (t := t) (j := e) (fun k hk => by rw [f0.2]; exact ht k hk) hn (by rw [f0.1 11 (by omega) (by omega) (by omega) (by omega)]; exact h11) g0 (by omega)
          refine ⟨(J (e - s), m), ?_, rfl, f0, g0, g1, g2⟩
          unfold gX12_token_l163
          rw [hsee2, wb1]
          by_cases c : e < n
          · have hbx : isDg (t e) = false := by cases h : isDg (t e) with | true => exact absurd ⟨c, h⟩ q3 | false => rfl
            rw [R_seeD (ht e (by omega)).2, wb1, hbx, Bool.and_false, if_pos (show bJ false = 0 from rfl)]
          · rw [show seeV t n e = seeV t n n by unfold seeV; rw [if_neg c, if_neg (by omega)], show seeV t n n = NN from if_neg (by omega), show gX12_in NN 48 57 = some (bJ false) by rw [R_in]; congr 2, wb1, if_pos (show bJ false = 0 from rfl)]) (zfu_lt (by omega)) (x0 := 0) (x1 := zsI m22 14 0) ⟨rfl, Mtk_t f22 (Mtk_I (by omega)), by rw [zsI_o (by omega)]; exact a22, by rw [zsI_o (by omega)]; exact b22, by rw [zsI_1]; rfl⟩
        obtain rfl : x2 = J (e - s) := hx2
        rw [hr, wb2]
        have hfin : ∀ y, y = kmp (Kk t n i) → ∃ M', zc1 (zb1 (some (J y)) fun s66 => zb1 (some (zsI m75 13 s66)) fun M68 => some M68) (fun m24 => some m24) = some M' ∧ Mtk M M' ∧ M'.1 12 = J (Sk t n i) ∧ M'.1 13 = J (kmp (Kk t n i)) ∧ M'.1 10 = J e ∧ (Kk t n i = 1 → M'.2.1 15 = wrd t (Sk t n i) e) ∧ (Kk t n i = 2 → M'.1 14 = J (Vk t n i)) := by
          intro y hy
          refine ⟨zsI m75 13 (J y), rfl, Mtk_t f75 (Mtk_I (by omega)), ?_, ?_, ?_, fun z => ?_, fun z => ?_⟩
          · rw [zsI_o (by omega), ← hs]; exact b75
          · rw [zsI_1, hy]
          · rw [zsI_o (by omega)]; exact a75
          · split at hkK <;> omega
          · rw [zsI_o (by omega), c75]
            unfold Vk
            rw [← hs, ← he]
            congr 2
            split at hkK <;> omega
        by_cases c8 : e - s ≤ 2
        · rw [if_pos c8] at hkK
          rw [if_pos (show J (e - s) ≤ 2 by rw [show (2 : Int32) = J 2 from rfl, J_le (by omega) (by omega)]; exact c8)]
          exact hfin 3 (by rw [hkK]; rfl)
        · rw [if_neg c8] at hkK
          rw [if_neg (show ¬ J (e - s) ≤ 2 by rw [show (2 : Int32) = J 2 from rfl, J_le (by omega) (by omega)]; exact c8)]
          exact hfin 1 (by rw [hkK]; rfl)
      · have c3' : isDg (t s) = false := by cases h : isDg (t s) with | true => exact absurd h c3 | false => rfl
        rw [if_neg c3] at hkE hkK
        rw [if_pos (show bJ (isDg (t s)) = 0 by rw [c3']; rfl), wb1, a22, show seeV t n s = J (t s) from if_pos (by omega)]
        have hfin : ∀ y, y = kmp (Kk t n i) → ∃ M', zc1 (zb1 (some (J y)) fun s34 => zb1 (some (zsI (zsI m22 10 (J s + 1)) 13 s34)) fun M36 => some M36) (fun m24 => some m24) = some M' ∧ Mtk M M' ∧ M'.1 12 = J (Sk t n i) ∧ M'.1 13 = J (kmp (Kk t n i)) ∧ M'.1 10 = J (Ek t n i) ∧ (Kk t n i = 1 → M'.2.1 15 = wrd t (Sk t n i) (Ek t n i)) ∧ (Kk t n i = 2 → M'.1 14 = J (Vk t n i)) := by
          intro y hy
          refine ⟨zsI (zsI m22 10 (J s + 1)) 13 (J y), rfl, Mtk_t f22 (Mtk_t (Mtk_I (by omega)) (Mtk_I (by omega))), ?_, ?_, ?_, fun z => ?_, fun z => ?_⟩
          · rw [zsI_o (by omega), zsI_o (by omega), ← hs]; exact b22
          · rw [zsI_1, hy]
          · rw [zsI_o (by omega), zsI_1, hkE]
            show J s + J 1 = _
            rw [J_add]
          · split at hkK <;> omega
          · split at hkK <;> omega
        by_cases c4 : t s = 59
        · rw [if_pos c4] at hkK
          rw [if_pos (show J (t s) = 59 by rw [c4]; rfl)]
          exact hfin 4 (by rw [hkK]; rfl)
        · rw [if_neg c4] at hkK
          rw [if_neg (show ¬ J (t s) = 59 by rw [show (59 : Int32) = J 59 from rfl, J_eq (by omega) (by omega)]; exact c4)]
          exact hfin 1 (by rw [hkK]; rfl)
