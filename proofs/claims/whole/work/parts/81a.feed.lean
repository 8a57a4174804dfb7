/-! the tape: bytes, both sides -/
def isB (x : Int32) : Prop := x.toInt8.toInt32 = x
theorem i8_all : ∀ n, n < 256 → (((Int8.ofNat n).toInt32 &&& 255).toNatClampNeg < 256 ∧ (Int8.ofNat n).toInt32 &&& 255 = J ((Int8.ofNat n).toInt32 &&& 255).toNatClampNeg ∧ (((Int8.ofNat n).toInt32 &&& 255).toNatClampNeg < 128 → (Int8.ofNat n).toInt32 = J ((Int8.ofNat n).toInt32 &&& 255).toNatClampNeg) ∧ (128 ≤ ((Int8.ofNat n).toInt32 &&& 255).toNatClampNeg → (Int8.ofNat n).toInt32 < J 0)) ∧ fits .byte (.int (Int8.ofNat n).toInt32) = true ∧ (Int8.ofNat n).toInt32.toInt8 = Int8.ofNat n := by decide +kernel
theorem i8_n (i : Int8) : ∃ n, n < 256 ∧ i = Int8.ofNat n := ⟨i.toBitVec.toNat, i.toBitVec.isLt, Int8.toBitVec_inj.1 (by rw [Int8.toBitVec_ofNat', BitVec.ofNat_toNat, BitVec.setWidth_eq])⟩
def bN (x : Int32) : Nat := (x &&& 255).toNatClampNeg
theorem isB_q {x : Int32} (h : isB x) : bq x (bN x) ∧ fits .byte (.int x) = true := by
  obtain ⟨n, hn, hi⟩ := i8_n x.toInt8
  have hx : x = (Int8.ofNat n).toInt32 := by rw [← hi]; exact h.symm
  have := i8_all n hn
  rw [hx]
  exact ⟨this.1, this.2.1⟩
theorem isB_8 (i : Int8) : isB i.toInt32 := by
  obtain ⟨n, hn, rfl⟩ := i8_n i
  unfold isB
  rw [(i8_all n hn).2.2]
theorem isB_nar {x : Int32} (h : isB x) : vp_nar .byte x = x := h
theorem nar_B {x : Int32} : isB (vp_nar .byte x) := isB_8 x.toInt8
theorem bv_sh (b : BitVec 32) (k : Nat) (hk : k ≤ 24) : (b >>> k).signExtend 8 = (b.sshiftRight k).signExtend 8 := by
  apply BitVec.eq_of_getLsbD_eq
  intro i hi
  rw [BitVec.getLsbD_signExtend, BitVec.getLsbD_signExtend, BitVec.getLsbD_ushiftRight, BitVec.getLsbD_sshiftRight]
  have h1 : ¬ 32 ≤ i := by omega
  have h2 : k + i < 32 := by omega
  have h3 : i < 32 := by omega
  simp [h1, h2, h3]
theorem sh_24 (x : Int32) : ((x.toUInt32 >>> ((24 : Int32).toUInt32 &&& Int32.toUInt32 31)).toInt32).toInt8 = (x >>> ((24 : Int32) &&& 31)).toInt8 := by
  refine Int8.toBitVec_inj.1 ?_
  have h := bv_sh x.toBitVec 24 (by omega)
  simpa [Int32.toBitVec_shiftRight] using h
theorem sh_16 (x : Int32) : ((x.toUInt32 >>> ((16 : Int32).toUInt32 &&& Int32.toUInt32 31)).toInt32).toInt8 = (x >>> ((16 : Int32) &&& 31)).toInt8 := by
  refine Int8.toBitVec_inj.1 ?_
  have h := bv_sh x.toBitVec 16 (by omega)
  simpa [Int32.toBitVec_shiftRight] using h
theorem sh_8 (x : Int32) : ((x.toUInt32 >>> ((8 : Int32).toUInt32 &&& Int32.toUInt32 31)).toInt32).toInt8 = (x >>> ((8 : Int32) &&& 31)).toInt8 := by
  refine Int8.toBitVec_inj.1 ?_
  have h := bv_sh x.toBitVec 8 (by omega)
  simpa [Int32.toBitVec_shiftRight] using h
theorem sh_0 (x : Int32) : ((x.toUInt32 >>> ((0 : Int32).toUInt32 &&& Int32.toUInt32 31)).toInt32).toInt8 = (x >>> ((0 : Int32) &&& 31)).toInt8 := by
  refine Int8.toBitVec_inj.1 ?_
  have h := bv_sh x.toBitVec 0 (by omega)
  simpa [Int32.toBitVec_shiftRight] using h
def tpR (U : zCS) (a : Nat) (M : zMS) (z : Nat) : Prop := ∀ k, k < 600 → isB (U.2.1 (a + 1) k) ∧ M.2.2 1 (600 * z + k) = U.2.1 (a + 1) k
/-- what stays while the tape is fed -/
def Ufd (U U' : zCS) (a : Nat) : Prop := (∀ q j, q ≠ a ∨ j ≠ 1 → U'.1 q j = U.1 q j) ∧ (∀ q, q ≠ a + 1 → U'.2.1 q = U.2.1 q) ∧ U'.2.2 = U.2.2
def Mfd (M M' : zMS) : Prop := M'.1 = M.1 ∧ M'.2.1 = M.2.1 ∧ (∀ j, j ≠ 1 → j ≠ 2 → M'.2.2 j = M.2.2 j) ∧ (∀ q, 600 ≤ q → M'.2.2 1 q = M.2.2 1 q) ∧ ∀ q, q ≠ 0 → M'.2.2 2 q = M.2.2 2 q
theorem Ufd_t {x y z : zCS} {a : Nat} (h1 : Ufd x y a) (h2 : Ufd y z a) : Ufd x z a := ⟨fun q j h => (h2.1 q j h).trans (h1.1 q j h), fun q h => (h2.2.1 q h).trans (h1.2.1 q h), h2.2.2.trans h1.2.2⟩
theorem Mfd_t {x y z : zMS} (h1 : Mfd x y) (h2 : Mfd y z) : Mfd x z := ⟨h2.1.trans h1.1, h2.2.1.trans h1.2.1, fun j u v => (h2.2.2.1 j u v).trans (h1.2.2.1 j u v), fun q h => (h2.2.2.2.1 q h).trans (h1.2.2.2.1 q h), fun q h => (h2.2.2.2.2 q h).trans (h1.2.2.2.2 q h)⟩
theorem J_put1 {U : zCS} {M : zMS} {a n : Nat} {x s : Int32} (ht : tpR U a M 0) (hU : U.1 a 1 = J n) (hM : M.2.2 2 0 = J n) (hn : n < 600) (hs : ¬ s < 0) (hb : ((x.toUInt32 >>> (s.toUInt32 &&& Int32.toUInt32 31)).toInt32).toInt8 = (x >>> (s &&& 31)).toInt8) :
    ∃ U' M', (∀ F, gX7_put_l3 a x F s U = F (s + -8) U') ∧ (∀ F, gX12_four_l3 x F s M = F (s + -8) M') ∧ tpR U' a M' 0 ∧ U'.1 a 1 = J (n + 1) ∧ M'.2.2 2 0 = J (n + 1) ∧ Ufd U U' a ∧ Mfd M M' := by
  obtain ⟨y, hy⟩ : ∃ y, y = vp_nar .byte ((x >>> (s &&& 31)).toInt8.toInt32) := ⟨_, rfl⟩
  obtain ⟨V1, hV1⟩ : ∃ V, V = csA U (a + 1) (upd (U.2.1 (a + 1)) n y) := ⟨_, rfl⟩
  obtain ⟨M1, hM1⟩ : ∃ m, m = zsA M 1 (upd (M.2.2 1) n y) := ⟨_, rfl⟩
  have h2 : M1.2.2 2 = M.2.2 2 := by rw [hM1, zsA_o (by omega)]
  refine ⟨csI V1 a 1 (J (n + 1)), zsA M1 2 (upd (M.2.2 2) 0 (J (n + 1))), fun F => ?_, fun F => ?_, fun k hk => ?_, csI_1, by rw [zsA_1, upd_1], ⟨fun q j h => by rw [csI_o2 h, hV1, csA_i], fun q h => by rw [csI_a, hV1, csA_o2 h], by rw [csI_a, hV1, csA_q]⟩, by rw [hM1]; rfl, by rw [hM1]; rfl, fun j h1 h2 => by rw [zsA_o h2, hM1, zsA_o h1], fun q hq => ?_, fun q hq => by rw [zsA_1, upd_o hq]⟩
  · unfold gX7_put_l3
    rw [if_neg hs, hU, if_neg (show ¬ (600 : Int32) ≤ J n by rw [show (600 : Int32) = J 600 from rfl, J_le (by omega) (by omega)]; omega), hb, ← hy, zas_J hn (by omega), wb1, wb1, ← hV1, show V1.1 a 1 = J n by rw [hV1, csA_i, hU], show (J n + 1 : Int32) = J (n + 1) from J_add n 1, wb1]
  · unfold gX12_four_l3
    rw [if_neg hs, show zag 4 (M.2.2 2) 0 = some (J n) by rw [show (0 : Int32) = J 0 from rfl, zag_J (by omega) (by omega), hM], wb1, ← hy, zas_J (by omega) (by omega), wb1, wb1, ← hM1, h2, show zag 4 (M.2.2 2) 0 = some (J n) by rw [show (0 : Int32) = J 0 from rfl, zag_J (by omega) (by omega), hM], wb1, show (J n + 1 : Int32) = J (n + 1) from J_add n 1, show zas 4 (M.2.2 2) 0 (J (n + 1)) = some (upd (M.2.2 2) 0 (J (n + 1))) from zas_J (i := 0) (by omega) (by omega), wb1, wb1]
  · rw [csI_a, hV1, csA_1, zsA_o (by omega), hM1, zsA_1, Nat.mul_zero, Nat.zero_add]
    by_cases hkn : k = n
    · subst hkn
      rw [upd_1, upd_1, hy]
      exact ⟨nar_B, rfl⟩
    · have := ht k hk
      rw [Nat.mul_zero, Nat.zero_add] at this
      rw [upd_o hkn, upd_o hkn]; exact this
  · rw [zsA_o (by omega), hM1, zsA_1, upd_o (by omega)]
theorem J_put {U : zCS} {M : zMS} {a n : Nat} {x : Int32} (ht : tpR U a M 0) (hU : U.1 a 1 = J n) (hM : M.2.2 2 0 = J n) (hn : n + 4 ≤ 600) :
    ∃ U' M', gX7_put U a x = some U' ∧ gX12_four M x = some M' ∧ tpR U' a M' 0 ∧ U'.1 a 1 = J (n + 4) ∧ M'.2.2 2 0 = J (n + 4) ∧ Ufd U U' a ∧ Mfd M M' := by
  obtain ⟨U1, M1, a1, a2, a3, a4, a5, a6, a7⟩ := J_put1 (x := x) (s := 24) ht hU hM (by omega) (by decide) (sh_24 x)
  obtain ⟨U2, M2, b1, b2, b3, b4, b5, b6, b7⟩ := J_put1 (x := x) (s := 16) a3 a4 a5 (by omega) (by decide) (sh_16 x)
  obtain ⟨U3, M3, c1, c2, c3, c4, c5, c6, c7⟩ := J_put1 (x := x) (s := 8) b3 b4 b5 (by omega) (by decide) (sh_8 x)
  obtain ⟨U4, M4, d1, d2, d3, d4, d5, d6, d7⟩ := J_put1 (x := x) (s := 0) c3 c4 c5 (by omega) (by decide) (sh_0 x)
  obtain ⟨N, hN⟩ : ∃ N, zfu = N + 5 := ⟨zfu - 5, by have := zfu_ge; omega⟩
  refine ⟨U4, M4, ?_, ?_, d3, d4, d5, Ufd_t a6 (Ufd_t b6 (Ufd_t c6 d6)), Mfd_t a7 (Mfd_t b7 (Mfd_t c7 d7))⟩
  · unfold gX7_put
    rw [hN]
    show zb1 (gX7_put_l3 a x (zf2 (gX7_put_l3 a x) (N + 4)) 24 U) _ = _
    rw [a1]
    show zb1 (gX7_put_l3 a x (zf2 (gX7_put_l3 a x) (N + 3)) 16 U1) _ = _
    rw [b1]
    show zb1 (gX7_put_l3 a x (zf2 (gX7_put_l3 a x) (N + 2)) 8 U2) _ = _
    rw [c1]
    show zb1 (gX7_put_l3 a x (zf2 (gX7_put_l3 a x) (N + 1)) 0 U3) _ = _
    rw [d1]
    show zb1 (gX7_put_l3 a x (zf2 (gX7_put_l3 a x) N) (-8) U4) _ = _
    unfold gX7_put_l3
    rw [if_pos (show (-8 : Int32) < 0 by decide), wb1]
  · unfold gX12_four
    rw [hN]
    show zb1 (gX12_four_l3 x (zf2 (gX12_four_l3 x) (N + 4)) 24 M) _ = _
    rw [a2]
    show zb1 (gX12_four_l3 x (zf2 (gX12_four_l3 x) (N + 3)) 16 M1) _ = _
    rw [b2]
    show zb1 (gX12_four_l3 x (zf2 (gX12_four_l3 x) (N + 2)) 8 M2) _ = _
    rw [c2]
    show zb1 (gX12_four_l3 x (zf2 (gX12_four_l3 x) (N + 1)) 0 M3) _ = _
    rw [d2]
    show zb1 (gX12_four_l3 x (zf2 (gX12_four_l3 x) N) (-8) M4) _ = _
    unfold gX12_four_l3
    rw [if_pos (show (-8 : Int32) < 0 by decide), wb1]
