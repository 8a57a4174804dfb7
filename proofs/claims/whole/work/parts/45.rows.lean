/-- the static rows stand outside the shape -/
def stOk (ν : zM) (sh : Nat → Nat) : Prop := ∀ k, k < 5 → ν.1 (ν.2.2 k) = some (.inl (10, (zrow k).length, .inl (fun j => (zrow k).getD j 0))) ∧ sh (ν.2.2 k) = 0
theorem cr_0 {ν : zM} {sh : Nat → Nat} {S S1 : zCS} {i : Int32} (h : stOk ν sh) : zm_aI (cmem ν sh S) 0 ((cmem ν sh S1).2.2 0) i = zag 3 (fun j => (zrow 0).getD j 0) i := by
  have h1 : (cmem ν sh S).1 (ν.2.2 0) = some (.inl (10, 3, .inl (fun j => (zrow 0).getD j 0))) := by
    show (if sh (ν.2.2 0) = 0 then ν.1 (ν.2.2 0) else _) = _
    rw [if_pos (h 0 (by decide)).2]
    exact (h 0 (by decide)).1
  unfold zm_aI zag
  rw [show (cmem ν sh S1).2.2 0 = ν.2.2 0 from rfl, h1]
  show (if 10 % 10 = 0 ∧ 10 < 12 ∧ ¬ (i < 0 ∨ 3 ≤ i.toNatClampNeg) then _ else none) = _
  by_cases hq : i < 0 ∨ 3 ≤ i.toNatClampNeg
  · rw [if_pos hq, if_neg (fun z => z.2.2 hq)]
  · rw [if_neg hq, if_pos ⟨by decide, by decide, hq⟩]
theorem cr_1 {ν : zM} {sh : Nat → Nat} {S S1 : zCS} {i : Int32} (h : stOk ν sh) : zm_aI (cmem ν sh S) 0 ((cmem ν sh S1).2.2 1) i = zag 6 (fun j => (zrow 1).getD j 0) i := by
  have h1 : (cmem ν sh S).1 (ν.2.2 1) = some (.inl (10, 6, .inl (fun j => (zrow 1).getD j 0))) := by
    show (if sh (ν.2.2 1) = 0 then ν.1 (ν.2.2 1) else _) = _
    rw [if_pos (h 1 (by decide)).2]
    exact (h 1 (by decide)).1
  unfold zm_aI zag
  rw [show (cmem ν sh S1).2.2 1 = ν.2.2 1 from rfl, h1]
  show (if 10 % 10 = 0 ∧ 10 < 12 ∧ ¬ (i < 0 ∨ 6 ≤ i.toNatClampNeg) then _ else none) = _
  by_cases hq : i < 0 ∨ 6 ≤ i.toNatClampNeg
  · rw [if_pos hq, if_neg (fun z => z.2.2 hq)]
  · rw [if_neg hq, if_pos ⟨by decide, by decide, hq⟩]
theorem cr_2 {ν : zM} {sh : Nat → Nat} {S S1 : zCS} {i : Int32} (h : stOk ν sh) : zm_aI (cmem ν sh S) 0 ((cmem ν sh S1).2.2 2) i = zag 5 (fun j => (zrow 2).getD j 0) i := by
  have h1 : (cmem ν sh S).1 (ν.2.2 2) = some (.inl (10, 5, .inl (fun j => (zrow 2).getD j 0))) := by
    show (if sh (ν.2.2 2) = 0 then ν.1 (ν.2.2 2) else _) = _
    rw [if_pos (h 2 (by decide)).2]
    exact (h 2 (by decide)).1
  unfold zm_aI zag
  rw [show (cmem ν sh S1).2.2 2 = ν.2.2 2 from rfl, h1]
  show (if 10 % 10 = 0 ∧ 10 < 12 ∧ ¬ (i < 0 ∨ 5 ≤ i.toNatClampNeg) then _ else none) = _
  by_cases hq : i < 0 ∨ 5 ≤ i.toNatClampNeg
  · rw [if_pos hq, if_neg (fun z => z.2.2 hq)]
  · rw [if_neg hq, if_pos ⟨by decide, by decide, hq⟩]
theorem cr_3 {ν : zM} {sh : Nat → Nat} {S S1 : zCS} {i : Int32} (h : stOk ν sh) : zm_aI (cmem ν sh S) 0 ((cmem ν sh S1).2.2 3) i = zag 54 (fun j => (zrow 3).getD j 0) i := by
  have h1 : (cmem ν sh S).1 (ν.2.2 3) = some (.inl (10, 54, .inl (fun j => (zrow 3).getD j 0))) := by
    show (if sh (ν.2.2 3) = 0 then ν.1 (ν.2.2 3) else _) = _
    rw [if_pos (h 3 (by decide)).2]
    exact (h 3 (by decide)).1
  unfold zm_aI zag
  rw [show (cmem ν sh S1).2.2 3 = ν.2.2 3 from rfl, h1]
  show (if 10 % 10 = 0 ∧ 10 < 12 ∧ ¬ (i < 0 ∨ 54 ≤ i.toNatClampNeg) then _ else none) = _
  by_cases hq : i < 0 ∨ 54 ≤ i.toNatClampNeg
  · rw [if_pos hq, if_neg (fun z => z.2.2 hq)]
  · rw [if_neg hq, if_pos ⟨by decide, by decide, hq⟩]
theorem cr_4 {ν : zM} {sh : Nat → Nat} {S S1 : zCS} {i : Int32} (h : stOk ν sh) : zm_aI (cmem ν sh S) 0 ((cmem ν sh S1).2.2 4) i = zag 18 (fun j => (zrow 4).getD j 0) i := by
  have h1 : (cmem ν sh S).1 (ν.2.2 4) = some (.inl (10, 18, .inl (fun j => (zrow 4).getD j 0))) := by
    show (if sh (ν.2.2 4) = 0 then ν.1 (ν.2.2 4) else _) = _
    rw [if_pos (h 4 (by decide)).2]
    exact (h 4 (by decide)).1
  unfold zm_aI zag
  rw [show (cmem ν sh S1).2.2 4 = ν.2.2 4 from rfl, h1]
  show (if 10 % 10 = 0 ∧ 10 < 12 ∧ ¬ (i < 0 ∨ 18 ≤ i.toNatClampNeg) then _ else none) = _
  by_cases hq : i < 0 ∨ 18 ≤ i.toNatClampNeg
  · rw [if_pos hq, if_neg (fun z => z.2.2 hq)]
  · rw [if_neg hq, if_pos ⟨by decide, by decide, hq⟩]
theorem crl_0 {ν : zM} {sh : Nat → Nat} {S S1 : zCS} {R : Type} {K : Int32 → Option R} (h : stOk ν sh) : zb1 (zm_len (cmem ν sh S) ((cmem ν sh S1).2.2 0)) K = K (Int32.ofNat 3) := by
  have h1 : (cmem ν sh S).1 (ν.2.2 0) = some (.inl (10, 3, .inl (fun j => (zrow 0).getD j 0))) := by
    show (if sh (ν.2.2 0) = 0 then ν.1 (ν.2.2 0) else _) = _
    rw [if_pos (h 0 (by decide)).2]
    exact (h 0 (by decide)).1
  unfold zm_len
  rw [show (cmem ν sh S1).2.2 0 = ν.2.2 0 from rfl, h1]
  rfl
theorem crl_1 {ν : zM} {sh : Nat → Nat} {S S1 : zCS} {R : Type} {K : Int32 → Option R} (h : stOk ν sh) : zb1 (zm_len (cmem ν sh S) ((cmem ν sh S1).2.2 1)) K = K (Int32.ofNat 6) := by
  have h1 : (cmem ν sh S).1 (ν.2.2 1) = some (.inl (10, 6, .inl (fun j => (zrow 1).getD j 0))) := by
    show (if sh (ν.2.2 1) = 0 then ν.1 (ν.2.2 1) else _) = _
    rw [if_pos (h 1 (by decide)).2]
    exact (h 1 (by decide)).1
  unfold zm_len
  rw [show (cmem ν sh S1).2.2 1 = ν.2.2 1 from rfl, h1]
  rfl
theorem crl_2 {ν : zM} {sh : Nat → Nat} {S S1 : zCS} {R : Type} {K : Int32 → Option R} (h : stOk ν sh) : zb1 (zm_len (cmem ν sh S) ((cmem ν sh S1).2.2 2)) K = K (Int32.ofNat 5) := by
  have h1 : (cmem ν sh S).1 (ν.2.2 2) = some (.inl (10, 5, .inl (fun j => (zrow 2).getD j 0))) := by
    show (if sh (ν.2.2 2) = 0 then ν.1 (ν.2.2 2) else _) = _
    rw [if_pos (h 2 (by decide)).2]
    exact (h 2 (by decide)).1
  unfold zm_len
  rw [show (cmem ν sh S1).2.2 2 = ν.2.2 2 from rfl, h1]
  rfl
theorem crl_3 {ν : zM} {sh : Nat → Nat} {S S1 : zCS} {R : Type} {K : Int32 → Option R} (h : stOk ν sh) : zb1 (zm_len (cmem ν sh S) ((cmem ν sh S1).2.2 3)) K = K (Int32.ofNat 54) := by
  have h1 : (cmem ν sh S).1 (ν.2.2 3) = some (.inl (10, 54, .inl (fun j => (zrow 3).getD j 0))) := by
    show (if sh (ν.2.2 3) = 0 then ν.1 (ν.2.2 3) else _) = _
    rw [if_pos (h 3 (by decide)).2]
    exact (h 3 (by decide)).1
  unfold zm_len
  rw [show (cmem ν sh S1).2.2 3 = ν.2.2 3 from rfl, h1]
  rfl
theorem crl_4 {ν : zM} {sh : Nat → Nat} {S S1 : zCS} {R : Type} {K : Int32 → Option R} (h : stOk ν sh) : zb1 (zm_len (cmem ν sh S) ((cmem ν sh S1).2.2 4)) K = K (Int32.ofNat 18) := by
  have h1 : (cmem ν sh S).1 (ν.2.2 4) = some (.inl (10, 18, .inl (fun j => (zrow 4).getD j 0))) := by
    show (if sh (ν.2.2 4) = 0 then ν.1 (ν.2.2 4) else _) = _
    rw [if_pos (h 4 (by decide)).2]
    exact (h 4 (by decide)).1
  unfold zm_len
  rw [show (cmem ν sh S1).2.2 4 = ν.2.2 4 from rfl, h1]
  rfl
noncomputable def gfill_l (n : Nat) (a : Nat) (v : Int32) (F : Int32 → zCS → Option zCS) (i : Int32) (U : zCS) : Option zCS :=
  if Int32.ofNat n ≤ i then some U else zb1 (zas n (U.2.1 a) i v) fun f1 => zb1 (some (csA U a f1)) fun U1 => F (i + 1) U1
noncomputable def gfill (n : Nat) (U : zCS) (a : Nat) (v : Int32) : Option zCS := zf2 (gfill_l n a v) zfu 0 U
theorem efill_l {ν : zM} {sh : Nat → Nat} {n a : Nat} {v : Int32} (hs : ∀ {S : zCS} {i v : Int32}, zm_sI (cmem ν sh S) 0 a i v = Option.map (fun g => cmem ν sh (csA S a g)) (zas n (S.2.1 a) i v)) (k : Nat) (i : Int32) (U : zCS) : zf2 (fJ7_fill_53178_l5 (Int32.ofNat n) a v) k i (cmem ν sh U) = Option.map (cmem ν sh) (zf2 (gfill_l n a v) k i U) := by
  refine zf2_m (fun F G hF i U => ?_) k i U
  simp only [fJ7_fill_53178_l5, gfill_l, zmap_ite, zmap_some, hs, zzb1_q, zzb1_some, zmap_zb1, hF]
theorem eJ7_fill_53178_1004 {ν : zM} {sh : Nat → Nat} {U : zCS} {x0 : Nat} {x1 : Int32} (h0 : sh x0 = 1004) : fJ7_fill_53178 (cmem ν sh U) x0 x1 = Option.map (cmem ν sh) (gfill 4 U x0 x1) := by
  simp only [fJ7_fill_53178, gfill, clr_1004 h0, zzb1_some, efill_l (csr_1004 h0), zzb1_q, zmap_zb1, zmap_some]
  cases zf2 (gfill_l 4 x0 x1) zfu 0 U <;> rfl
theorem eJ7_fill_53178_1006 {ν : zM} {sh : Nat → Nat} {U : zCS} {x0 : Nat} {x1 : Int32} (h0 : sh x0 = 1006) : fJ7_fill_53178 (cmem ν sh U) x0 x1 = Option.map (cmem ν sh) (gfill 6 U x0 x1) := by
  simp only [fJ7_fill_53178, gfill, clr_1006 h0, zzb1_some, efill_l (csr_1006 h0), zzb1_q, zmap_zb1, zmap_some]
  cases zf2 (gfill_l 6 x0 x1) zfu 0 U <;> rfl
theorem eJ7_fill_53178_1008 {ν : zM} {sh : Nat → Nat} {U : zCS} {x0 : Nat} {x1 : Int32} (h0 : sh x0 = 1008) : fJ7_fill_53178 (cmem ν sh U) x0 x1 = Option.map (cmem ν sh) (gfill 8 U x0 x1) := by
  simp only [fJ7_fill_53178, gfill, clr_1008 h0, zzb1_some, efill_l (csr_1008 h0), zzb1_q, zmap_zb1, zmap_some]
  cases zf2 (gfill_l 8 x0 x1) zfu 0 U <;> rfl
theorem eJ7_fill_53178_1010 {ν : zM} {sh : Nat → Nat} {U : zCS} {x0 : Nat} {x1 : Int32} (h0 : sh x0 = 1010) : fJ7_fill_53178 (cmem ν sh U) x0 x1 = Option.map (cmem ν sh) (gfill 10 U x0 x1) := by
  simp only [fJ7_fill_53178, gfill, clr_1010 h0, zzb1_some, efill_l (csr_1010 h0), zzb1_q, zmap_zb1, zmap_some]
  cases zf2 (gfill_l 10 x0 x1) zfu 0 U <;> rfl
theorem eJ7_fill_53178_1100 {ν : zM} {sh : Nat → Nat} {U : zCS} {x0 : Nat} {x1 : Int32} (h0 : sh x0 = 1100) : fJ7_fill_53178 (cmem ν sh U) x0 x1 = Option.map (cmem ν sh) (gfill 100 U x0 x1) := by
  simp only [fJ7_fill_53178, gfill, clr_1100 h0, zzb1_some, efill_l (csr_1100 h0), zzb1_q, zmap_zb1, zmap_some]
  cases zf2 (gfill_l 100 x0 x1) zfu 0 U <;> rfl
theorem eJ7_fill_53178_1600 {ν : zM} {sh : Nat → Nat} {U : zCS} {x0 : Nat} {x1 : Int32} (h0 : sh x0 = 1600) : fJ7_fill_53178 (cmem ν sh U) x0 x1 = Option.map (cmem ν sh) (gfill 600 U x0 x1) := by
  simp only [fJ7_fill_53178, gfill, clr_1600 h0, zzb1_some, efill_l (csr_1600 h0), zzb1_q, zmap_zb1, zmap_some]
  cases zf2 (gfill_l 600 x0 x1) zfu 0 U <;> rfl
theorem eJ7_fill_53178_4100 {ν : zM} {sh : Nat → Nat} {U : zCS} {x0 : Nat} {x1 : Int32} (h0 : sh x0 = 4100) : fJ7_fill_53178 (cmem ν sh U) x0 x1 = Option.map (cmem ν sh) (gfill 3100 U x0 x1) := by
  simp only [fJ7_fill_53178, gfill, clr_4100 h0, zzb1_some, efill_l (csr_4100 h0), zzb1_q, zmap_zb1, zmap_some]
  cases zf2 (gfill_l 3100 x0 x1) zfu 0 U <;> rfl
