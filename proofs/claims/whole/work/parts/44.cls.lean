/-! the class's objects as one state: ints by address and field, arrays by address, the images -/
abbrev zCS : Type := (Nat → Nat → Int32) × (Nat → Nat → Int32) × (Nat → Option Nat)
def csI (S : zCS) (a k : Nat) (v : Int32) : zCS := (fun q j => if q = a ∧ j = k then v else S.1 q j, S.2)
def csA (S : zCS) (a : Nat) (g : Nat → Int32) : zCS := (S.1, fun q => if q = a then g else S.2.1 q, S.2.2)
def csQ (S : zCS) (g : Nat → Option Nat) : zCS := (S.1, S.2.1, g)
/-- objects of a row of objects lie one behind the other -/
def cstep (c : Nat) : Nat := match c with
  | 9004 => 11
  | 9005 => 4
  | 9006 => 3
  | _ => 5
def ccell (q c : Nat) (S : zCS) : zE := match c with
  | 1 => .inr (0, [.ref (q + 1), .ref (q + 2), .ref (q + 3)])
  | 2 => .inr (1, [.int (S.1 q 0), .int (S.1 q 1), .int (S.1 q 2), .ref (q + 1), .ref (q + 2), .ref (q + 3)])
  | 3 => .inr (2, [.int (S.1 q 0), .ref (q + 1), .ref (q + 2), .ref (q + 3)])
  | 4 => .inr (3, [.int (S.1 q 0), .int (S.1 q 1), .ref (q + 1), .ref (q + 2)])
  | 5 => .inr (4, [.ref (q + 1), .ref (q + 12), .ref (q + 16), .ref (q + 19), .int (S.1 q 4), .int (S.1 q 5), .ref (q - 53), .int (S.1 q 7), .int (S.1 q 8), .int (S.1 q 9), .int (S.1 q 10), .ref (q + 24), .ref (q + 25)])
  | 6 => .inr (5, [.ref (q + 1), .ref (q + 2), .int (S.1 q 2)])
  | 7 => .inr (6, [.int (S.1 q 0), .ref (q + 1), .ref (q + 2), .ref (q + 3), .ref (q + 4)])
  | 8 => .inr (7, [.ref (q + 1), .int (S.1 q 1), .int (S.1 q 2), .int (S.1 q 3), .ref (q + 2), .ref (q + 3), .ref (q + 26), .ref (q + 35), .ref (q + 42)])
  | 9 => .inr (8, [.ref (q + 1), .ref (q + 2)])
  | 10 => .inr (9, [.int (S.1 q 0), .ref (q + 1), .ref (q + 2), .ref (q + 3), .int (S.1 q 4), .ref (q + 4), .ref (q + 5), .ref (q + 6), .int (S.1 q 8), .ref (q + 7), .ref (q + 8), .ref (q + 9), .ref (q + 10)])
  | 12 => .inr (11, [.ref (q + 1), .ref (q + 54), .ref (q + 55), .ref (q + 81), .ref (q + 85), .ref (q + 88), .ref (q + 91)])
  | 9001 => .inl (1, 600, .inl (S.2.1 q))
  | 9003 => .inl (3, 3, .inr (.inr (.inr (.inr S.2.2))))
  | 9004 => .inl (4, 2, .inr (.inr (.inr (.inr (fun i => if i < 2 then some (q + 1 + 11 * i) else none)))))
  | 9005 => .inl (5, 2, .inr (.inr (.inr (.inr (fun i => if i < 2 then some (q + 1 + 4 * i) else none)))))
  | 9006 => .inl (6, 2, .inr (.inr (.inr (.inr (fun i => if i < 2 then some (q + 1 + 3 * i) else none)))))
  | 9007 => .inl (7, 2, .inr (.inr (.inr (.inr (fun i => if i < 2 then some (q + 1 + 5 * i) else none)))))
  | c => .inl (0, c - 1000, .inl (S.2.1 q))
/-- a memory with the class's objects, where the shape sh says which -/
def cmem (ν : zM) (sh : Nat → Nat) (S : zCS) : zM := (fun q => if sh q = 0 then ν.1 q else some (ccell q (sh q) S), ν.2)
theorem cm_at {ν : zM} {sh : Nat → Nat} {S : zCS} {q c : Nat} (h : sh q = c) (hc : c ≠ 0) : (cmem ν sh S).1 q = some (ccell q c S) := by
  show (if sh q = 0 then ν.1 q else some (ccell q (sh q) S)) = _
  rw [h, if_neg hc]
theorem ccell_c {q c : Nat} {S S' : zCS} (h1 : S'.1 q = S.1 q) (h2 : S'.2.1 q = S.2.1 q) (h3 : S'.2.2 = S.2.2) : ccell q c S' = ccell q c S := by
  unfold ccell
  rw [h1, h2, h3]
theorem cm_up {ν : zM} {sh : Nat → Nat} {S S' : zCS} {a : Nat} {e : zE} (ha : sh a ≠ 0) (he : ccell a (sh a) S' = e) (ho : ∀ q, q ≠ a → ccell q (sh q) S' = ccell q (sh q) S) : zm_up (cmem ν sh S) a e = cmem ν sh S' := by
  refine Prod.ext (funext fun q => ?_) rfl
  show (if q = a then some e else if sh q = 0 then ν.1 q else some (ccell q (sh q) S)) = if sh q = 0 then ν.1 q else some (ccell q (sh q) S')
  by_cases hq : q = a
  · subst hq
    rw [if_pos rfl, if_neg ha, he]
  · rw [if_neg hq, ho q hq]
theorem csI_o {S : zCS} {a k : Nat} {v : Int32} {c q : Nat} (hq : q ≠ a) : ccell q c (csI S a k v) = ccell q c S := ccell_c (funext fun j => if_neg (fun z => hq z.1)) rfl rfl
theorem csA_o {S : zCS} {a : Nat} {g : Nat → Int32} {c q : Nat} (hq : q ≠ a) : ccell q c (csA S a g) = ccell q c S := ccell_c rfl (if_neg hq) rfl
theorem cm_p {ν : zM} {sh : Nat → Nat} {S : zCS} {a c ci k : Nat} {v : Int32} {fs : List Value} (h : sh a = c) (hc : c ≠ 0) (hf : ccell a c S = .inr (ci, fs)) (hk : k < fs.length) (he : ccell a c (csI S a k v) = .inr (ci, fs.set k (.int v))) : zm_p (cmem ν sh S) ci a k (.int v) = some (cmem ν sh (csI S a k v)) := by
  unfold zm_p
  rw [cm_at h hc, hf]
  show (if ci = ci ∧ k < fs.length then some (zm_up (cmem ν sh S) a (.inr (ci, fs.set k (.int v)))) else none) = _
  rw [if_pos ⟨rfl, hk⟩]
  exact congrArg some (cm_up (by rw [h]; exact hc) (by rw [h]; exact he) (fun q hq => csI_o hq))
theorem cm_aI {ν : zM} {sh : Nat → Nat} {S : zCS} {a c t n : Nat} {i : Int32} (h : sh a = c) (hc : c ≠ 0) (hf : ccell a c S = .inl (t, n, .inl (S.2.1 a))) (ht : t < 3) : zm_aI (cmem ν sh S) t a i = zag n (S.2.1 a) i := by
  unfold zm_aI zag
  rw [cm_at h hc, hf]
  show (if t % 10 = t ∧ t < 12 ∧ ¬ (i < 0 ∨ n ≤ i.toNatClampNeg) then some (S.2.1 a i.toNatClampNeg) else none) = _
  by_cases hq : i < 0 ∨ n ≤ i.toNatClampNeg
  · rw [if_pos hq, if_neg (fun z => z.2.2 hq)]
  · rw [if_neg hq, if_pos ⟨by omega, by omega, hq⟩]
theorem cm_sI {ν : zM} {sh : Nat → Nat} {S : zCS} {a c t n : Nat} {i v : Int32} (h : sh a = c) (hc : c ≠ 0) (hf : ∀ S, ccell a c S = .inl (t, n, .inl (S.2.1 a))) : zm_sI (cmem ν sh S) t a i v = Option.map (fun g => cmem ν sh (csA S a g)) (zas n (S.2.1 a) i v) := by
  unfold zm_sI zas
  rw [cm_at h hc, hf]
  show (if t = t ∧ ¬ (i < 0 ∨ n ≤ i.toNatClampNeg) then some (zm_up (cmem ν sh S) a (.inl (t, n, .inl (upd (S.2.1 a) i.toNatClampNeg v)))) else none) = _
  by_cases hq : i < 0 ∨ n ≤ i.toNatClampNeg
  · rw [if_pos hq, if_neg (fun z => z.2 hq)]; rfl
  · rw [if_neg hq, if_pos ⟨rfl, hq⟩]
    refine congrArg some (cm_up (by rw [h]; exact hc) ?_ (fun q hq => csA_o hq))
    rw [h, hf]
    simp [csA]
theorem cm_len {ν : zM} {sh : Nat → Nat} {S : zCS} {a c t n : Nat} (h : sh a = c) (hc : c ≠ 0) (hf : ccell a c S = .inl (t, n, .inl (S.2.1 a))) (ht : t < 12) : zm_len (cmem ν sh S) a = some (Int32.ofNat n) := by
  unfold zm_len
  rw [cm_at h hc, hf]
  show (if t < 12 then some (Int32.ofNat n) else none) = _
  rw [if_pos ht]
def zcp (t n0 n1 : Nat) (f g : Nat → Int32) (sp dp n : Int32) : Option (Nat → Int32) := if ¬ sp < 0 ∧ ¬ dp < 0 ∧ ¬ n < 0 ∧ sp.toNatClampNeg + n.toNatClampNeg ≤ n0 ∧ dp.toNatClampNeg + n.toNatClampNeg ≤ n1 ∧ (List.range n.toNatClampNeg).all (fun i => fits (zty t) (.int (f (sp.toNatClampNeg + i)))) = true then some (va_cpy f g sp.toNatClampNeg dp.toNatClampNeg n.toNatClampNeg) else none
theorem cm_cpy {ν : zM} {sh : Nat → Nat} {S : zCS} {a0 c0 n0 a c t n1 : Nat} {sp dp n : Int32} (h0 : sh a0 = c0) (hc0 : c0 ≠ 0) (hf0 : ccell a0 c0 S = .inl (t, n0, .inl (S.2.1 a0))) (h : sh a = c) (hc : c ≠ 0) (hf : ∀ S, ccell a c S = .inl (t, n1, .inl (S.2.1 a))) : zm_cpy (cmem ν sh S) t a0 sp a dp n = Option.map (fun g => cmem ν sh (csA S a g)) (zcp t n0 n1 (S.2.1 a0) (S.2.1 a) sp dp n) := by
  unfold zm_cpy zcp
  rw [cm_at h0 hc0, hf0, cm_at h hc, hf]
  show (if t = t ∧ t = t ∧ _ then some (zm_up (cmem ν sh S) a (.inl (t, n1, .inl (va_cpy (S.2.1 a0) (S.2.1 a) sp.toNatClampNeg dp.toNatClampNeg n.toNatClampNeg)))) else none) = _
  by_cases hq : ¬ sp < 0 ∧ ¬ dp < 0 ∧ ¬ n < 0 ∧ sp.toNatClampNeg + n.toNatClampNeg ≤ n0 ∧ dp.toNatClampNeg + n.toNatClampNeg ≤ n1 ∧ (List.range n.toNatClampNeg).all (fun i => fits (zty t) (.int (S.2.1 a0 (sp.toNatClampNeg + i)))) = true
  · rw [if_pos hq, if_pos ⟨rfl, rfl, hq⟩]
    refine congrArg some (cm_up (by rw [h]; exact hc) ?_ (fun q hq => csA_o hq))
    rw [h, hf]
    simp [csA]
  · rw [if_neg hq, if_neg (fun z => hq z.2.2)]
    rfl
def isX0 (sh : Nat → Nat) (a : Nat) : Prop := sh a = 1 ∧ sh (a + 1) = 1006 ∧ sh (a + 2) = 1006 ∧ sh (a + 3) = 1006
theorem isX0_0 {sh : Nat → Nat} {a : Nat} (h : isX0 sh a) : sh a = 1 := h.1
theorem isX0_1 {sh : Nat → Nat} {a : Nat} (h : isX0 sh a) : sh (a + 1) = 1006 := h.2.1
theorem isX0_2 {sh : Nat → Nat} {a : Nat} (h : isX0 sh a) : sh (a + 2) = 1006 := h.2.2.1
theorem isX0_3 {sh : Nat → Nat} {a : Nat} (h : isX0 sh a) : sh (a + 3) = 1006 := h.2.2.2
theorem ck_X0 {ν : zM} {sh : Nat → Nat} {S : zCS} {a : Nat} (h : isX0 sh a) : zm_ck (cmem ν sh S) 0 a = true := by unfold zm_ck; rw [cm_at (isX0_0 h) (by decide)]; rfl
theorem cgr_X0_0 {ν : zM} {sh : Nat → Nat} {S : zCS} {a : Nat} (h : isX0 sh a) : zm_gR (cmem ν sh S) 0 a 0 = some (a + 1) := by unfold zm_gR zm_g; rw [cm_at (isX0_0 h) (by decide)]; rfl
theorem cg_X0_0 {ν : zM} {sh : Nat → Nat} {S : zCS} {a : Nat} {R : Type} {K : Nat → Option R} (h : isX0 sh a) : zb1 (zm_gR (cmem ν sh S) 0 a 0) K = K (a + 1) := by rw [cgr_X0_0 h]; rfl
theorem cgr_X0_1 {ν : zM} {sh : Nat → Nat} {S : zCS} {a : Nat} (h : isX0 sh a) : zm_gR (cmem ν sh S) 0 a 1 = some (a + 2) := by unfold zm_gR zm_g; rw [cm_at (isX0_0 h) (by decide)]; rfl
theorem cg_X0_1 {ν : zM} {sh : Nat → Nat} {S : zCS} {a : Nat} {R : Type} {K : Nat → Option R} (h : isX0 sh a) : zb1 (zm_gR (cmem ν sh S) 0 a 1) K = K (a + 2) := by rw [cgr_X0_1 h]; rfl
theorem cgr_X0_2 {ν : zM} {sh : Nat → Nat} {S : zCS} {a : Nat} (h : isX0 sh a) : zm_gR (cmem ν sh S) 0 a 2 = some (a + 3) := by unfold zm_gR zm_g; rw [cm_at (isX0_0 h) (by decide)]; rfl
theorem cg_X0_2 {ν : zM} {sh : Nat → Nat} {S : zCS} {a : Nat} {R : Type} {K : Nat → Option R} (h : isX0 sh a) : zb1 (zm_gR (cmem ν sh S) 0 a 2) K = K (a + 3) := by rw [cgr_X0_2 h]; rfl
def isX1 (sh : Nat → Nat) (a : Nat) : Prop := sh a = 2 ∧ sh (a + 1) = 1006 ∧ sh (a + 2) = 1600 ∧ sh (a + 3) = 1600
theorem isX1_0 {sh : Nat → Nat} {a : Nat} (h : isX1 sh a) : sh a = 2 := h.1
theorem isX1_1 {sh : Nat → Nat} {a : Nat} (h : isX1 sh a) : sh (a + 1) = 1006 := h.2.1
theorem isX1_2 {sh : Nat → Nat} {a : Nat} (h : isX1 sh a) : sh (a + 2) = 1600 := h.2.2.1
theorem isX1_3 {sh : Nat → Nat} {a : Nat} (h : isX1 sh a) : sh (a + 3) = 1600 := h.2.2.2
theorem ck_X1 {ν : zM} {sh : Nat → Nat} {S : zCS} {a : Nat} (h : isX1 sh a) : zm_ck (cmem ν sh S) 1 a = true := by unfold zm_ck; rw [cm_at (isX1_0 h) (by decide)]; rfl
theorem cgr_X1_0 {ν : zM} {sh : Nat → Nat} {S : zCS} {a : Nat} (h : isX1 sh a) : zm_gI (cmem ν sh S) 1 a 0 = some (S.1 a 0) := by unfold zm_gI zm_g; rw [cm_at (isX1_0 h) (by decide)]; rfl
theorem cg_X1_0 {ν : zM} {sh : Nat → Nat} {S : zCS} {a : Nat} {R : Type} {K : Int32 → Option R} (h : isX1 sh a) : zb1 (zm_gI (cmem ν sh S) 1 a 0) K = K (S.1 a 0) := by rw [cgr_X1_0 h]; rfl
theorem cpr_X1_0 {ν : zM} {sh : Nat → Nat} {S : zCS} {a : Nat} {v : Int32} (h : isX1 sh a) : zm_p (cmem ν sh S) 1 a 0 (.int v) = some (cmem ν sh (csI S a 0 v)) := cm_p (isX1_0 h) (by decide) rfl (Nat.le_of_ble_eq_true rfl) (by simp [ccell, csI])
theorem cp_X1_0 {ν : zM} {sh : Nat → Nat} {S : zCS} {a : Nat} {v : Int32} {R : Type} {K : zM → Option R} (h : isX1 sh a) : zb1 (zm_p (cmem ν sh S) 1 a 0 (.int v)) K = zb1 (some (csI S a 0 v)) (fun X => K (cmem ν sh X)) := by rw [cpr_X1_0 h]; rfl
theorem cgr_X1_1 {ν : zM} {sh : Nat → Nat} {S : zCS} {a : Nat} (h : isX1 sh a) : zm_gI (cmem ν sh S) 1 a 1 = some (S.1 a 1) := by unfold zm_gI zm_g; rw [cm_at (isX1_0 h) (by decide)]; rfl
theorem cg_X1_1 {ν : zM} {sh : Nat → Nat} {S : zCS} {a : Nat} {R : Type} {K : Int32 → Option R} (h : isX1 sh a) : zb1 (zm_gI (cmem ν sh S) 1 a 1) K = K (S.1 a 1) := by rw [cgr_X1_1 h]; rfl
theorem cpr_X1_1 {ν : zM} {sh : Nat → Nat} {S : zCS} {a : Nat} {v : Int32} (h : isX1 sh a) : zm_p (cmem ν sh S) 1 a 1 (.int v) = some (cmem ν sh (csI S a 1 v)) := cm_p (isX1_0 h) (by decide) rfl (Nat.le_of_ble_eq_true rfl) (by simp [ccell, csI])
theorem cp_X1_1 {ν : zM} {sh : Nat → Nat} {S : zCS} {a : Nat} {v : Int32} {R : Type} {K : zM → Option R} (h : isX1 sh a) : zb1 (zm_p (cmem ν sh S) 1 a 1 (.int v)) K = zb1 (some (csI S a 1 v)) (fun X => K (cmem ν sh X)) := by rw [cpr_X1_1 h]; rfl
theorem cgr_X1_2 {ν : zM} {sh : Nat → Nat} {S : zCS} {a : Nat} (h : isX1 sh a) : zm_gI (cmem ν sh S) 1 a 2 = some (S.1 a 2) := by unfold zm_gI zm_g; rw [cm_at (isX1_0 h) (by decide)]; rfl
theorem cg_X1_2 {ν : zM} {sh : Nat → Nat} {S : zCS} {a : Nat} {R : Type} {K : Int32 → Option R} (h : isX1 sh a) : zb1 (zm_gI (cmem ν sh S) 1 a 2) K = K (S.1 a 2) := by rw [cgr_X1_2 h]; rfl
theorem cpr_X1_2 {ν : zM} {sh : Nat → Nat} {S : zCS} {a : Nat} {v : Int32} (h : isX1 sh a) : zm_p (cmem ν sh S) 1 a 2 (.int v) = some (cmem ν sh (csI S a 2 v)) := cm_p (isX1_0 h) (by decide) rfl (Nat.le_of_ble_eq_true rfl) (by simp [ccell, csI])
theorem cp_X1_2 {ν : zM} {sh : Nat → Nat} {S : zCS} {a : Nat} {v : Int32} {R : Type} {K : zM → Option R} (h : isX1 sh a) : zb1 (zm_p (cmem ν sh S) 1 a 2 (.int v)) K = zb1 (some (csI S a 2 v)) (fun X => K (cmem ν sh X)) := by rw [cpr_X1_2 h]; rfl
theorem cgr_X1_3 {ν : zM} {sh : Nat → Nat} {S : zCS} {a : Nat} (h : isX1 sh a) : zm_gR (cmem ν sh S) 1 a 3 = some (a + 1) := by unfold zm_gR zm_g; rw [cm_at (isX1_0 h) (by decide)]; rfl
theorem cg_X1_3 {ν : zM} {sh : Nat → Nat} {S : zCS} {a : Nat} {R : Type} {K : Nat → Option R} (h : isX1 sh a) : zb1 (zm_gR (cmem ν sh S) 1 a 3) K = K (a + 1) := by rw [cgr_X1_3 h]; rfl
theorem cgr_X1_4 {ν : zM} {sh : Nat → Nat} {S : zCS} {a : Nat} (h : isX1 sh a) : zm_gR (cmem ν sh S) 1 a 4 = some (a + 2) := by unfold zm_gR zm_g; rw [cm_at (isX1_0 h) (by decide)]; rfl
theorem cg_X1_4 {ν : zM} {sh : Nat → Nat} {S : zCS} {a : Nat} {R : Type} {K : Nat → Option R} (h : isX1 sh a) : zb1 (zm_gR (cmem ν sh S) 1 a 4) K = K (a + 2) := by rw [cgr_X1_4 h]; rfl
theorem cgr_X1_5 {ν : zM} {sh : Nat → Nat} {S : zCS} {a : Nat} (h : isX1 sh a) : zm_gR (cmem ν sh S) 1 a 5 = some (a + 3) := by unfold zm_gR zm_g; rw [cm_at (isX1_0 h) (by decide)]; rfl
theorem cg_X1_5 {ν : zM} {sh : Nat → Nat} {S : zCS} {a : Nat} {R : Type} {K : Nat → Option R} (h : isX1 sh a) : zb1 (zm_gR (cmem ν sh S) 1 a 5) K = K (a + 3) := by rw [cgr_X1_5 h]; rfl
def isX2 (sh : Nat → Nat) (a : Nat) : Prop := sh a = 3 ∧ sh (a + 1) = 1040 ∧ sh (a + 2) = 1040 ∧ sh (a + 3) = 1040
theorem isX2_0 {sh : Nat → Nat} {a : Nat} (h : isX2 sh a) : sh a = 3 := h.1
theorem isX2_1 {sh : Nat → Nat} {a : Nat} (h : isX2 sh a) : sh (a + 1) = 1040 := h.2.1
theorem isX2_2 {sh : Nat → Nat} {a : Nat} (h : isX2 sh a) : sh (a + 2) = 1040 := h.2.2.1
theorem isX2_3 {sh : Nat → Nat} {a : Nat} (h : isX2 sh a) : sh (a + 3) = 1040 := h.2.2.2
theorem ck_X2 {ν : zM} {sh : Nat → Nat} {S : zCS} {a : Nat} (h : isX2 sh a) : zm_ck (cmem ν sh S) 2 a = true := by unfold zm_ck; rw [cm_at (isX2_0 h) (by decide)]; rfl
theorem cgr_X2_0 {ν : zM} {sh : Nat → Nat} {S : zCS} {a : Nat} (h : isX2 sh a) : zm_gI (cmem ν sh S) 2 a 0 = some (S.1 a 0) := by unfold zm_gI zm_g; rw [cm_at (isX2_0 h) (by decide)]; rfl
theorem cg_X2_0 {ν : zM} {sh : Nat → Nat} {S : zCS} {a : Nat} {R : Type} {K : Int32 → Option R} (h : isX2 sh a) : zb1 (zm_gI (cmem ν sh S) 2 a 0) K = K (S.1 a 0) := by rw [cgr_X2_0 h]; rfl
theorem cpr_X2_0 {ν : zM} {sh : Nat → Nat} {S : zCS} {a : Nat} {v : Int32} (h : isX2 sh a) : zm_p (cmem ν sh S) 2 a 0 (.int v) = some (cmem ν sh (csI S a 0 v)) := cm_p (isX2_0 h) (by decide) rfl (Nat.le_of_ble_eq_true rfl) (by simp [ccell, csI])
theorem cp_X2_0 {ν : zM} {sh : Nat → Nat} {S : zCS} {a : Nat} {v : Int32} {R : Type} {K : zM → Option R} (h : isX2 sh a) : zb1 (zm_p (cmem ν sh S) 2 a 0 (.int v)) K = zb1 (some (csI S a 0 v)) (fun X => K (cmem ν sh X)) := by rw [cpr_X2_0 h]; rfl
theorem cgr_X2_1 {ν : zM} {sh : Nat → Nat} {S : zCS} {a : Nat} (h : isX2 sh a) : zm_gR (cmem ν sh S) 2 a 1 = some (a + 1) := by unfold zm_gR zm_g; rw [cm_at (isX2_0 h) (by decide)]; rfl
theorem cg_X2_1 {ν : zM} {sh : Nat → Nat} {S : zCS} {a : Nat} {R : Type} {K : Nat → Option R} (h : isX2 sh a) : zb1 (zm_gR (cmem ν sh S) 2 a 1) K = K (a + 1) := by rw [cgr_X2_1 h]; rfl
theorem cgr_X2_2 {ν : zM} {sh : Nat → Nat} {S : zCS} {a : Nat} (h : isX2 sh a) : zm_gR (cmem ν sh S) 2 a 2 = some (a + 2) := by unfold zm_gR zm_g; rw [cm_at (isX2_0 h) (by decide)]; rfl
theorem cg_X2_2 {ν : zM} {sh : Nat → Nat} {S : zCS} {a : Nat} {R : Type} {K : Nat → Option R} (h : isX2 sh a) : zb1 (zm_gR (cmem ν sh S) 2 a 2) K = K (a + 2) := by rw [cgr_X2_2 h]; rfl
theorem cgr_X2_3 {ν : zM} {sh : Nat → Nat} {S : zCS} {a : Nat} (h : isX2 sh a) : zm_gR (cmem ν sh S) 2 a 3 = some (a + 3) := by unfold zm_gR zm_g; rw [cm_at (isX2_0 h) (by decide)]; rfl
theorem cg_X2_3 {ν : zM} {sh : Nat → Nat} {S : zCS} {a : Nat} {R : Type} {K : Nat → Option R} (h : isX2 sh a) : zb1 (zm_gR (cmem ν sh S) 2 a 3) K = K (a + 3) := by rw [cgr_X2_3 h]; rfl
def isX3 (sh : Nat → Nat) (a : Nat) : Prop := sh a = 4 ∧ sh (a + 1) = 1010 ∧ sh (a + 2) = 1010
theorem isX3_0 {sh : Nat → Nat} {a : Nat} (h : isX3 sh a) : sh a = 4 := h.1
theorem isX3_1 {sh : Nat → Nat} {a : Nat} (h : isX3 sh a) : sh (a + 1) = 1010 := h.2.1
theorem isX3_2 {sh : Nat → Nat} {a : Nat} (h : isX3 sh a) : sh (a + 2) = 1010 := h.2.2
theorem ck_X3 {ν : zM} {sh : Nat → Nat} {S : zCS} {a : Nat} (h : isX3 sh a) : zm_ck (cmem ν sh S) 3 a = true := by unfold zm_ck; rw [cm_at (isX3_0 h) (by decide)]; rfl
theorem cgr_X3_0 {ν : zM} {sh : Nat → Nat} {S : zCS} {a : Nat} (h : isX3 sh a) : zm_gI (cmem ν sh S) 3 a 0 = some (S.1 a 0) := by unfold zm_gI zm_g; rw [cm_at (isX3_0 h) (by decide)]; rfl
theorem cg_X3_0 {ν : zM} {sh : Nat → Nat} {S : zCS} {a : Nat} {R : Type} {K : Int32 → Option R} (h : isX3 sh a) : zb1 (zm_gI (cmem ν sh S) 3 a 0) K = K (S.1 a 0) := by rw [cgr_X3_0 h]; rfl
theorem cpr_X3_0 {ν : zM} {sh : Nat → Nat} {S : zCS} {a : Nat} {v : Int32} (h : isX3 sh a) : zm_p (cmem ν sh S) 3 a 0 (.int v) = some (cmem ν sh (csI S a 0 v)) := cm_p (isX3_0 h) (by decide) rfl (Nat.le_of_ble_eq_true rfl) (by simp [ccell, csI])
theorem cp_X3_0 {ν : zM} {sh : Nat → Nat} {S : zCS} {a : Nat} {v : Int32} {R : Type} {K : zM → Option R} (h : isX3 sh a) : zb1 (zm_p (cmem ν sh S) 3 a 0 (.int v)) K = zb1 (some (csI S a 0 v)) (fun X => K (cmem ν sh X)) := by rw [cpr_X3_0 h]; rfl
theorem cgr_X3_1 {ν : zM} {sh : Nat → Nat} {S : zCS} {a : Nat} (h : isX3 sh a) : zm_gI (cmem ν sh S) 3 a 1 = some (S.1 a 1) := by unfold zm_gI zm_g; rw [cm_at (isX3_0 h) (by decide)]; rfl
theorem cg_X3_1 {ν : zM} {sh : Nat → Nat} {S : zCS} {a : Nat} {R : Type} {K : Int32 → Option R} (h : isX3 sh a) : zb1 (zm_gI (cmem ν sh S) 3 a 1) K = K (S.1 a 1) := by rw [cgr_X3_1 h]; rfl
theorem cpr_X3_1 {ν : zM} {sh : Nat → Nat} {S : zCS} {a : Nat} {v : Int32} (h : isX3 sh a) : zm_p (cmem ν sh S) 3 a 1 (.int v) = some (cmem ν sh (csI S a 1 v)) := cm_p (isX3_0 h) (by decide) rfl (Nat.le_of_ble_eq_true rfl) (by simp [ccell, csI])
theorem cp_X3_1 {ν : zM} {sh : Nat → Nat} {S : zCS} {a : Nat} {v : Int32} {R : Type} {K : zM → Option R} (h : isX3 sh a) : zb1 (zm_p (cmem ν sh S) 3 a 1 (.int v)) K = zb1 (some (csI S a 1 v)) (fun X => K (cmem ν sh X)) := by rw [cpr_X3_1 h]; rfl
theorem cgr_X3_2 {ν : zM} {sh : Nat → Nat} {S : zCS} {a : Nat} (h : isX3 sh a) : zm_gR (cmem ν sh S) 3 a 2 = some (a + 1) := by unfold zm_gR zm_g; rw [cm_at (isX3_0 h) (by decide)]; rfl
theorem cg_X3_2 {ν : zM} {sh : Nat → Nat} {S : zCS} {a : Nat} {R : Type} {K : Nat → Option R} (h : isX3 sh a) : zb1 (zm_gR (cmem ν sh S) 3 a 2) K = K (a + 1) := by rw [cgr_X3_2 h]; rfl
theorem cgr_X3_3 {ν : zM} {sh : Nat → Nat} {S : zCS} {a : Nat} (h : isX3 sh a) : zm_gR (cmem ν sh S) 3 a 3 = some (a + 2) := by unfold zm_gR zm_g; rw [cm_at (isX3_0 h) (by decide)]; rfl
theorem cg_X3_3 {ν : zM} {sh : Nat → Nat} {S : zCS} {a : Nat} {R : Type} {K : Nat → Option R} (h : isX3 sh a) : zb1 (zm_gR (cmem ν sh S) 3 a 3) K = K (a + 2) := by rw [cgr_X3_3 h]; rfl
def isX5 (sh : Nat → Nat) (a : Nat) : Prop := sh a = 6 ∧ sh (a + 1) = 4100 ∧ sh (a + 2) = 1010
theorem isX5_0 {sh : Nat → Nat} {a : Nat} (h : isX5 sh a) : sh a = 6 := h.1
theorem isX5_1 {sh : Nat → Nat} {a : Nat} (h : isX5 sh a) : sh (a + 1) = 4100 := h.2.1
theorem isX5_2 {sh : Nat → Nat} {a : Nat} (h : isX5 sh a) : sh (a + 2) = 1010 := h.2.2
theorem ck_X5 {ν : zM} {sh : Nat → Nat} {S : zCS} {a : Nat} (h : isX5 sh a) : zm_ck (cmem ν sh S) 5 a = true := by unfold zm_ck; rw [cm_at (isX5_0 h) (by decide)]; rfl
theorem cgr_X5_0 {ν : zM} {sh : Nat → Nat} {S : zCS} {a : Nat} (h : isX5 sh a) : zm_gR (cmem ν sh S) 5 a 0 = some (a + 1) := by unfold zm_gR zm_g; rw [cm_at (isX5_0 h) (by decide)]; rfl
theorem cg_X5_0 {ν : zM} {sh : Nat → Nat} {S : zCS} {a : Nat} {R : Type} {K : Nat → Option R} (h : isX5 sh a) : zb1 (zm_gR (cmem ν sh S) 5 a 0) K = K (a + 1) := by rw [cgr_X5_0 h]; rfl
theorem cgr_X5_1 {ν : zM} {sh : Nat → Nat} {S : zCS} {a : Nat} (h : isX5 sh a) : zm_gR (cmem ν sh S) 5 a 1 = some (a + 2) := by unfold zm_gR zm_g; rw [cm_at (isX5_0 h) (by decide)]; rfl
theorem cg_X5_1 {ν : zM} {sh : Nat → Nat} {S : zCS} {a : Nat} {R : Type} {K : Nat → Option R} (h : isX5 sh a) : zb1 (zm_gR (cmem ν sh S) 5 a 1) K = K (a + 2) := by rw [cgr_X5_1 h]; rfl
theorem cgr_X5_2 {ν : zM} {sh : Nat → Nat} {S : zCS} {a : Nat} (h : isX5 sh a) : zm_gI (cmem ν sh S) 5 a 2 = some (S.1 a 2) := by unfold zm_gI zm_g; rw [cm_at (isX5_0 h) (by decide)]; rfl
theorem cg_X5_2 {ν : zM} {sh : Nat → Nat} {S : zCS} {a : Nat} {R : Type} {K : Int32 → Option R} (h : isX5 sh a) : zb1 (zm_gI (cmem ν sh S) 5 a 2) K = K (S.1 a 2) := by rw [cgr_X5_2 h]; rfl
theorem cpr_X5_2 {ν : zM} {sh : Nat → Nat} {S : zCS} {a : Nat} {v : Int32} (h : isX5 sh a) : zm_p (cmem ν sh S) 5 a 2 (.int v) = some (cmem ν sh (csI S a 2 v)) := cm_p (isX5_0 h) (by decide) rfl (Nat.le_of_ble_eq_true rfl) (by simp [ccell, csI])
theorem cp_X5_2 {ν : zM} {sh : Nat → Nat} {S : zCS} {a : Nat} {v : Int32} {R : Type} {K : zM → Option R} (h : isX5 sh a) : zb1 (zm_p (cmem ν sh S) 5 a 2 (.int v)) K = zb1 (some (csI S a 2 v)) (fun X => K (cmem ν sh X)) := by rw [cpr_X5_2 h]; rfl
def isX6 (sh : Nat → Nat) (a : Nat) : Prop := sh a = 7 ∧ sh (a + 1) = 1008 ∧ sh (a + 2) = 1008 ∧ sh (a + 3) = 1008 ∧ sh (a + 4) = 1008
theorem isX6_0 {sh : Nat → Nat} {a : Nat} (h : isX6 sh a) : sh a = 7 := h.1
theorem isX6_1 {sh : Nat → Nat} {a : Nat} (h : isX6 sh a) : sh (a + 1) = 1008 := h.2.1
theorem isX6_2 {sh : Nat → Nat} {a : Nat} (h : isX6 sh a) : sh (a + 2) = 1008 := h.2.2.1
theorem isX6_3 {sh : Nat → Nat} {a : Nat} (h : isX6 sh a) : sh (a + 3) = 1008 := h.2.2.2.1
theorem isX6_4 {sh : Nat → Nat} {a : Nat} (h : isX6 sh a) : sh (a + 4) = 1008 := h.2.2.2.2
theorem ck_X6 {ν : zM} {sh : Nat → Nat} {S : zCS} {a : Nat} (h : isX6 sh a) : zm_ck (cmem ν sh S) 6 a = true := by unfold zm_ck; rw [cm_at (isX6_0 h) (by decide)]; rfl
theorem cgr_X6_0 {ν : zM} {sh : Nat → Nat} {S : zCS} {a : Nat} (h : isX6 sh a) : zm_gI (cmem ν sh S) 6 a 0 = some (S.1 a 0) := by unfold zm_gI zm_g; rw [cm_at (isX6_0 h) (by decide)]; rfl
theorem cg_X6_0 {ν : zM} {sh : Nat → Nat} {S : zCS} {a : Nat} {R : Type} {K : Int32 → Option R} (h : isX6 sh a) : zb1 (zm_gI (cmem ν sh S) 6 a 0) K = K (S.1 a 0) := by rw [cgr_X6_0 h]; rfl
theorem cpr_X6_0 {ν : zM} {sh : Nat → Nat} {S : zCS} {a : Nat} {v : Int32} (h : isX6 sh a) : zm_p (cmem ν sh S) 6 a 0 (.int v) = some (cmem ν sh (csI S a 0 v)) := cm_p (isX6_0 h) (by decide) rfl (Nat.le_of_ble_eq_true rfl) (by simp [ccell, csI])
theorem cp_X6_0 {ν : zM} {sh : Nat → Nat} {S : zCS} {a : Nat} {v : Int32} {R : Type} {K : zM → Option R} (h : isX6 sh a) : zb1 (zm_p (cmem ν sh S) 6 a 0 (.int v)) K = zb1 (some (csI S a 0 v)) (fun X => K (cmem ν sh X)) := by rw [cpr_X6_0 h]; rfl
theorem cgr_X6_1 {ν : zM} {sh : Nat → Nat} {S : zCS} {a : Nat} (h : isX6 sh a) : zm_gR (cmem ν sh S) 6 a 1 = some (a + 1) := by unfold zm_gR zm_g; rw [cm_at (isX6_0 h) (by decide)]; rfl
theorem cg_X6_1 {ν : zM} {sh : Nat → Nat} {S : zCS} {a : Nat} {R : Type} {K : Nat → Option R} (h : isX6 sh a) : zb1 (zm_gR (cmem ν sh S) 6 a 1) K = K (a + 1) := by rw [cgr_X6_1 h]; rfl
theorem cgr_X6_2 {ν : zM} {sh : Nat → Nat} {S : zCS} {a : Nat} (h : isX6 sh a) : zm_gR (cmem ν sh S) 6 a 2 = some (a + 2) := by unfold zm_gR zm_g; rw [cm_at (isX6_0 h) (by decide)]; rfl
theorem cg_X6_2 {ν : zM} {sh : Nat → Nat} {S : zCS} {a : Nat} {R : Type} {K : Nat → Option R} (h : isX6 sh a) : zb1 (zm_gR (cmem ν sh S) 6 a 2) K = K (a + 2) := by rw [cgr_X6_2 h]; rfl
theorem cgr_X6_3 {ν : zM} {sh : Nat → Nat} {S : zCS} {a : Nat} (h : isX6 sh a) : zm_gR (cmem ν sh S) 6 a 3 = some (a + 3) := by unfold zm_gR zm_g; rw [cm_at (isX6_0 h) (by decide)]; rfl
theorem cg_X6_3 {ν : zM} {sh : Nat → Nat} {S : zCS} {a : Nat} {R : Type} {K : Nat → Option R} (h : isX6 sh a) : zb1 (zm_gR (cmem ν sh S) 6 a 3) K = K (a + 3) := by rw [cgr_X6_3 h]; rfl
theorem cgr_X6_4 {ν : zM} {sh : Nat → Nat} {S : zCS} {a : Nat} (h : isX6 sh a) : zm_gR (cmem ν sh S) 6 a 4 = some (a + 4) := by unfold zm_gR zm_g; rw [cm_at (isX6_0 h) (by decide)]; rfl
theorem cg_X6_4 {ν : zM} {sh : Nat → Nat} {S : zCS} {a : Nat} {R : Type} {K : Nat → Option R} (h : isX6 sh a) : zb1 (zm_gR (cmem ν sh S) 6 a 4) K = K (a + 4) := by rw [cgr_X6_4 h]; rfl
def isX8 (sh : Nat → Nat) (a : Nat) : Prop := sh a = 9 ∧ sh (a + 1) = 1100 ∧ sh (a + 2) = 1100
theorem isX8_0 {sh : Nat → Nat} {a : Nat} (h : isX8 sh a) : sh a = 9 := h.1
theorem isX8_1 {sh : Nat → Nat} {a : Nat} (h : isX8 sh a) : sh (a + 1) = 1100 := h.2.1
theorem isX8_2 {sh : Nat → Nat} {a : Nat} (h : isX8 sh a) : sh (a + 2) = 1100 := h.2.2
theorem ck_X8 {ν : zM} {sh : Nat → Nat} {S : zCS} {a : Nat} (h : isX8 sh a) : zm_ck (cmem ν sh S) 8 a = true := by unfold zm_ck; rw [cm_at (isX8_0 h) (by decide)]; rfl
theorem cgr_X8_0 {ν : zM} {sh : Nat → Nat} {S : zCS} {a : Nat} (h : isX8 sh a) : zm_gR (cmem ν sh S) 8 a 0 = some (a + 1) := by unfold zm_gR zm_g; rw [cm_at (isX8_0 h) (by decide)]; rfl
theorem cg_X8_0 {ν : zM} {sh : Nat → Nat} {S : zCS} {a : Nat} {R : Type} {K : Nat → Option R} (h : isX8 sh a) : zb1 (zm_gR (cmem ν sh S) 8 a 0) K = K (a + 1) := by rw [cgr_X8_0 h]; rfl
theorem cgr_X8_1 {ν : zM} {sh : Nat → Nat} {S : zCS} {a : Nat} (h : isX8 sh a) : zm_gR (cmem ν sh S) 8 a 1 = some (a + 2) := by unfold zm_gR zm_g; rw [cm_at (isX8_0 h) (by decide)]; rfl
theorem cg_X8_1 {ν : zM} {sh : Nat → Nat} {S : zCS} {a : Nat} {R : Type} {K : Nat → Option R} (h : isX8 sh a) : zb1 (zm_gR (cmem ν sh S) 8 a 1) K = K (a + 2) := by rw [cgr_X8_1 h]; rfl
def isX9 (sh : Nat → Nat) (a : Nat) : Prop := sh a = 10 ∧ sh (a + 1) = 1008 ∧ sh (a + 2) = 1008 ∧ sh (a + 3) = 1008 ∧ sh (a + 4) = 1006 ∧ sh (a + 5) = 1006 ∧ sh (a + 6) = 1006 ∧ sh (a + 7) = 1004 ∧ sh (a + 8) = 1004 ∧ sh (a + 9) = 1004 ∧ sh (a + 10) = 1100
theorem isX9_0 {sh : Nat → Nat} {a : Nat} (h : isX9 sh a) : sh a = 10 := h.1
theorem isX9_1 {sh : Nat → Nat} {a : Nat} (h : isX9 sh a) : sh (a + 1) = 1008 := h.2.1
theorem isX9_2 {sh : Nat → Nat} {a : Nat} (h : isX9 sh a) : sh (a + 2) = 1008 := h.2.2.1
theorem isX9_3 {sh : Nat → Nat} {a : Nat} (h : isX9 sh a) : sh (a + 3) = 1008 := h.2.2.2.1
theorem isX9_4 {sh : Nat → Nat} {a : Nat} (h : isX9 sh a) : sh (a + 4) = 1006 := h.2.2.2.2.1
theorem isX9_5 {sh : Nat → Nat} {a : Nat} (h : isX9 sh a) : sh (a + 5) = 1006 := h.2.2.2.2.2.1
theorem isX9_6 {sh : Nat → Nat} {a : Nat} (h : isX9 sh a) : sh (a + 6) = 1006 := h.2.2.2.2.2.2.1
theorem isX9_7 {sh : Nat → Nat} {a : Nat} (h : isX9 sh a) : sh (a + 7) = 1004 := h.2.2.2.2.2.2.2.1
theorem isX9_8 {sh : Nat → Nat} {a : Nat} (h : isX9 sh a) : sh (a + 8) = 1004 := h.2.2.2.2.2.2.2.2.1
theorem isX9_9 {sh : Nat → Nat} {a : Nat} (h : isX9 sh a) : sh (a + 9) = 1004 := h.2.2.2.2.2.2.2.2.2.1
theorem isX9_10 {sh : Nat → Nat} {a : Nat} (h : isX9 sh a) : sh (a + 10) = 1100 := h.2.2.2.2.2.2.2.2.2.2
theorem ck_X9 {ν : zM} {sh : Nat → Nat} {S : zCS} {a : Nat} (h : isX9 sh a) : zm_ck (cmem ν sh S) 9 a = true := by unfold zm_ck; rw [cm_at (isX9_0 h) (by decide)]; rfl
theorem cgr_X9_0 {ν : zM} {sh : Nat → Nat} {S : zCS} {a : Nat} (h : isX9 sh a) : zm_gI (cmem ν sh S) 9 a 0 = some (S.1 a 0) := by unfold zm_gI zm_g; rw [cm_at (isX9_0 h) (by decide)]; rfl
theorem cg_X9_0 {ν : zM} {sh : Nat → Nat} {S : zCS} {a : Nat} {R : Type} {K : Int32 → Option R} (h : isX9 sh a) : zb1 (zm_gI (cmem ν sh S) 9 a 0) K = K (S.1 a 0) := by rw [cgr_X9_0 h]; rfl
theorem cpr_X9_0 {ν : zM} {sh : Nat → Nat} {S : zCS} {a : Nat} {v : Int32} (h : isX9 sh a) : zm_p (cmem ν sh S) 9 a 0 (.int v) = some (cmem ν sh (csI S a 0 v)) := cm_p (isX9_0 h) (by decide) rfl (Nat.le_of_ble_eq_true rfl) (by simp [ccell, csI])
theorem cp_X9_0 {ν : zM} {sh : Nat → Nat} {S : zCS} {a : Nat} {v : Int32} {R : Type} {K : zM → Option R} (h : isX9 sh a) : zb1 (zm_p (cmem ν sh S) 9 a 0 (.int v)) K = zb1 (some (csI S a 0 v)) (fun X => K (cmem ν sh X)) := by rw [cpr_X9_0 h]; rfl
theorem cgr_X9_1 {ν : zM} {sh : Nat → Nat} {S : zCS} {a : Nat} (h : isX9 sh a) : zm_gR (cmem ν sh S) 9 a 1 = some (a + 1) := by unfold zm_gR zm_g; rw [cm_at (isX9_0 h) (by decide)]; rfl
theorem cg_X9_1 {ν : zM} {sh : Nat → Nat} {S : zCS} {a : Nat} {R : Type} {K : Nat → Option R} (h : isX9 sh a) : zb1 (zm_gR (cmem ν sh S) 9 a 1) K = K (a + 1) := by rw [cgr_X9_1 h]; rfl
theorem cgr_X9_2 {ν : zM} {sh : Nat → Nat} {S : zCS} {a : Nat} (h : isX9 sh a) : zm_gR (cmem ν sh S) 9 a 2 = some (a + 2) := by unfold zm_gR zm_g; rw [cm_at (isX9_0 h) (by decide)]; rfl
theorem cg_X9_2 {ν : zM} {sh : Nat → Nat} {S : zCS} {a : Nat} {R : Type} {K : Nat → Option R} (h : isX9 sh a) : zb1 (zm_gR (cmem ν sh S) 9 a 2) K = K (a + 2) := by rw [cgr_X9_2 h]; rfl
theorem cgr_X9_3 {ν : zM} {sh : Nat → Nat} {S : zCS} {a : Nat} (h : isX9 sh a) : zm_gR (cmem ν sh S) 9 a 3 = some (a + 3) := by unfold zm_gR zm_g; rw [cm_at (isX9_0 h) (by decide)]; rfl
theorem cg_X9_3 {ν : zM} {sh : Nat → Nat} {S : zCS} {a : Nat} {R : Type} {K : Nat → Option R} (h : isX9 sh a) : zb1 (zm_gR (cmem ν sh S) 9 a 3) K = K (a + 3) := by rw [cgr_X9_3 h]; rfl
theorem cgr_X9_4 {ν : zM} {sh : Nat → Nat} {S : zCS} {a : Nat} (h : isX9 sh a) : zm_gI (cmem ν sh S) 9 a 4 = some (S.1 a 4) := by unfold zm_gI zm_g; rw [cm_at (isX9_0 h) (by decide)]; rfl
theorem cg_X9_4 {ν : zM} {sh : Nat → Nat} {S : zCS} {a : Nat} {R : Type} {K : Int32 → Option R} (h : isX9 sh a) : zb1 (zm_gI (cmem ν sh S) 9 a 4) K = K (S.1 a 4) := by rw [cgr_X9_4 h]; rfl
theorem cpr_X9_4 {ν : zM} {sh : Nat → Nat} {S : zCS} {a : Nat} {v : Int32} (h : isX9 sh a) : zm_p (cmem ν sh S) 9 a 4 (.int v) = some (cmem ν sh (csI S a 4 v)) := cm_p (isX9_0 h) (by decide) rfl (Nat.le_of_ble_eq_true rfl) (by simp [ccell, csI])
theorem cp_X9_4 {ν : zM} {sh : Nat → Nat} {S : zCS} {a : Nat} {v : Int32} {R : Type} {K : zM → Option R} (h : isX9 sh a) : zb1 (zm_p (cmem ν sh S) 9 a 4 (.int v)) K = zb1 (some (csI S a 4 v)) (fun X => K (cmem ν sh X)) := by rw [cpr_X9_4 h]; rfl
theorem cgr_X9_5 {ν : zM} {sh : Nat → Nat} {S : zCS} {a : Nat} (h : isX9 sh a) : zm_gR (cmem ν sh S) 9 a 5 = some (a + 4) := by unfold zm_gR zm_g; rw [cm_at (isX9_0 h) (by decide)]; rfl
theorem cg_X9_5 {ν : zM} {sh : Nat → Nat} {S : zCS} {a : Nat} {R : Type} {K : Nat → Option R} (h : isX9 sh a) : zb1 (zm_gR (cmem ν sh S) 9 a 5) K = K (a + 4) := by rw [cgr_X9_5 h]; rfl
theorem cgr_X9_6 {ν : zM} {sh : Nat → Nat} {S : zCS} {a : Nat} (h : isX9 sh a) : zm_gR (cmem ν sh S) 9 a 6 = some (a + 5) := by unfold zm_gR zm_g; rw [cm_at (isX9_0 h) (by decide)]; rfl
theorem cg_X9_6 {ν : zM} {sh : Nat → Nat} {S : zCS} {a : Nat} {R : Type} {K : Nat → Option R} (h : isX9 sh a) : zb1 (zm_gR (cmem ν sh S) 9 a 6) K = K (a + 5) := by rw [cgr_X9_6 h]; rfl
theorem cgr_X9_7 {ν : zM} {sh : Nat → Nat} {S : zCS} {a : Nat} (h : isX9 sh a) : zm_gR (cmem ν sh S) 9 a 7 = some (a + 6) := by unfold zm_gR zm_g; rw [cm_at (isX9_0 h) (by decide)]; rfl
theorem cg_X9_7 {ν : zM} {sh : Nat → Nat} {S : zCS} {a : Nat} {R : Type} {K : Nat → Option R} (h : isX9 sh a) : zb1 (zm_gR (cmem ν sh S) 9 a 7) K = K (a + 6) := by rw [cgr_X9_7 h]; rfl
theorem cgr_X9_8 {ν : zM} {sh : Nat → Nat} {S : zCS} {a : Nat} (h : isX9 sh a) : zm_gI (cmem ν sh S) 9 a 8 = some (S.1 a 8) := by unfold zm_gI zm_g; rw [cm_at (isX9_0 h) (by decide)]; rfl
theorem cg_X9_8 {ν : zM} {sh : Nat → Nat} {S : zCS} {a : Nat} {R : Type} {K : Int32 → Option R} (h : isX9 sh a) : zb1 (zm_gI (cmem ν sh S) 9 a 8) K = K (S.1 a 8) := by rw [cgr_X9_8 h]; rfl
theorem cpr_X9_8 {ν : zM} {sh : Nat → Nat} {S : zCS} {a : Nat} {v : Int32} (h : isX9 sh a) : zm_p (cmem ν sh S) 9 a 8 (.int v) = some (cmem ν sh (csI S a 8 v)) := cm_p (isX9_0 h) (by decide) rfl (Nat.le_of_ble_eq_true rfl) (by simp [ccell, csI])
theorem cp_X9_8 {ν : zM} {sh : Nat → Nat} {S : zCS} {a : Nat} {v : Int32} {R : Type} {K : zM → Option R} (h : isX9 sh a) : zb1 (zm_p (cmem ν sh S) 9 a 8 (.int v)) K = zb1 (some (csI S a 8 v)) (fun X => K (cmem ν sh X)) := by rw [cpr_X9_8 h]; rfl
theorem cgr_X9_9 {ν : zM} {sh : Nat → Nat} {S : zCS} {a : Nat} (h : isX9 sh a) : zm_gR (cmem ν sh S) 9 a 9 = some (a + 7) := by unfold zm_gR zm_g; rw [cm_at (isX9_0 h) (by decide)]; rfl
theorem cg_X9_9 {ν : zM} {sh : Nat → Nat} {S : zCS} {a : Nat} {R : Type} {K : Nat → Option R} (h : isX9 sh a) : zb1 (zm_gR (cmem ν sh S) 9 a 9) K = K (a + 7) := by rw [cgr_X9_9 h]; rfl
theorem cgr_X9_10 {ν : zM} {sh : Nat → Nat} {S : zCS} {a : Nat} (h : isX9 sh a) : zm_gR (cmem ν sh S) 9 a 10 = some (a + 8) := by unfold zm_gR zm_g; rw [cm_at (isX9_0 h) (by decide)]; rfl
theorem cg_X9_10 {ν : zM} {sh : Nat → Nat} {S : zCS} {a : Nat} {R : Type} {K : Nat → Option R} (h : isX9 sh a) : zb1 (zm_gR (cmem ν sh S) 9 a 10) K = K (a + 8) := by rw [cgr_X9_10 h]; rfl
theorem cgr_X9_11 {ν : zM} {sh : Nat → Nat} {S : zCS} {a : Nat} (h : isX9 sh a) : zm_gR (cmem ν sh S) 9 a 11 = some (a + 9) := by unfold zm_gR zm_g; rw [cm_at (isX9_0 h) (by decide)]; rfl
theorem cg_X9_11 {ν : zM} {sh : Nat → Nat} {S : zCS} {a : Nat} {R : Type} {K : Nat → Option R} (h : isX9 sh a) : zb1 (zm_gR (cmem ν sh S) 9 a 11) K = K (a + 9) := by rw [cgr_X9_11 h]; rfl
theorem cgr_X9_12 {ν : zM} {sh : Nat → Nat} {S : zCS} {a : Nat} (h : isX9 sh a) : zm_gR (cmem ν sh S) 9 a 12 = some (a + 10) := by unfold zm_gR zm_g; rw [cm_at (isX9_0 h) (by decide)]; rfl
theorem cg_X9_12 {ν : zM} {sh : Nat → Nat} {S : zCS} {a : Nat} {R : Type} {K : Nat → Option R} (h : isX9 sh a) : zb1 (zm_gR (cmem ν sh S) 9 a 12) K = K (a + 10) := by rw [cgr_X9_12 h]; rfl
def isX7 (sh : Nat → Nat) (a : Nat) : Prop := sh a = 8 ∧ sh (a + 1) = 9001 ∧ sh (a + 2) = 1004 ∧ sh (a + 3) = 9004 ∧ isX9 sh (a + 4) ∧ isX9 sh (a + 15) ∧ sh (a + 26) = 9005 ∧ isX2 sh (a + 27) ∧ isX2 sh (a + 31) ∧ sh (a + 35) = 9006 ∧ isX3 sh (a + 36) ∧ isX3 sh (a + 39) ∧ sh (a + 42) = 9007 ∧ isX6 sh (a + 43) ∧ isX6 sh (a + 48)
theorem isX7_0 {sh : Nat → Nat} {a : Nat} (h : isX7 sh a) : sh a = 8 := h.1
theorem isX7_1 {sh : Nat → Nat} {a : Nat} (h : isX7 sh a) : sh (a + 1) = 9001 := h.2.1
theorem isX7_2 {sh : Nat → Nat} {a : Nat} (h : isX7 sh a) : sh (a + 2) = 1004 := h.2.2.1
theorem isX7_3 {sh : Nat → Nat} {a : Nat} (h : isX7 sh a) : sh (a + 3) = 9004 := h.2.2.2.1
theorem isX7_4 {sh : Nat → Nat} {a : Nat} (h : isX7 sh a) : isX9 sh (a + 4) := h.2.2.2.2.1
theorem isX7_15 {sh : Nat → Nat} {a : Nat} (h : isX7 sh a) : isX9 sh (a + 15) := h.2.2.2.2.2.1
theorem isX7_26 {sh : Nat → Nat} {a : Nat} (h : isX7 sh a) : sh (a + 26) = 9005 := h.2.2.2.2.2.2.1
theorem isX7_27 {sh : Nat → Nat} {a : Nat} (h : isX7 sh a) : isX2 sh (a + 27) := h.2.2.2.2.2.2.2.1
theorem isX7_31 {sh : Nat → Nat} {a : Nat} (h : isX7 sh a) : isX2 sh (a + 31) := h.2.2.2.2.2.2.2.2.1
theorem isX7_35 {sh : Nat → Nat} {a : Nat} (h : isX7 sh a) : sh (a + 35) = 9006 := h.2.2.2.2.2.2.2.2.2.1
theorem isX7_36 {sh : Nat → Nat} {a : Nat} (h : isX7 sh a) : isX3 sh (a + 36) := h.2.2.2.2.2.2.2.2.2.2.1
theorem isX7_39 {sh : Nat → Nat} {a : Nat} (h : isX7 sh a) : isX3 sh (a + 39) := h.2.2.2.2.2.2.2.2.2.2.2.1
theorem isX7_42 {sh : Nat → Nat} {a : Nat} (h : isX7 sh a) : sh (a + 42) = 9007 := h.2.2.2.2.2.2.2.2.2.2.2.2.1
theorem isX7_43 {sh : Nat → Nat} {a : Nat} (h : isX7 sh a) : isX6 sh (a + 43) := h.2.2.2.2.2.2.2.2.2.2.2.2.2.1
theorem isX7_48 {sh : Nat → Nat} {a : Nat} (h : isX7 sh a) : isX6 sh (a + 48) := h.2.2.2.2.2.2.2.2.2.2.2.2.2.2
theorem ck_X7 {ν : zM} {sh : Nat → Nat} {S : zCS} {a : Nat} (h : isX7 sh a) : zm_ck (cmem ν sh S) 7 a = true := by unfold zm_ck; rw [cm_at (isX7_0 h) (by decide)]; rfl
theorem cgr_X7_0 {ν : zM} {sh : Nat → Nat} {S : zCS} {a : Nat} (h : isX7 sh a) : zm_gR (cmem ν sh S) 7 a 0 = some (a + 1) := by unfold zm_gR zm_g; rw [cm_at (isX7_0 h) (by decide)]; rfl
theorem cg_X7_0 {ν : zM} {sh : Nat → Nat} {S : zCS} {a : Nat} {R : Type} {K : Nat → Option R} (h : isX7 sh a) : zb1 (zm_gR (cmem ν sh S) 7 a 0) K = K (a + 1) := by rw [cgr_X7_0 h]; rfl
theorem cgr_X7_1 {ν : zM} {sh : Nat → Nat} {S : zCS} {a : Nat} (h : isX7 sh a) : zm_gI (cmem ν sh S) 7 a 1 = some (S.1 a 1) := by unfold zm_gI zm_g; rw [cm_at (isX7_0 h) (by decide)]; rfl
theorem cg_X7_1 {ν : zM} {sh : Nat → Nat} {S : zCS} {a : Nat} {R : Type} {K : Int32 → Option R} (h : isX7 sh a) : zb1 (zm_gI (cmem ν sh S) 7 a 1) K = K (S.1 a 1) := by rw [cgr_X7_1 h]; rfl
theorem cpr_X7_1 {ν : zM} {sh : Nat → Nat} {S : zCS} {a : Nat} {v : Int32} (h : isX7 sh a) : zm_p (cmem ν sh S) 7 a 1 (.int v) = some (cmem ν sh (csI S a 1 v)) := cm_p (isX7_0 h) (by decide) rfl (Nat.le_of_ble_eq_true rfl) (by simp [ccell, csI])
theorem cp_X7_1 {ν : zM} {sh : Nat → Nat} {S : zCS} {a : Nat} {v : Int32} {R : Type} {K : zM → Option R} (h : isX7 sh a) : zb1 (zm_p (cmem ν sh S) 7 a 1 (.int v)) K = zb1 (some (csI S a 1 v)) (fun X => K (cmem ν sh X)) := by rw [cpr_X7_1 h]; rfl
theorem cgr_X7_2 {ν : zM} {sh : Nat → Nat} {S : zCS} {a : Nat} (h : isX7 sh a) : zm_gI (cmem ν sh S) 7 a 2 = some (S.1 a 2) := by unfold zm_gI zm_g; rw [cm_at (isX7_0 h) (by decide)]; rfl
theorem cg_X7_2 {ν : zM} {sh : Nat → Nat} {S : zCS} {a : Nat} {R : Type} {K : Int32 → Option R} (h : isX7 sh a) : zb1 (zm_gI (cmem ν sh S) 7 a 2) K = K (S.1 a 2) := by rw [cgr_X7_2 h]; rfl
theorem cpr_X7_2 {ν : zM} {sh : Nat → Nat} {S : zCS} {a : Nat} {v : Int32} (h : isX7 sh a) : zm_p (cmem ν sh S) 7 a 2 (.int v) = some (cmem ν sh (csI S a 2 v)) := cm_p (isX7_0 h) (by decide) rfl (Nat.le_of_ble_eq_true rfl) (by simp [ccell, csI])
theorem cp_X7_2 {ν : zM} {sh : Nat → Nat} {S : zCS} {a : Nat} {v : Int32} {R : Type} {K : zM → Option R} (h : isX7 sh a) : zb1 (zm_p (cmem ν sh S) 7 a 2 (.int v)) K = zb1 (some (csI S a 2 v)) (fun X => K (cmem ν sh X)) := by rw [cpr_X7_2 h]; rfl
theorem cgr_X7_3 {ν : zM} {sh : Nat → Nat} {S : zCS} {a : Nat} (h : isX7 sh a) : zm_gI (cmem ν sh S) 7 a 3 = some (S.1 a 3) := by unfold zm_gI zm_g; rw [cm_at (isX7_0 h) (by decide)]; rfl
theorem cg_X7_3 {ν : zM} {sh : Nat → Nat} {S : zCS} {a : Nat} {R : Type} {K : Int32 → Option R} (h : isX7 sh a) : zb1 (zm_gI (cmem ν sh S) 7 a 3) K = K (S.1 a 3) := by rw [cgr_X7_3 h]; rfl
theorem cpr_X7_3 {ν : zM} {sh : Nat → Nat} {S : zCS} {a : Nat} {v : Int32} (h : isX7 sh a) : zm_p (cmem ν sh S) 7 a 3 (.int v) = some (cmem ν sh (csI S a 3 v)) := cm_p (isX7_0 h) (by decide) rfl (Nat.le_of_ble_eq_true rfl) (by simp [ccell, csI])
theorem cp_X7_3 {ν : zM} {sh : Nat → Nat} {S : zCS} {a : Nat} {v : Int32} {R : Type} {K : zM → Option R} (h : isX7 sh a) : zb1 (zm_p (cmem ν sh S) 7 a 3 (.int v)) K = zb1 (some (csI S a 3 v)) (fun X => K (cmem ν sh X)) := by rw [cpr_X7_3 h]; rfl
theorem cgr_X7_4 {ν : zM} {sh : Nat → Nat} {S : zCS} {a : Nat} (h : isX7 sh a) : zm_gR (cmem ν sh S) 7 a 4 = some (a + 2) := by unfold zm_gR zm_g; rw [cm_at (isX7_0 h) (by decide)]; rfl
theorem cg_X7_4 {ν : zM} {sh : Nat → Nat} {S : zCS} {a : Nat} {R : Type} {K : Nat → Option R} (h : isX7 sh a) : zb1 (zm_gR (cmem ν sh S) 7 a 4) K = K (a + 2) := by rw [cgr_X7_4 h]; rfl
theorem cgr_X7_5 {ν : zM} {sh : Nat → Nat} {S : zCS} {a : Nat} (h : isX7 sh a) : zm_gR (cmem ν sh S) 7 a 5 = some (a + 3) := by unfold zm_gR zm_g; rw [cm_at (isX7_0 h) (by decide)]; rfl
theorem cg_X7_5 {ν : zM} {sh : Nat → Nat} {S : zCS} {a : Nat} {R : Type} {K : Nat → Option R} (h : isX7 sh a) : zb1 (zm_gR (cmem ν sh S) 7 a 5) K = K (a + 3) := by rw [cgr_X7_5 h]; rfl
theorem cgr_X7_6 {ν : zM} {sh : Nat → Nat} {S : zCS} {a : Nat} (h : isX7 sh a) : zm_gR (cmem ν sh S) 7 a 6 = some (a + 26) := by unfold zm_gR zm_g; rw [cm_at (isX7_0 h) (by decide)]; rfl
theorem cg_X7_6 {ν : zM} {sh : Nat → Nat} {S : zCS} {a : Nat} {R : Type} {K : Nat → Option R} (h : isX7 sh a) : zb1 (zm_gR (cmem ν sh S) 7 a 6) K = K (a + 26) := by rw [cgr_X7_6 h]; rfl
theorem cgr_X7_7 {ν : zM} {sh : Nat → Nat} {S : zCS} {a : Nat} (h : isX7 sh a) : zm_gR (cmem ν sh S) 7 a 7 = some (a + 35) := by unfold zm_gR zm_g; rw [cm_at (isX7_0 h) (by decide)]; rfl
theorem cg_X7_7 {ν : zM} {sh : Nat → Nat} {S : zCS} {a : Nat} {R : Type} {K : Nat → Option R} (h : isX7 sh a) : zb1 (zm_gR (cmem ν sh S) 7 a 7) K = K (a + 35) := by rw [cgr_X7_7 h]; rfl
theorem cgr_X7_8 {ν : zM} {sh : Nat → Nat} {S : zCS} {a : Nat} (h : isX7 sh a) : zm_gR (cmem ν sh S) 7 a 8 = some (a + 42) := by unfold zm_gR zm_g; rw [cm_at (isX7_0 h) (by decide)]; rfl
theorem cg_X7_8 {ν : zM} {sh : Nat → Nat} {S : zCS} {a : Nat} {R : Type} {K : Nat → Option R} (h : isX7 sh a) : zb1 (zm_gR (cmem ν sh S) 7 a 8) K = K (a + 42) := by rw [cgr_X7_8 h]; rfl
def isX4 (sh : Nat → Nat) (a : Nat) : Prop := sh a = 5 ∧ isX9 sh (a + 1) ∧ isX2 sh (a + 12) ∧ isX3 sh (a + 16) ∧ isX6 sh (a + 19) ∧ sh (a + 24) = 1003 ∧ sh (a + 25) = 1003 ∧ sh (a - 53) = 9001 ∧ 53 ≤ a
theorem isX4_0 {sh : Nat → Nat} {a : Nat} (h : isX4 sh a) : sh a = 5 := h.1
theorem isX4_1 {sh : Nat → Nat} {a : Nat} (h : isX4 sh a) : isX9 sh (a + 1) := h.2.1
theorem isX4_12 {sh : Nat → Nat} {a : Nat} (h : isX4 sh a) : isX2 sh (a + 12) := h.2.2.1
theorem isX4_16 {sh : Nat → Nat} {a : Nat} (h : isX4 sh a) : isX3 sh (a + 16) := h.2.2.2.1
theorem isX4_19 {sh : Nat → Nat} {a : Nat} (h : isX4 sh a) : isX6 sh (a + 19) := h.2.2.2.2.1
theorem isX4_24 {sh : Nat → Nat} {a : Nat} (h : isX4 sh a) : sh (a + 24) = 1003 := h.2.2.2.2.2.1
theorem isX4_25 {sh : Nat → Nat} {a : Nat} (h : isX4 sh a) : sh (a + 25) = 1003 := h.2.2.2.2.2.2.1
theorem isX4_m53 {sh : Nat → Nat} {a : Nat} (h : isX4 sh a) : sh (a - 53) = 9001 := h.2.2.2.2.2.2.2.1
theorem ck_X4 {ν : zM} {sh : Nat → Nat} {S : zCS} {a : Nat} (h : isX4 sh a) : zm_ck (cmem ν sh S) 4 a = true := by unfold zm_ck; rw [cm_at (isX4_0 h) (by decide)]; rfl
theorem cgr_X4_0 {ν : zM} {sh : Nat → Nat} {S : zCS} {a : Nat} (h : isX4 sh a) : zm_gR (cmem ν sh S) 4 a 0 = some (a + 1) := by unfold zm_gR zm_g; rw [cm_at (isX4_0 h) (by decide)]; rfl
theorem cg_X4_0 {ν : zM} {sh : Nat → Nat} {S : zCS} {a : Nat} {R : Type} {K : Nat → Option R} (h : isX4 sh a) : zb1 (zm_gR (cmem ν sh S) 4 a 0) K = K (a + 1) := by rw [cgr_X4_0 h]; rfl
theorem cgr_X4_1 {ν : zM} {sh : Nat → Nat} {S : zCS} {a : Nat} (h : isX4 sh a) : zm_gR (cmem ν sh S) 4 a 1 = some (a + 12) := by unfold zm_gR zm_g; rw [cm_at (isX4_0 h) (by decide)]; rfl
theorem cg_X4_1 {ν : zM} {sh : Nat → Nat} {S : zCS} {a : Nat} {R : Type} {K : Nat → Option R} (h : isX4 sh a) : zb1 (zm_gR (cmem ν sh S) 4 a 1) K = K (a + 12) := by rw [cgr_X4_1 h]; rfl
theorem cgr_X4_2 {ν : zM} {sh : Nat → Nat} {S : zCS} {a : Nat} (h : isX4 sh a) : zm_gR (cmem ν sh S) 4 a 2 = some (a + 16) := by unfold zm_gR zm_g; rw [cm_at (isX4_0 h) (by decide)]; rfl
theorem cg_X4_2 {ν : zM} {sh : Nat → Nat} {S : zCS} {a : Nat} {R : Type} {K : Nat → Option R} (h : isX4 sh a) : zb1 (zm_gR (cmem ν sh S) 4 a 2) K = K (a + 16) := by rw [cgr_X4_2 h]; rfl
theorem cgr_X4_3 {ν : zM} {sh : Nat → Nat} {S : zCS} {a : Nat} (h : isX4 sh a) : zm_gR (cmem ν sh S) 4 a 3 = some (a + 19) := by unfold zm_gR zm_g; rw [cm_at (isX4_0 h) (by decide)]; rfl
theorem cg_X4_3 {ν : zM} {sh : Nat → Nat} {S : zCS} {a : Nat} {R : Type} {K : Nat → Option R} (h : isX4 sh a) : zb1 (zm_gR (cmem ν sh S) 4 a 3) K = K (a + 19) := by rw [cgr_X4_3 h]; rfl
theorem cgr_X4_4 {ν : zM} {sh : Nat → Nat} {S : zCS} {a : Nat} (h : isX4 sh a) : zm_gI (cmem ν sh S) 4 a 4 = some (S.1 a 4) := by unfold zm_gI zm_g; rw [cm_at (isX4_0 h) (by decide)]; rfl
theorem cg_X4_4 {ν : zM} {sh : Nat → Nat} {S : zCS} {a : Nat} {R : Type} {K : Int32 → Option R} (h : isX4 sh a) : zb1 (zm_gI (cmem ν sh S) 4 a 4) K = K (S.1 a 4) := by rw [cgr_X4_4 h]; rfl
theorem cpr_X4_4 {ν : zM} {sh : Nat → Nat} {S : zCS} {a : Nat} {v : Int32} (h : isX4 sh a) : zm_p (cmem ν sh S) 4 a 4 (.int v) = some (cmem ν sh (csI S a 4 v)) := cm_p (isX4_0 h) (by decide) rfl (Nat.le_of_ble_eq_true rfl) (by simp [ccell, csI])
theorem cp_X4_4 {ν : zM} {sh : Nat → Nat} {S : zCS} {a : Nat} {v : Int32} {R : Type} {K : zM → Option R} (h : isX4 sh a) : zb1 (zm_p (cmem ν sh S) 4 a 4 (.int v)) K = zb1 (some (csI S a 4 v)) (fun X => K (cmem ν sh X)) := by rw [cpr_X4_4 h]; rfl
theorem cgr_X4_5 {ν : zM} {sh : Nat → Nat} {S : zCS} {a : Nat} (h : isX4 sh a) : zm_gI (cmem ν sh S) 4 a 5 = some (S.1 a 5) := by unfold zm_gI zm_g; rw [cm_at (isX4_0 h) (by decide)]; rfl
theorem cg_X4_5 {ν : zM} {sh : Nat → Nat} {S : zCS} {a : Nat} {R : Type} {K : Int32 → Option R} (h : isX4 sh a) : zb1 (zm_gI (cmem ν sh S) 4 a 5) K = K (S.1 a 5) := by rw [cgr_X4_5 h]; rfl
theorem cpr_X4_5 {ν : zM} {sh : Nat → Nat} {S : zCS} {a : Nat} {v : Int32} (h : isX4 sh a) : zm_p (cmem ν sh S) 4 a 5 (.int v) = some (cmem ν sh (csI S a 5 v)) := cm_p (isX4_0 h) (by decide) rfl (Nat.le_of_ble_eq_true rfl) (by simp [ccell, csI])
theorem cp_X4_5 {ν : zM} {sh : Nat → Nat} {S : zCS} {a : Nat} {v : Int32} {R : Type} {K : zM → Option R} (h : isX4 sh a) : zb1 (zm_p (cmem ν sh S) 4 a 5 (.int v)) K = zb1 (some (csI S a 5 v)) (fun X => K (cmem ν sh X)) := by rw [cpr_X4_5 h]; rfl
theorem cgr_X4_6 {ν : zM} {sh : Nat → Nat} {S : zCS} {a : Nat} (h : isX4 sh a) : zm_gR (cmem ν sh S) 4 a 6 = some (a - 53) := by unfold zm_gR zm_g; rw [cm_at (isX4_0 h) (by decide)]; rfl
theorem cg_X4_6 {ν : zM} {sh : Nat → Nat} {S : zCS} {a : Nat} {R : Type} {K : Nat → Option R} (h : isX4 sh a) : zb1 (zm_gR (cmem ν sh S) 4 a 6) K = K (a - 53) := by rw [cgr_X4_6 h]; rfl
theorem cgr_X4_7 {ν : zM} {sh : Nat → Nat} {S : zCS} {a : Nat} (h : isX4 sh a) : zm_gI (cmem ν sh S) 4 a 7 = some (S.1 a 7) := by unfold zm_gI zm_g; rw [cm_at (isX4_0 h) (by decide)]; rfl
theorem cg_X4_7 {ν : zM} {sh : Nat → Nat} {S : zCS} {a : Nat} {R : Type} {K : Int32 → Option R} (h : isX4 sh a) : zb1 (zm_gI (cmem ν sh S) 4 a 7) K = K (S.1 a 7) := by rw [cgr_X4_7 h]; rfl
theorem cpr_X4_7 {ν : zM} {sh : Nat → Nat} {S : zCS} {a : Nat} {v : Int32} (h : isX4 sh a) : zm_p (cmem ν sh S) 4 a 7 (.int v) = some (cmem ν sh (csI S a 7 v)) := cm_p (isX4_0 h) (by decide) rfl (Nat.le_of_ble_eq_true rfl) (by simp [ccell, csI])
theorem cp_X4_7 {ν : zM} {sh : Nat → Nat} {S : zCS} {a : Nat} {v : Int32} {R : Type} {K : zM → Option R} (h : isX4 sh a) : zb1 (zm_p (cmem ν sh S) 4 a 7 (.int v)) K = zb1 (some (csI S a 7 v)) (fun X => K (cmem ν sh X)) := by rw [cpr_X4_7 h]; rfl
theorem cgr_X4_8 {ν : zM} {sh : Nat → Nat} {S : zCS} {a : Nat} (h : isX4 sh a) : zm_gI (cmem ν sh S) 4 a 8 = some (S.1 a 8) := by unfold zm_gI zm_g; rw [cm_at (isX4_0 h) (by decide)]; rfl
theorem cg_X4_8 {ν : zM} {sh : Nat → Nat} {S : zCS} {a : Nat} {R : Type} {K : Int32 → Option R} (h : isX4 sh a) : zb1 (zm_gI (cmem ν sh S) 4 a 8) K = K (S.1 a 8) := by rw [cgr_X4_8 h]; rfl
theorem cpr_X4_8 {ν : zM} {sh : Nat → Nat} {S : zCS} {a : Nat} {v : Int32} (h : isX4 sh a) : zm_p (cmem ν sh S) 4 a 8 (.int v) = some (cmem ν sh (csI S a 8 v)) := cm_p (isX4_0 h) (by decide) rfl (Nat.le_of_ble_eq_true rfl) (by simp [ccell, csI])
theorem cp_X4_8 {ν : zM} {sh : Nat → Nat} {S : zCS} {a : Nat} {v : Int32} {R : Type} {K : zM → Option R} (h : isX4 sh a) : zb1 (zm_p (cmem ν sh S) 4 a 8 (.int v)) K = zb1 (some (csI S a 8 v)) (fun X => K (cmem ν sh X)) := by rw [cpr_X4_8 h]; rfl
theorem cgr_X4_9 {ν : zM} {sh : Nat → Nat} {S : zCS} {a : Nat} (h : isX4 sh a) : zm_gI (cmem ν sh S) 4 a 9 = some (S.1 a 9) := by unfold zm_gI zm_g; rw [cm_at (isX4_0 h) (by decide)]; rfl
theorem cg_X4_9 {ν : zM} {sh : Nat → Nat} {S : zCS} {a : Nat} {R : Type} {K : Int32 → Option R} (h : isX4 sh a) : zb1 (zm_gI (cmem ν sh S) 4 a 9) K = K (S.1 a 9) := by rw [cgr_X4_9 h]; rfl
theorem cpr_X4_9 {ν : zM} {sh : Nat → Nat} {S : zCS} {a : Nat} {v : Int32} (h : isX4 sh a) : zm_p (cmem ν sh S) 4 a 9 (.int v) = some (cmem ν sh (csI S a 9 v)) := cm_p (isX4_0 h) (by decide) rfl (Nat.le_of_ble_eq_true rfl) (by simp [ccell, csI])
theorem cp_X4_9 {ν : zM} {sh : Nat → Nat} {S : zCS} {a : Nat} {v : Int32} {R : Type} {K : zM → Option R} (h : isX4 sh a) : zb1 (zm_p (cmem ν sh S) 4 a 9 (.int v)) K = zb1 (some (csI S a 9 v)) (fun X => K (cmem ν sh X)) := by rw [cpr_X4_9 h]; rfl
theorem cgr_X4_10 {ν : zM} {sh : Nat → Nat} {S : zCS} {a : Nat} (h : isX4 sh a) : zm_gI (cmem ν sh S) 4 a 10 = some (S.1 a 10) := by unfold zm_gI zm_g; rw [cm_at (isX4_0 h) (by decide)]; rfl
theorem cg_X4_10 {ν : zM} {sh : Nat → Nat} {S : zCS} {a : Nat} {R : Type} {K : Int32 → Option R} (h : isX4 sh a) : zb1 (zm_gI (cmem ν sh S) 4 a 10) K = K (S.1 a 10) := by rw [cgr_X4_10 h]; rfl
theorem cpr_X4_10 {ν : zM} {sh : Nat → Nat} {S : zCS} {a : Nat} {v : Int32} (h : isX4 sh a) : zm_p (cmem ν sh S) 4 a 10 (.int v) = some (cmem ν sh (csI S a 10 v)) := cm_p (isX4_0 h) (by decide) rfl (Nat.le_of_ble_eq_true rfl) (by simp [ccell, csI])
theorem cp_X4_10 {ν : zM} {sh : Nat → Nat} {S : zCS} {a : Nat} {v : Int32} {R : Type} {K : zM → Option R} (h : isX4 sh a) : zb1 (zm_p (cmem ν sh S) 4 a 10 (.int v)) K = zb1 (some (csI S a 10 v)) (fun X => K (cmem ν sh X)) := by rw [cpr_X4_10 h]; rfl
theorem cgr_X4_11 {ν : zM} {sh : Nat → Nat} {S : zCS} {a : Nat} (h : isX4 sh a) : zm_gR (cmem ν sh S) 4 a 11 = some (a + 24) := by unfold zm_gR zm_g; rw [cm_at (isX4_0 h) (by decide)]; rfl
theorem cg_X4_11 {ν : zM} {sh : Nat → Nat} {S : zCS} {a : Nat} {R : Type} {K : Nat → Option R} (h : isX4 sh a) : zb1 (zm_gR (cmem ν sh S) 4 a 11) K = K (a + 24) := by rw [cgr_X4_11 h]; rfl
theorem cgr_X4_12 {ν : zM} {sh : Nat → Nat} {S : zCS} {a : Nat} (h : isX4 sh a) : zm_gR (cmem ν sh S) 4 a 12 = some (a + 25) := by unfold zm_gR zm_g; rw [cm_at (isX4_0 h) (by decide)]; rfl
theorem cg_X4_12 {ν : zM} {sh : Nat → Nat} {S : zCS} {a : Nat} {R : Type} {K : Nat → Option R} (h : isX4 sh a) : zb1 (zm_gR (cmem ν sh S) 4 a 12) K = K (a + 25) := by rw [cgr_X4_12 h]; rfl
def isX11 (sh : Nat → Nat) (a : Nat) : Prop := sh a = 12 ∧ isX7 sh (a + 1) ∧ sh (a + 54) = 9003 ∧ isX4 sh (a + 55) ∧ isX1 sh (a + 81) ∧ isX5 sh (a + 85) ∧ isX8 sh (a + 88) ∧ isX0 sh (a + 91)
theorem isX11_0 {sh : Nat → Nat} {a : Nat} (h : isX11 sh a) : sh a = 12 := h.1
theorem isX11_1 {sh : Nat → Nat} {a : Nat} (h : isX11 sh a) : isX7 sh (a + 1) := h.2.1
theorem isX11_54 {sh : Nat → Nat} {a : Nat} (h : isX11 sh a) : sh (a + 54) = 9003 := h.2.2.1
theorem isX11_55 {sh : Nat → Nat} {a : Nat} (h : isX11 sh a) : isX4 sh (a + 55) := h.2.2.2.1
theorem isX11_81 {sh : Nat → Nat} {a : Nat} (h : isX11 sh a) : isX1 sh (a + 81) := h.2.2.2.2.1
theorem isX11_85 {sh : Nat → Nat} {a : Nat} (h : isX11 sh a) : isX5 sh (a + 85) := h.2.2.2.2.2.1
theorem isX11_88 {sh : Nat → Nat} {a : Nat} (h : isX11 sh a) : isX8 sh (a + 88) := h.2.2.2.2.2.2.1
theorem isX11_91 {sh : Nat → Nat} {a : Nat} (h : isX11 sh a) : isX0 sh (a + 91) := h.2.2.2.2.2.2.2
theorem ck_X11 {ν : zM} {sh : Nat → Nat} {S : zCS} {a : Nat} (h : isX11 sh a) : zm_ck (cmem ν sh S) 11 a = true := by unfold zm_ck; rw [cm_at (isX11_0 h) (by decide)]; rfl
theorem cgr_X11_0 {ν : zM} {sh : Nat → Nat} {S : zCS} {a : Nat} (h : isX11 sh a) : zm_gR (cmem ν sh S) 11 a 0 = some (a + 1) := by unfold zm_gR zm_g; rw [cm_at (isX11_0 h) (by decide)]; rfl
theorem cg_X11_0 {ν : zM} {sh : Nat → Nat} {S : zCS} {a : Nat} {R : Type} {K : Nat → Option R} (h : isX11 sh a) : zb1 (zm_gR (cmem ν sh S) 11 a 0) K = K (a + 1) := by rw [cgr_X11_0 h]; rfl
theorem cgr_X11_1 {ν : zM} {sh : Nat → Nat} {S : zCS} {a : Nat} (h : isX11 sh a) : zm_gR (cmem ν sh S) 11 a 1 = some (a + 54) := by unfold zm_gR zm_g; rw [cm_at (isX11_0 h) (by decide)]; rfl
theorem cg_X11_1 {ν : zM} {sh : Nat → Nat} {S : zCS} {a : Nat} {R : Type} {K : Nat → Option R} (h : isX11 sh a) : zb1 (zm_gR (cmem ν sh S) 11 a 1) K = K (a + 54) := by rw [cgr_X11_1 h]; rfl
theorem cgr_X11_2 {ν : zM} {sh : Nat → Nat} {S : zCS} {a : Nat} (h : isX11 sh a) : zm_gR (cmem ν sh S) 11 a 2 = some (a + 55) := by unfold zm_gR zm_g; rw [cm_at (isX11_0 h) (by decide)]; rfl
theorem cg_X11_2 {ν : zM} {sh : Nat → Nat} {S : zCS} {a : Nat} {R : Type} {K : Nat → Option R} (h : isX11 sh a) : zb1 (zm_gR (cmem ν sh S) 11 a 2) K = K (a + 55) := by rw [cgr_X11_2 h]; rfl
theorem cgr_X11_3 {ν : zM} {sh : Nat → Nat} {S : zCS} {a : Nat} (h : isX11 sh a) : zm_gR (cmem ν sh S) 11 a 3 = some (a + 81) := by unfold zm_gR zm_g; rw [cm_at (isX11_0 h) (by decide)]; rfl
theorem cg_X11_3 {ν : zM} {sh : Nat → Nat} {S : zCS} {a : Nat} {R : Type} {K : Nat → Option R} (h : isX11 sh a) : zb1 (zm_gR (cmem ν sh S) 11 a 3) K = K (a + 81) := by rw [cgr_X11_3 h]; rfl
theorem cgr_X11_4 {ν : zM} {sh : Nat → Nat} {S : zCS} {a : Nat} (h : isX11 sh a) : zm_gR (cmem ν sh S) 11 a 4 = some (a + 85) := by unfold zm_gR zm_g; rw [cm_at (isX11_0 h) (by decide)]; rfl
theorem cg_X11_4 {ν : zM} {sh : Nat → Nat} {S : zCS} {a : Nat} {R : Type} {K : Nat → Option R} (h : isX11 sh a) : zb1 (zm_gR (cmem ν sh S) 11 a 4) K = K (a + 85) := by rw [cgr_X11_4 h]; rfl
theorem cgr_X11_5 {ν : zM} {sh : Nat → Nat} {S : zCS} {a : Nat} (h : isX11 sh a) : zm_gR (cmem ν sh S) 11 a 5 = some (a + 88) := by unfold zm_gR zm_g; rw [cm_at (isX11_0 h) (by decide)]; rfl
theorem cg_X11_5 {ν : zM} {sh : Nat → Nat} {S : zCS} {a : Nat} {R : Type} {K : Nat → Option R} (h : isX11 sh a) : zb1 (zm_gR (cmem ν sh S) 11 a 5) K = K (a + 88) := by rw [cgr_X11_5 h]; rfl
theorem cgr_X11_6 {ν : zM} {sh : Nat → Nat} {S : zCS} {a : Nat} (h : isX11 sh a) : zm_gR (cmem ν sh S) 11 a 6 = some (a + 91) := by unfold zm_gR zm_g; rw [cm_at (isX11_0 h) (by decide)]; rfl
theorem cg_X11_6 {ν : zM} {sh : Nat → Nat} {S : zCS} {a : Nat} {R : Type} {K : Nat → Option R} (h : isX11 sh a) : zb1 (zm_gR (cmem ν sh S) 11 a 6) K = K (a + 91) := by rw [cgr_X11_6 h]; rfl
theorem ca_1003 {ν : zM} {sh : Nat → Nat} {S : zCS} {a : Nat} {i : Int32} (h : sh a = 1003) : zm_aI (cmem ν sh S) 0 a i = zag 3 (S.2.1 a) i := cm_aI h (by decide) rfl (by decide)
theorem csr_1003 {ν : zM} {sh : Nat → Nat} {S : zCS} {a : Nat} {i v : Int32} (h : sh a = 1003) : zm_sI (cmem ν sh S) 0 a i v = Option.map (fun g => cmem ν sh (csA S a g)) (zas 3 (S.2.1 a) i v) := cm_sI h (by decide) (fun _ => rfl)
theorem cs_1003 {ν : zM} {sh : Nat → Nat} {S : zCS} {a : Nat} {i v : Int32} {R : Type} {K : zM → Option R} (h : sh a = 1003) : zb1 (zm_sI (cmem ν sh S) 0 a i v) K = zb1 (zas 3 (S.2.1 a) i v) (fun g => zb1 (some (csA S a g)) (fun X => K (cmem ν sh X))) := by rw [csr_1003 h]; cases zas 3 (S.2.1 a) i v <;> rfl
theorem clr_1003 {ν : zM} {sh : Nat → Nat} {S : zCS} {a : Nat} (h : sh a = 1003) : zm_len (cmem ν sh S) a = some (Int32.ofNat 3) := cm_len h (by decide) rfl (by decide)
theorem cl_1003 {ν : zM} {sh : Nat → Nat} {S : zCS} {a : Nat} {R : Type} {K : Int32 → Option R} (h : sh a = 1003) : zb1 (zm_len (cmem ν sh S) a) K = K (Int32.ofNat 3) := by rw [clr_1003 h]; rfl
theorem cyr_1003 {ν : zM} {sh : Nat → Nat} {S : zCS} {a b : Nat} {sp dp n : Int32} (h0 : sh a = 1003) (h : sh b = 1003) : zm_cpy (cmem ν sh S) 0 a sp b dp n = Option.map (fun g => cmem ν sh (csA S b g)) (zcp 0 3 3 (S.2.1 a) (S.2.1 b) sp dp n) := cm_cpy h0 (by decide) rfl h (by decide) (fun _ => rfl)
theorem cy_1003 {ν : zM} {sh : Nat → Nat} {S : zCS} {a b : Nat} {sp dp n : Int32} {R : Type} {K : zM → Option R} (h0 : sh a = 1003) (h : sh b = 1003) : zb1 (zm_cpy (cmem ν sh S) 0 a sp b dp n) K = zb1 (zcp 0 3 3 (S.2.1 a) (S.2.1 b) sp dp n) (fun g => zb1 (some (csA S b g)) (fun X => K (cmem ν sh X))) := by rw [cyr_1003 h0 h]; cases zcp 0 3 3 (S.2.1 a) (S.2.1 b) sp dp n <;> rfl
theorem ca_1004 {ν : zM} {sh : Nat → Nat} {S : zCS} {a : Nat} {i : Int32} (h : sh a = 1004) : zm_aI (cmem ν sh S) 0 a i = zag 4 (S.2.1 a) i := cm_aI h (by decide) rfl (by decide)
theorem csr_1004 {ν : zM} {sh : Nat → Nat} {S : zCS} {a : Nat} {i v : Int32} (h : sh a = 1004) : zm_sI (cmem ν sh S) 0 a i v = Option.map (fun g => cmem ν sh (csA S a g)) (zas 4 (S.2.1 a) i v) := cm_sI h (by decide) (fun _ => rfl)
theorem cs_1004 {ν : zM} {sh : Nat → Nat} {S : zCS} {a : Nat} {i v : Int32} {R : Type} {K : zM → Option R} (h : sh a = 1004) : zb1 (zm_sI (cmem ν sh S) 0 a i v) K = zb1 (zas 4 (S.2.1 a) i v) (fun g => zb1 (some (csA S a g)) (fun X => K (cmem ν sh X))) := by rw [csr_1004 h]; cases zas 4 (S.2.1 a) i v <;> rfl
theorem clr_1004 {ν : zM} {sh : Nat → Nat} {S : zCS} {a : Nat} (h : sh a = 1004) : zm_len (cmem ν sh S) a = some (Int32.ofNat 4) := cm_len h (by decide) rfl (by decide)
theorem cl_1004 {ν : zM} {sh : Nat → Nat} {S : zCS} {a : Nat} {R : Type} {K : Int32 → Option R} (h : sh a = 1004) : zb1 (zm_len (cmem ν sh S) a) K = K (Int32.ofNat 4) := by rw [clr_1004 h]; rfl
theorem cyr_1004 {ν : zM} {sh : Nat → Nat} {S : zCS} {a b : Nat} {sp dp n : Int32} (h0 : sh a = 1004) (h : sh b = 1004) : zm_cpy (cmem ν sh S) 0 a sp b dp n = Option.map (fun g => cmem ν sh (csA S b g)) (zcp 0 4 4 (S.2.1 a) (S.2.1 b) sp dp n) := cm_cpy h0 (by decide) rfl h (by decide) (fun _ => rfl)
theorem cy_1004 {ν : zM} {sh : Nat → Nat} {S : zCS} {a b : Nat} {sp dp n : Int32} {R : Type} {K : zM → Option R} (h0 : sh a = 1004) (h : sh b = 1004) : zb1 (zm_cpy (cmem ν sh S) 0 a sp b dp n) K = zb1 (zcp 0 4 4 (S.2.1 a) (S.2.1 b) sp dp n) (fun g => zb1 (some (csA S b g)) (fun X => K (cmem ν sh X))) := by rw [cyr_1004 h0 h]; cases zcp 0 4 4 (S.2.1 a) (S.2.1 b) sp dp n <;> rfl
theorem ca_1006 {ν : zM} {sh : Nat → Nat} {S : zCS} {a : Nat} {i : Int32} (h : sh a = 1006) : zm_aI (cmem ν sh S) 0 a i = zag 6 (S.2.1 a) i := cm_aI h (by decide) rfl (by decide)
theorem csr_1006 {ν : zM} {sh : Nat → Nat} {S : zCS} {a : Nat} {i v : Int32} (h : sh a = 1006) : zm_sI (cmem ν sh S) 0 a i v = Option.map (fun g => cmem ν sh (csA S a g)) (zas 6 (S.2.1 a) i v) := cm_sI h (by decide) (fun _ => rfl)
theorem cs_1006 {ν : zM} {sh : Nat → Nat} {S : zCS} {a : Nat} {i v : Int32} {R : Type} {K : zM → Option R} (h : sh a = 1006) : zb1 (zm_sI (cmem ν sh S) 0 a i v) K = zb1 (zas 6 (S.2.1 a) i v) (fun g => zb1 (some (csA S a g)) (fun X => K (cmem ν sh X))) := by rw [csr_1006 h]; cases zas 6 (S.2.1 a) i v <;> rfl
theorem clr_1006 {ν : zM} {sh : Nat → Nat} {S : zCS} {a : Nat} (h : sh a = 1006) : zm_len (cmem ν sh S) a = some (Int32.ofNat 6) := cm_len h (by decide) rfl (by decide)
theorem cl_1006 {ν : zM} {sh : Nat → Nat} {S : zCS} {a : Nat} {R : Type} {K : Int32 → Option R} (h : sh a = 1006) : zb1 (zm_len (cmem ν sh S) a) K = K (Int32.ofNat 6) := by rw [clr_1006 h]; rfl
theorem cyr_1006 {ν : zM} {sh : Nat → Nat} {S : zCS} {a b : Nat} {sp dp n : Int32} (h0 : sh a = 1006) (h : sh b = 1006) : zm_cpy (cmem ν sh S) 0 a sp b dp n = Option.map (fun g => cmem ν sh (csA S b g)) (zcp 0 6 6 (S.2.1 a) (S.2.1 b) sp dp n) := cm_cpy h0 (by decide) rfl h (by decide) (fun _ => rfl)
theorem cy_1006 {ν : zM} {sh : Nat → Nat} {S : zCS} {a b : Nat} {sp dp n : Int32} {R : Type} {K : zM → Option R} (h0 : sh a = 1006) (h : sh b = 1006) : zb1 (zm_cpy (cmem ν sh S) 0 a sp b dp n) K = zb1 (zcp 0 6 6 (S.2.1 a) (S.2.1 b) sp dp n) (fun g => zb1 (some (csA S b g)) (fun X => K (cmem ν sh X))) := by rw [cyr_1006 h0 h]; cases zcp 0 6 6 (S.2.1 a) (S.2.1 b) sp dp n <;> rfl
theorem ca_1008 {ν : zM} {sh : Nat → Nat} {S : zCS} {a : Nat} {i : Int32} (h : sh a = 1008) : zm_aI (cmem ν sh S) 0 a i = zag 8 (S.2.1 a) i := cm_aI h (by decide) rfl (by decide)
theorem csr_1008 {ν : zM} {sh : Nat → Nat} {S : zCS} {a : Nat} {i v : Int32} (h : sh a = 1008) : zm_sI (cmem ν sh S) 0 a i v = Option.map (fun g => cmem ν sh (csA S a g)) (zas 8 (S.2.1 a) i v) := cm_sI h (by decide) (fun _ => rfl)
theorem cs_1008 {ν : zM} {sh : Nat → Nat} {S : zCS} {a : Nat} {i v : Int32} {R : Type} {K : zM → Option R} (h : sh a = 1008) : zb1 (zm_sI (cmem ν sh S) 0 a i v) K = zb1 (zas 8 (S.2.1 a) i v) (fun g => zb1 (some (csA S a g)) (fun X => K (cmem ν sh X))) := by rw [csr_1008 h]; cases zas 8 (S.2.1 a) i v <;> rfl
theorem clr_1008 {ν : zM} {sh : Nat → Nat} {S : zCS} {a : Nat} (h : sh a = 1008) : zm_len (cmem ν sh S) a = some (Int32.ofNat 8) := cm_len h (by decide) rfl (by decide)
theorem cl_1008 {ν : zM} {sh : Nat → Nat} {S : zCS} {a : Nat} {R : Type} {K : Int32 → Option R} (h : sh a = 1008) : zb1 (zm_len (cmem ν sh S) a) K = K (Int32.ofNat 8) := by rw [clr_1008 h]; rfl
theorem cyr_1008 {ν : zM} {sh : Nat → Nat} {S : zCS} {a b : Nat} {sp dp n : Int32} (h0 : sh a = 1008) (h : sh b = 1008) : zm_cpy (cmem ν sh S) 0 a sp b dp n = Option.map (fun g => cmem ν sh (csA S b g)) (zcp 0 8 8 (S.2.1 a) (S.2.1 b) sp dp n) := cm_cpy h0 (by decide) rfl h (by decide) (fun _ => rfl)
theorem cy_1008 {ν : zM} {sh : Nat → Nat} {S : zCS} {a b : Nat} {sp dp n : Int32} {R : Type} {K : zM → Option R} (h0 : sh a = 1008) (h : sh b = 1008) : zb1 (zm_cpy (cmem ν sh S) 0 a sp b dp n) K = zb1 (zcp 0 8 8 (S.2.1 a) (S.2.1 b) sp dp n) (fun g => zb1 (some (csA S b g)) (fun X => K (cmem ν sh X))) := by rw [cyr_1008 h0 h]; cases zcp 0 8 8 (S.2.1 a) (S.2.1 b) sp dp n <;> rfl
theorem ca_1010 {ν : zM} {sh : Nat → Nat} {S : zCS} {a : Nat} {i : Int32} (h : sh a = 1010) : zm_aI (cmem ν sh S) 0 a i = zag 10 (S.2.1 a) i := cm_aI h (by decide) rfl (by decide)
theorem csr_1010 {ν : zM} {sh : Nat → Nat} {S : zCS} {a : Nat} {i v : Int32} (h : sh a = 1010) : zm_sI (cmem ν sh S) 0 a i v = Option.map (fun g => cmem ν sh (csA S a g)) (zas 10 (S.2.1 a) i v) := cm_sI h (by decide) (fun _ => rfl)
theorem cs_1010 {ν : zM} {sh : Nat → Nat} {S : zCS} {a : Nat} {i v : Int32} {R : Type} {K : zM → Option R} (h : sh a = 1010) : zb1 (zm_sI (cmem ν sh S) 0 a i v) K = zb1 (zas 10 (S.2.1 a) i v) (fun g => zb1 (some (csA S a g)) (fun X => K (cmem ν sh X))) := by rw [csr_1010 h]; cases zas 10 (S.2.1 a) i v <;> rfl
theorem clr_1010 {ν : zM} {sh : Nat → Nat} {S : zCS} {a : Nat} (h : sh a = 1010) : zm_len (cmem ν sh S) a = some (Int32.ofNat 10) := cm_len h (by decide) rfl (by decide)
theorem cl_1010 {ν : zM} {sh : Nat → Nat} {S : zCS} {a : Nat} {R : Type} {K : Int32 → Option R} (h : sh a = 1010) : zb1 (zm_len (cmem ν sh S) a) K = K (Int32.ofNat 10) := by rw [clr_1010 h]; rfl
theorem cyr_1010 {ν : zM} {sh : Nat → Nat} {S : zCS} {a b : Nat} {sp dp n : Int32} (h0 : sh a = 1010) (h : sh b = 1010) : zm_cpy (cmem ν sh S) 0 a sp b dp n = Option.map (fun g => cmem ν sh (csA S b g)) (zcp 0 10 10 (S.2.1 a) (S.2.1 b) sp dp n) := cm_cpy h0 (by decide) rfl h (by decide) (fun _ => rfl)
theorem cy_1010 {ν : zM} {sh : Nat → Nat} {S : zCS} {a b : Nat} {sp dp n : Int32} {R : Type} {K : zM → Option R} (h0 : sh a = 1010) (h : sh b = 1010) : zb1 (zm_cpy (cmem ν sh S) 0 a sp b dp n) K = zb1 (zcp 0 10 10 (S.2.1 a) (S.2.1 b) sp dp n) (fun g => zb1 (some (csA S b g)) (fun X => K (cmem ν sh X))) := by rw [cyr_1010 h0 h]; cases zcp 0 10 10 (S.2.1 a) (S.2.1 b) sp dp n <;> rfl
theorem ca_1040 {ν : zM} {sh : Nat → Nat} {S : zCS} {a : Nat} {i : Int32} (h : sh a = 1040) : zm_aI (cmem ν sh S) 0 a i = zag 40 (S.2.1 a) i := cm_aI h (by decide) rfl (by decide)
theorem csr_1040 {ν : zM} {sh : Nat → Nat} {S : zCS} {a : Nat} {i v : Int32} (h : sh a = 1040) : zm_sI (cmem ν sh S) 0 a i v = Option.map (fun g => cmem ν sh (csA S a g)) (zas 40 (S.2.1 a) i v) := cm_sI h (by decide) (fun _ => rfl)
theorem cs_1040 {ν : zM} {sh : Nat → Nat} {S : zCS} {a : Nat} {i v : Int32} {R : Type} {K : zM → Option R} (h : sh a = 1040) : zb1 (zm_sI (cmem ν sh S) 0 a i v) K = zb1 (zas 40 (S.2.1 a) i v) (fun g => zb1 (some (csA S a g)) (fun X => K (cmem ν sh X))) := by rw [csr_1040 h]; cases zas 40 (S.2.1 a) i v <;> rfl
theorem clr_1040 {ν : zM} {sh : Nat → Nat} {S : zCS} {a : Nat} (h : sh a = 1040) : zm_len (cmem ν sh S) a = some (Int32.ofNat 40) := cm_len h (by decide) rfl (by decide)
theorem cl_1040 {ν : zM} {sh : Nat → Nat} {S : zCS} {a : Nat} {R : Type} {K : Int32 → Option R} (h : sh a = 1040) : zb1 (zm_len (cmem ν sh S) a) K = K (Int32.ofNat 40) := by rw [clr_1040 h]; rfl
theorem cyr_1040 {ν : zM} {sh : Nat → Nat} {S : zCS} {a b : Nat} {sp dp n : Int32} (h0 : sh a = 1040) (h : sh b = 1040) : zm_cpy (cmem ν sh S) 0 a sp b dp n = Option.map (fun g => cmem ν sh (csA S b g)) (zcp 0 40 40 (S.2.1 a) (S.2.1 b) sp dp n) := cm_cpy h0 (by decide) rfl h (by decide) (fun _ => rfl)
theorem cy_1040 {ν : zM} {sh : Nat → Nat} {S : zCS} {a b : Nat} {sp dp n : Int32} {R : Type} {K : zM → Option R} (h0 : sh a = 1040) (h : sh b = 1040) : zb1 (zm_cpy (cmem ν sh S) 0 a sp b dp n) K = zb1 (zcp 0 40 40 (S.2.1 a) (S.2.1 b) sp dp n) (fun g => zb1 (some (csA S b g)) (fun X => K (cmem ν sh X))) := by rw [cyr_1040 h0 h]; cases zcp 0 40 40 (S.2.1 a) (S.2.1 b) sp dp n <;> rfl
theorem ca_1100 {ν : zM} {sh : Nat → Nat} {S : zCS} {a : Nat} {i : Int32} (h : sh a = 1100) : zm_aI (cmem ν sh S) 0 a i = zag 100 (S.2.1 a) i := cm_aI h (by decide) rfl (by decide)
theorem csr_1100 {ν : zM} {sh : Nat → Nat} {S : zCS} {a : Nat} {i v : Int32} (h : sh a = 1100) : zm_sI (cmem ν sh S) 0 a i v = Option.map (fun g => cmem ν sh (csA S a g)) (zas 100 (S.2.1 a) i v) := cm_sI h (by decide) (fun _ => rfl)
theorem cs_1100 {ν : zM} {sh : Nat → Nat} {S : zCS} {a : Nat} {i v : Int32} {R : Type} {K : zM → Option R} (h : sh a = 1100) : zb1 (zm_sI (cmem ν sh S) 0 a i v) K = zb1 (zas 100 (S.2.1 a) i v) (fun g => zb1 (some (csA S a g)) (fun X => K (cmem ν sh X))) := by rw [csr_1100 h]; cases zas 100 (S.2.1 a) i v <;> rfl
theorem clr_1100 {ν : zM} {sh : Nat → Nat} {S : zCS} {a : Nat} (h : sh a = 1100) : zm_len (cmem ν sh S) a = some (Int32.ofNat 100) := cm_len h (by decide) rfl (by decide)
theorem cl_1100 {ν : zM} {sh : Nat → Nat} {S : zCS} {a : Nat} {R : Type} {K : Int32 → Option R} (h : sh a = 1100) : zb1 (zm_len (cmem ν sh S) a) K = K (Int32.ofNat 100) := by rw [clr_1100 h]; rfl
theorem cyr_1100 {ν : zM} {sh : Nat → Nat} {S : zCS} {a b : Nat} {sp dp n : Int32} (h0 : sh a = 1100) (h : sh b = 1100) : zm_cpy (cmem ν sh S) 0 a sp b dp n = Option.map (fun g => cmem ν sh (csA S b g)) (zcp 0 100 100 (S.2.1 a) (S.2.1 b) sp dp n) := cm_cpy h0 (by decide) rfl h (by decide) (fun _ => rfl)
theorem cy_1100 {ν : zM} {sh : Nat → Nat} {S : zCS} {a b : Nat} {sp dp n : Int32} {R : Type} {K : zM → Option R} (h0 : sh a = 1100) (h : sh b = 1100) : zb1 (zm_cpy (cmem ν sh S) 0 a sp b dp n) K = zb1 (zcp 0 100 100 (S.2.1 a) (S.2.1 b) sp dp n) (fun g => zb1 (some (csA S b g)) (fun X => K (cmem ν sh X))) := by rw [cyr_1100 h0 h]; cases zcp 0 100 100 (S.2.1 a) (S.2.1 b) sp dp n <;> rfl
theorem ca_1600 {ν : zM} {sh : Nat → Nat} {S : zCS} {a : Nat} {i : Int32} (h : sh a = 1600) : zm_aI (cmem ν sh S) 0 a i = zag 600 (S.2.1 a) i := cm_aI h (by decide) rfl (by decide)
theorem csr_1600 {ν : zM} {sh : Nat → Nat} {S : zCS} {a : Nat} {i v : Int32} (h : sh a = 1600) : zm_sI (cmem ν sh S) 0 a i v = Option.map (fun g => cmem ν sh (csA S a g)) (zas 600 (S.2.1 a) i v) := cm_sI h (by decide) (fun _ => rfl)
theorem cs_1600 {ν : zM} {sh : Nat → Nat} {S : zCS} {a : Nat} {i v : Int32} {R : Type} {K : zM → Option R} (h : sh a = 1600) : zb1 (zm_sI (cmem ν sh S) 0 a i v) K = zb1 (zas 600 (S.2.1 a) i v) (fun g => zb1 (some (csA S a g)) (fun X => K (cmem ν sh X))) := by rw [csr_1600 h]; cases zas 600 (S.2.1 a) i v <;> rfl
theorem clr_1600 {ν : zM} {sh : Nat → Nat} {S : zCS} {a : Nat} (h : sh a = 1600) : zm_len (cmem ν sh S) a = some (Int32.ofNat 600) := cm_len h (by decide) rfl (by decide)
theorem cl_1600 {ν : zM} {sh : Nat → Nat} {S : zCS} {a : Nat} {R : Type} {K : Int32 → Option R} (h : sh a = 1600) : zb1 (zm_len (cmem ν sh S) a) K = K (Int32.ofNat 600) := by rw [clr_1600 h]; rfl
theorem cyr_1600 {ν : zM} {sh : Nat → Nat} {S : zCS} {a b : Nat} {sp dp n : Int32} (h0 : sh a = 1600) (h : sh b = 1600) : zm_cpy (cmem ν sh S) 0 a sp b dp n = Option.map (fun g => cmem ν sh (csA S b g)) (zcp 0 600 600 (S.2.1 a) (S.2.1 b) sp dp n) := cm_cpy h0 (by decide) rfl h (by decide) (fun _ => rfl)
theorem cy_1600 {ν : zM} {sh : Nat → Nat} {S : zCS} {a b : Nat} {sp dp n : Int32} {R : Type} {K : zM → Option R} (h0 : sh a = 1600) (h : sh b = 1600) : zb1 (zm_cpy (cmem ν sh S) 0 a sp b dp n) K = zb1 (zcp 0 600 600 (S.2.1 a) (S.2.1 b) sp dp n) (fun g => zb1 (some (csA S b g)) (fun X => K (cmem ν sh X))) := by rw [cyr_1600 h0 h]; cases zcp 0 600 600 (S.2.1 a) (S.2.1 b) sp dp n <;> rfl
theorem ca_4100 {ν : zM} {sh : Nat → Nat} {S : zCS} {a : Nat} {i : Int32} (h : sh a = 4100) : zm_aI (cmem ν sh S) 0 a i = zag 3100 (S.2.1 a) i := cm_aI h (by decide) rfl (by decide)
theorem csr_4100 {ν : zM} {sh : Nat → Nat} {S : zCS} {a : Nat} {i v : Int32} (h : sh a = 4100) : zm_sI (cmem ν sh S) 0 a i v = Option.map (fun g => cmem ν sh (csA S a g)) (zas 3100 (S.2.1 a) i v) := cm_sI h (by decide) (fun _ => rfl)
theorem cs_4100 {ν : zM} {sh : Nat → Nat} {S : zCS} {a : Nat} {i v : Int32} {R : Type} {K : zM → Option R} (h : sh a = 4100) : zb1 (zm_sI (cmem ν sh S) 0 a i v) K = zb1 (zas 3100 (S.2.1 a) i v) (fun g => zb1 (some (csA S a g)) (fun X => K (cmem ν sh X))) := by rw [csr_4100 h]; cases zas 3100 (S.2.1 a) i v <;> rfl
theorem clr_4100 {ν : zM} {sh : Nat → Nat} {S : zCS} {a : Nat} (h : sh a = 4100) : zm_len (cmem ν sh S) a = some (Int32.ofNat 3100) := cm_len h (by decide) rfl (by decide)
theorem cl_4100 {ν : zM} {sh : Nat → Nat} {S : zCS} {a : Nat} {R : Type} {K : Int32 → Option R} (h : sh a = 4100) : zb1 (zm_len (cmem ν sh S) a) K = K (Int32.ofNat 3100) := by rw [clr_4100 h]; rfl
theorem cyr_4100 {ν : zM} {sh : Nat → Nat} {S : zCS} {a b : Nat} {sp dp n : Int32} (h0 : sh a = 4100) (h : sh b = 4100) : zm_cpy (cmem ν sh S) 0 a sp b dp n = Option.map (fun g => cmem ν sh (csA S b g)) (zcp 0 3100 3100 (S.2.1 a) (S.2.1 b) sp dp n) := cm_cpy h0 (by decide) rfl h (by decide) (fun _ => rfl)
theorem cy_4100 {ν : zM} {sh : Nat → Nat} {S : zCS} {a b : Nat} {sp dp n : Int32} {R : Type} {K : zM → Option R} (h0 : sh a = 4100) (h : sh b = 4100) : zb1 (zm_cpy (cmem ν sh S) 0 a sp b dp n) K = zb1 (zcp 0 3100 3100 (S.2.1 a) (S.2.1 b) sp dp n) (fun g => zb1 (some (csA S b g)) (fun X => K (cmem ν sh X))) := by rw [cyr_4100 h0 h]; cases zcp 0 3100 3100 (S.2.1 a) (S.2.1 b) sp dp n <;> rfl
theorem ca_9001 {ν : zM} {sh : Nat → Nat} {S : zCS} {a : Nat} {i : Int32} (h : sh a = 9001) : zm_aI (cmem ν sh S) 1 a i = zag 600 (S.2.1 a) i := cm_aI h (by decide) rfl (by decide)
theorem csr_9001 {ν : zM} {sh : Nat → Nat} {S : zCS} {a : Nat} {i v : Int32} (h : sh a = 9001) : zm_sI (cmem ν sh S) 1 a i v = Option.map (fun g => cmem ν sh (csA S a g)) (zas 600 (S.2.1 a) i v) := cm_sI h (by decide) (fun _ => rfl)
theorem cs_9001 {ν : zM} {sh : Nat → Nat} {S : zCS} {a : Nat} {i v : Int32} {R : Type} {K : zM → Option R} (h : sh a = 9001) : zb1 (zm_sI (cmem ν sh S) 1 a i v) K = zb1 (zas 600 (S.2.1 a) i v) (fun g => zb1 (some (csA S a g)) (fun X => K (cmem ν sh X))) := by rw [csr_9001 h]; cases zas 600 (S.2.1 a) i v <;> rfl
theorem clr_9001 {ν : zM} {sh : Nat → Nat} {S : zCS} {a : Nat} (h : sh a = 9001) : zm_len (cmem ν sh S) a = some (Int32.ofNat 600) := cm_len h (by decide) rfl (by decide)
theorem cl_9001 {ν : zM} {sh : Nat → Nat} {S : zCS} {a : Nat} {R : Type} {K : Int32 → Option R} (h : sh a = 9001) : zb1 (zm_len (cmem ν sh S) a) K = K (Int32.ofNat 600) := by rw [clr_9001 h]; rfl
theorem cyr_9001 {ν : zM} {sh : Nat → Nat} {S : zCS} {a b : Nat} {sp dp n : Int32} (h0 : sh a = 9001) (h : sh b = 9001) : zm_cpy (cmem ν sh S) 1 a sp b dp n = Option.map (fun g => cmem ν sh (csA S b g)) (zcp 1 600 600 (S.2.1 a) (S.2.1 b) sp dp n) := cm_cpy h0 (by decide) rfl h (by decide) (fun _ => rfl)
theorem cy_9001 {ν : zM} {sh : Nat → Nat} {S : zCS} {a b : Nat} {sp dp n : Int32} {R : Type} {K : zM → Option R} (h0 : sh a = 9001) (h : sh b = 9001) : zb1 (zm_cpy (cmem ν sh S) 1 a sp b dp n) K = zb1 (zcp 1 600 600 (S.2.1 a) (S.2.1 b) sp dp n) (fun g => zb1 (some (csA S b g)) (fun X => K (cmem ν sh X))) := by rw [cyr_9001 h0 h]; cases zcp 1 600 600 (S.2.1 a) (S.2.1 b) sp dp n <;> rfl
def zel (s a : Nat) (i : Int32) : Option (Option Nat) := if i < 0 ∨ 2 ≤ i.toNatClampNeg then none else some (some (a + 1 + s * i.toNatClampNeg))
theorem cq_9004 {ν : zM} {sh : Nat → Nat} {S : zCS} {a : Nat} {i : Int32} (h : sh a = 9004) : zm_aQ (cmem ν sh S) 4 a i = zel 11 a i := by
  unfold zm_aQ zel
  rw [cm_at h (by decide)]
  show (if 4 = 4 ∧ ¬ (i < 0 ∨ 2 ≤ i.toNatClampNeg) then some (if i.toNatClampNeg < 2 then some (a + 1 + 11 * i.toNatClampNeg) else none) else none) = _
  by_cases hq : i < 0 ∨ 2 ≤ i.toNatClampNeg
  · rw [if_pos hq, if_neg (fun z => z.2 hq)]
  · rw [if_neg hq, if_pos ⟨rfl, hq⟩, if_pos (Nat.lt_of_not_le (fun z => hq (.inr z)))]
theorem cq_9005 {ν : zM} {sh : Nat → Nat} {S : zCS} {a : Nat} {i : Int32} (h : sh a = 9005) : zm_aQ (cmem ν sh S) 5 a i = zel 4 a i := by
  unfold zm_aQ zel
  rw [cm_at h (by decide)]
  show (if 5 = 5 ∧ ¬ (i < 0 ∨ 2 ≤ i.toNatClampNeg) then some (if i.toNatClampNeg < 2 then some (a + 1 + 4 * i.toNatClampNeg) else none) else none) = _
  by_cases hq : i < 0 ∨ 2 ≤ i.toNatClampNeg
  · rw [if_pos hq, if_neg (fun z => z.2 hq)]
  · rw [if_neg hq, if_pos ⟨rfl, hq⟩, if_pos (Nat.lt_of_not_le (fun z => hq (.inr z)))]
theorem cq_9006 {ν : zM} {sh : Nat → Nat} {S : zCS} {a : Nat} {i : Int32} (h : sh a = 9006) : zm_aQ (cmem ν sh S) 6 a i = zel 3 a i := by
  unfold zm_aQ zel
  rw [cm_at h (by decide)]
  show (if 6 = 6 ∧ ¬ (i < 0 ∨ 2 ≤ i.toNatClampNeg) then some (if i.toNatClampNeg < 2 then some (a + 1 + 3 * i.toNatClampNeg) else none) else none) = _
  by_cases hq : i < 0 ∨ 2 ≤ i.toNatClampNeg
  · rw [if_pos hq, if_neg (fun z => z.2 hq)]
  · rw [if_neg hq, if_pos ⟨rfl, hq⟩, if_pos (Nat.lt_of_not_le (fun z => hq (.inr z)))]
theorem cq_9007 {ν : zM} {sh : Nat → Nat} {S : zCS} {a : Nat} {i : Int32} (h : sh a = 9007) : zm_aQ (cmem ν sh S) 7 a i = zel 5 a i := by
  unfold zm_aQ zel
  rw [cm_at h (by decide)]
  show (if 7 = 7 ∧ ¬ (i < 0 ∨ 2 ≤ i.toNatClampNeg) then some (if i.toNatClampNeg < 2 then some (a + 1 + 5 * i.toNatClampNeg) else none) else none) = _
  by_cases hq : i < 0 ∨ 2 ≤ i.toNatClampNeg
  · rw [if_pos hq, if_neg (fun z => z.2 hq)]
  · rw [if_neg hq, if_pos ⟨rfl, hq⟩, if_pos (Nat.lt_of_not_le (fun z => hq (.inr z)))]
