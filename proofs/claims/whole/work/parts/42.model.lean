def mln (k : Nat) : Nat := match k with
  | 1 => 2400
  | 2 => 4
  | 3 => 4
  | 4 => 4
  | 5 => 16
  | 6 => 456
  | 7 => 968
  | 8 => 176
  | 9 => 264
  | 19 => 121
  | 20 => 4
  | 27 => 600
  | 28 => 300
  | 31 => 6
  | 32 => 6
  | 33 => 6
  | 37 => 6
  | 38 => 6
  | 41 => 100
  | 42 => 100
  | 43 => 1161
  | 45 => 8
  | 47 => 3100
  | 50 => 6
  | 51 => 6
  | 52 => 6
  | 53 => 3
  | _ => 0
def mof (k : Nat) : Nat := match k with
  | 1 => 1
  | 2 => 2
  | 3 => 3
  | 4 => 4
  | 5 => 5
  | 6 => 6
  | 7 => 7
  | 8 => 8
  | 9 => 9
  | 19 => 10
  | 20 => 11
  | 27 => 12
  | 28 => 13
  | 31 => 14
  | 32 => 15
  | 33 => 16
  | 37 => 17
  | 38 => 18
  | 41 => 19
  | 42 => 20
  | 43 => 21
  | 45 => 22
  | 47 => 23
  | 50 => 24
  | 51 => 25
  | 52 => 26
  | 53 => 27
  | _ => 0
def mdlC (Y : Nat) (M : zMS) (j : Nat) : zE := match j with
  | 0 => .inr (12, [.int (M.1 0), .ref (Y + 1), .ref (Y + 2), .ref (Y + 3), .ref (Y + 4), .ref (Y + 5), .ref (Y + 6), .ref (Y + 7), .ref (Y + 8), .ref (Y + 9), .int (M.1 10), .int (M.1 11), .int (M.1 12), .int (M.1 13), .int (M.1 14), .long (M.2.1 15), .int (M.1 16), .int (M.1 17), .int (M.1 18), .ref (Y + 10), .ref (Y + 11), .int (M.1 21), .int (M.1 22), .int (M.1 23), .int (M.1 24), .int (M.1 25), .int (M.1 26), .ref (Y + 12), .ref (Y + 13), .int (M.1 29), .int (M.1 30), .ref (Y + 14), .ref (Y + 15), .ref (Y + 16), .int (M.1 34), .int (M.1 35), .int (M.1 36), .ref (Y + 17), .ref (Y + 18), .int (M.1 39), .int (M.1 40), .ref (Y + 19), .ref (Y + 20), .ref (Y + 21), .int (M.1 44), .ref (Y + 22), .int (M.1 46), .ref (Y + 23), .int (M.1 48), .int (M.1 49), .ref (Y + 24), .ref (Y + 25), .ref (Y + 26), .ref (Y + 27)])
  | 1 => .inl (1, 2400, .inl (M.2.2 1))
  | 2 => .inl (0, 4, .inl (M.2.2 2))
  | 3 => .inl (0, 4, .inl (M.2.2 3))
  | 4 => .inl (0, 4, .inl (M.2.2 4))
  | 5 => .inl (0, 16, .inl (M.2.2 5))
  | 6 => .inl (0, 456, .inl (M.2.2 6))
  | 7 => .inl (0, 968, .inl (M.2.2 7))
  | 8 => .inl (0, 176, .inl (M.2.2 8))
  | 9 => .inl (0, 264, .inl (M.2.2 9))
  | 10 => .inl (0, 121, .inl (M.2.2 19))
  | 11 => .inl (0, 4, .inl (M.2.2 20))
  | 12 => .inl (0, 600, .inl (M.2.2 27))
  | 13 => .inl (0, 300, .inl (M.2.2 28))
  | 14 => .inl (0, 6, .inl (M.2.2 31))
  | 15 => .inl (0, 6, .inl (M.2.2 32))
  | 16 => .inl (0, 6, .inl (M.2.2 33))
  | 17 => .inl (0, 6, .inl (M.2.2 37))
  | 18 => .inl (0, 6, .inl (M.2.2 38))
  | 19 => .inl (0, 100, .inl (M.2.2 41))
  | 20 => .inl (0, 100, .inl (M.2.2 42))
  | 21 => .inl (0, 1161, .inl (M.2.2 43))
  | 22 => .inl (0, 8, .inl (M.2.2 45))
  | 23 => .inl (0, 3100, .inl (M.2.2 47))
  | 24 => .inl (0, 6, .inl (M.2.2 50))
  | 25 => .inl (0, 6, .inl (M.2.2 51))
  | 26 => .inl (0, 6, .inl (M.2.2 52))
  | 27 => .inl (2, 3, .inl (M.2.2 53))
  | _ => .inr (99, [])
/-- a memory with the reference's object at Y -/
def mdl (ν : zM) (Y : Nat) (M : zMS) : zM := (fun q => if Y ≤ q ∧ q < Y + 28 then some (mdlC Y M (q - Y)) else ν.1 q, ν.2)
theorem mdl_at (ν : zM) (Y : Nat) (M : zMS) {j : Nat} (h : j < 28) : (mdl ν Y M).1 (Y + j) = some (mdlC Y M j) := by
  show (if Y ≤ Y + j ∧ Y + j < Y + 28 then some (mdlC Y M (Y + j - Y)) else ν.1 (Y + j)) = _
  rw [if_pos ⟨by omega, by omega⟩, Nat.add_sub_cancel_left]
theorem mdl_at0 (ν : zM) (Y : Nat) (M : zMS) : (mdl ν Y M).1 Y = some (mdlC Y M 0) := mdl_at ν Y M (j := 0) (by omega)
theorem mdl_up {ν : zM} {Y : Nat} {M M' : zMS} {j : Nat} {e : zE} (hj : j < 28) (he : mdlC Y M' j = e) (ho : ∀ i, i < 28 → i ≠ j → mdlC Y M' i = mdlC Y M i) : zm_up (mdl ν Y M) (Y + j) e = mdl ν Y M' := by
  refine Prod.ext (funext fun q => ?_) rfl
  show (if q = Y + j then some e else if Y ≤ q ∧ q < Y + 28 then some (mdlC Y M (q - Y)) else ν.1 q) = if Y ≤ q ∧ q < Y + 28 then some (mdlC Y M' (q - Y)) else ν.1 q
  by_cases hq : q = Y + j
  · subst hq
    rw [if_pos rfl, if_pos ⟨by omega, by omega⟩, Nat.add_sub_cancel_left, he]
  · rw [if_neg hq]
    by_cases hr : Y ≤ q ∧ q < Y + 28
    · rw [if_pos hr, if_pos hr, ho (q - Y) (by omega) (by omega)]
    · rw [if_neg hr, if_neg hr]
theorem mdlC_t {Y : Nat} {M M' : zMS} (h : M'.2.2 = M.2.2) : ∀ i, i < 28 → i ≠ 0 → mdlC Y M' i = mdlC Y M i := by
  intro i hi hne
  unfold mdlC
  rw [h]
  split
  · exact absurd rfl hne
  all_goals rfl
theorem md_ck {ν : zM} {Y : Nat} {M : zMS} : zm_ck (mdl ν Y M) 12 Y = true := by unfold zm_ck; rw [mdl_at0]; rfl
theorem md_pI {ν : zM} {Y : Nat} {M : zMS} {k : Nat} {v : Int32} (he : mdlC Y (zsI M k v) 0 = .inr (12, (match mdlC Y M 0 with | .inr (_, fs) => fs.set k (.int v) | _ => []))) (hk : k < 54) : zm_p (mdl ν Y M) 12 Y k (.int v) = some (mdl ν Y (zsI M k v)) := by
  unfold zm_p
  rw [mdl_at0]
  show (if 12 = 12 ∧ k < 54 then some (zm_up (mdl ν Y M) Y _) else none) = _
  rw [if_pos ⟨rfl, hk⟩]
  exact congrArg some (mdl_up (j := 0) (by omega) he (mdlC_t rfl))
theorem md_pL {ν : zM} {Y : Nat} {M : zMS} {k : Nat} {v : Int64} (he : mdlC Y (zsL M k v) 0 = .inr (12, (match mdlC Y M 0 with | .inr (_, fs) => fs.set k (.long v) | _ => []))) (hk : k < 54) : zm_p (mdl ν Y M) 12 Y k (.long v) = some (mdl ν Y (zsL M k v)) := by
  unfold zm_p
  rw [mdl_at0]
  show (if 12 = 12 ∧ k < 54 then some (zm_up (mdl ν Y M) Y _) else none) = _
  rw [if_pos ⟨rfl, hk⟩]
  exact congrArg some (mdl_up (j := 0) (by omega) he (mdlC_t rfl))
theorem md_aI {ν : zM} {Y : Nat} {M : zMS} {j t n k : Nat} {i : Int32} (hj : j < 28) (h : mdlC Y M j = .inl (t, n, .inl (M.2.2 k))) (ht : t < 3) : zm_aI (mdl ν Y M) t (Y + j) i = zag n (M.2.2 k) i := by
  unfold zm_aI zag
  rw [mdl_at ν Y M hj, h]
  show (if t % 10 = t ∧ t < 12 ∧ ¬ (i < 0 ∨ n ≤ i.toNatClampNeg) then some (M.2.2 k i.toNatClampNeg) else none) = _
  by_cases hc : i < 0 ∨ n ≤ i.toNatClampNeg
  · rw [if_pos hc, if_neg (fun z => z.2.2 hc)]
  · rw [if_neg hc, if_pos ⟨by omega, by omega, hc⟩]
theorem md_sI {ν : zM} {Y : Nat} {M : zMS} {j t n k : Nat} {i v : Int32} (hj : j < 28) (h : mdlC Y M j = .inl (t, n, .inl (M.2.2 k))) (he : ∀ g, mdlC Y (zsA M k g) j = .inl (t, n, .inl g)) (ho : ∀ g i, i < 28 → i ≠ j → mdlC Y (zsA M k g) i = mdlC Y M i) : zm_sI (mdl ν Y M) t (Y + j) i v = Option.map (fun g => mdl ν Y (zsA M k g)) (zas n (M.2.2 k) i v) := by
  unfold zm_sI zas
  rw [mdl_at ν Y M hj, h]
  show (if t = t ∧ ¬ (i < 0 ∨ n ≤ i.toNatClampNeg) then some (zm_up (mdl ν Y M) (Y + j) (.inl (t, n, .inl (upd (M.2.2 k) i.toNatClampNeg v)))) else none) = _
  by_cases hc : i < 0 ∨ n ≤ i.toNatClampNeg
  · rw [if_pos hc, if_neg (fun z => z.2 hc)]; rfl
  · rw [if_neg hc, if_pos ⟨rfl, hc⟩]
    exact congrArg some (mdl_up hj (he _) (ho _))
def mia (k : Nat) : Bool := [2, 3, 4, 5, 6, 7, 8, 9, 19, 20, 27, 28, 31, 32, 33, 37, 38, 41, 42, 43, 45, 47, 50, 51, 52].contains k
theorem md_g0 {ν : zM} {Y : Nat} {M : zMS} {R : Type} {K : Int32 → Option R} : zb1 (zm_gI (mdl ν Y M) 12 Y 0) K = K (M.1 0) := by unfold zm_gI zm_g; rw [mdl_at0]; rfl
theorem md_p0 {ν : zM} {Y : Nat} {M : zMS} {v : Int32} {R : Type} {K : zM → Option R} : zb1 (zm_p (mdl ν Y M) 12 Y 0 (.int v)) K = zb1 (some (zsI M 0 v)) (fun X => K (mdl ν Y X)) := by rw [md_pI rfl (by decide)]; rfl
theorem md_g1 {ν : zM} {Y : Nat} {M : zMS} {R : Type} {K : Nat → Option R} : zb1 (zm_gR (mdl ν Y M) 12 Y 1) K = K (Y + 1) := by unfold zm_gR zm_g; rw [mdl_at0]; rfl
theorem md_a1 {ν : zM} {Y : Nat} {M : zMS} {i : Int32} : zm_aI (mdl ν Y M) 1 (Y + 1) i = zag 2400 (M.2.2 1) i := md_aI (by decide) rfl (by decide)
theorem md_o1 {Y : Nat} {M : zMS} (g : Nat → Int32) (i : Nat) (hi : i < 28) (hne : i ≠ 1) : mdlC Y (zsA M 1 g) i = mdlC Y M i := by
  unfold mdlC
  split
  all_goals first | rfl | exact absurd rfl hne | (exfalso; omega)
theorem md_r1 {ν : zM} {Y : Nat} {M : zMS} {i v : Int32} : zm_sI (mdl ν Y M) 1 (Y + 1) i v = Option.map (fun g => mdl ν Y (zsA M 1 g)) (zas 2400 (M.2.2 1) i v) := md_sI (by decide) rfl (fun _ => rfl) md_o1
theorem md_s1 {ν : zM} {Y : Nat} {M : zMS} {i v : Int32} {R : Type} {K : zM → Option R} : zb1 (zm_sI (mdl ν Y M) 1 (Y + 1) i v) K = zb1 (zas 2400 (M.2.2 1) i v) (fun g => zb1 (some (zsA M 1 g)) (fun X => K (mdl ν Y X))) := by rw [md_r1]; cases zas 2400 (M.2.2 1) i v <;> rfl
theorem md_g2 {ν : zM} {Y : Nat} {M : zMS} {R : Type} {K : Nat → Option R} : zb1 (zm_gR (mdl ν Y M) 12 Y 2) K = K (Y + 2) := by unfold zm_gR zm_g; rw [mdl_at0]; rfl
theorem md_a2 {ν : zM} {Y : Nat} {M : zMS} {i : Int32} : zm_aI (mdl ν Y M) 0 (Y + 2) i = zag 4 (M.2.2 2) i := md_aI (by decide) rfl (by decide)
theorem md_o2 {Y : Nat} {M : zMS} (g : Nat → Int32) (i : Nat) (hi : i < 28) (hne : i ≠ 2) : mdlC Y (zsA M 2 g) i = mdlC Y M i := by
  unfold mdlC
  split
  all_goals first | rfl | exact absurd rfl hne | (exfalso; omega)
theorem md_r2 {ν : zM} {Y : Nat} {M : zMS} {i v : Int32} : zm_sI (mdl ν Y M) 0 (Y + 2) i v = Option.map (fun g => mdl ν Y (zsA M 2 g)) (zas 4 (M.2.2 2) i v) := md_sI (by decide) rfl (fun _ => rfl) md_o2
theorem md_s2 {ν : zM} {Y : Nat} {M : zMS} {i v : Int32} {R : Type} {K : zM → Option R} : zb1 (zm_sI (mdl ν Y M) 0 (Y + 2) i v) K = zb1 (zas 4 (M.2.2 2) i v) (fun g => zb1 (some (zsA M 2 g)) (fun X => K (mdl ν Y X))) := by rw [md_r2]; cases zas 4 (M.2.2 2) i v <;> rfl
theorem md_g3 {ν : zM} {Y : Nat} {M : zMS} {R : Type} {K : Nat → Option R} : zb1 (zm_gR (mdl ν Y M) 12 Y 3) K = K (Y + 3) := by unfold zm_gR zm_g; rw [mdl_at0]; rfl
theorem md_a3 {ν : zM} {Y : Nat} {M : zMS} {i : Int32} : zm_aI (mdl ν Y M) 0 (Y + 3) i = zag 4 (M.2.2 3) i := md_aI (by decide) rfl (by decide)
theorem md_o3 {Y : Nat} {M : zMS} (g : Nat → Int32) (i : Nat) (hi : i < 28) (hne : i ≠ 3) : mdlC Y (zsA M 3 g) i = mdlC Y M i := by
  unfold mdlC
  split
  all_goals first | rfl | exact absurd rfl hne | (exfalso; omega)
theorem md_r3 {ν : zM} {Y : Nat} {M : zMS} {i v : Int32} : zm_sI (mdl ν Y M) 0 (Y + 3) i v = Option.map (fun g => mdl ν Y (zsA M 3 g)) (zas 4 (M.2.2 3) i v) := md_sI (by decide) rfl (fun _ => rfl) md_o3
theorem md_s3 {ν : zM} {Y : Nat} {M : zMS} {i v : Int32} {R : Type} {K : zM → Option R} : zb1 (zm_sI (mdl ν Y M) 0 (Y + 3) i v) K = zb1 (zas 4 (M.2.2 3) i v) (fun g => zb1 (some (zsA M 3 g)) (fun X => K (mdl ν Y X))) := by rw [md_r3]; cases zas 4 (M.2.2 3) i v <;> rfl
theorem md_g4 {ν : zM} {Y : Nat} {M : zMS} {R : Type} {K : Nat → Option R} : zb1 (zm_gR (mdl ν Y M) 12 Y 4) K = K (Y + 4) := by unfold zm_gR zm_g; rw [mdl_at0]; rfl
theorem md_a4 {ν : zM} {Y : Nat} {M : zMS} {i : Int32} : zm_aI (mdl ν Y M) 0 (Y + 4) i = zag 4 (M.2.2 4) i := md_aI (by decide) rfl (by decide)
theorem md_o4 {Y : Nat} {M : zMS} (g : Nat → Int32) (i : Nat) (hi : i < 28) (hne : i ≠ 4) : mdlC Y (zsA M 4 g) i = mdlC Y M i := by
  unfold mdlC
  split
  all_goals first | rfl | exact absurd rfl hne | (exfalso; omega)
theorem md_r4 {ν : zM} {Y : Nat} {M : zMS} {i v : Int32} : zm_sI (mdl ν Y M) 0 (Y + 4) i v = Option.map (fun g => mdl ν Y (zsA M 4 g)) (zas 4 (M.2.2 4) i v) := md_sI (by decide) rfl (fun _ => rfl) md_o4
theorem md_s4 {ν : zM} {Y : Nat} {M : zMS} {i v : Int32} {R : Type} {K : zM → Option R} : zb1 (zm_sI (mdl ν Y M) 0 (Y + 4) i v) K = zb1 (zas 4 (M.2.2 4) i v) (fun g => zb1 (some (zsA M 4 g)) (fun X => K (mdl ν Y X))) := by rw [md_r4]; cases zas 4 (M.2.2 4) i v <;> rfl
theorem md_g5 {ν : zM} {Y : Nat} {M : zMS} {R : Type} {K : Nat → Option R} : zb1 (zm_gR (mdl ν Y M) 12 Y 5) K = K (Y + 5) := by unfold zm_gR zm_g; rw [mdl_at0]; rfl
theorem md_a5 {ν : zM} {Y : Nat} {M : zMS} {i : Int32} : zm_aI (mdl ν Y M) 0 (Y + 5) i = zag 16 (M.2.2 5) i := md_aI (by decide) rfl (by decide)
theorem md_o5 {Y : Nat} {M : zMS} (g : Nat → Int32) (i : Nat) (hi : i < 28) (hne : i ≠ 5) : mdlC Y (zsA M 5 g) i = mdlC Y M i := by
  unfold mdlC
  split
  all_goals first | rfl | exact absurd rfl hne | (exfalso; omega)
theorem md_r5 {ν : zM} {Y : Nat} {M : zMS} {i v : Int32} : zm_sI (mdl ν Y M) 0 (Y + 5) i v = Option.map (fun g => mdl ν Y (zsA M 5 g)) (zas 16 (M.2.2 5) i v) := md_sI (by decide) rfl (fun _ => rfl) md_o5
theorem md_s5 {ν : zM} {Y : Nat} {M : zMS} {i v : Int32} {R : Type} {K : zM → Option R} : zb1 (zm_sI (mdl ν Y M) 0 (Y + 5) i v) K = zb1 (zas 16 (M.2.2 5) i v) (fun g => zb1 (some (zsA M 5 g)) (fun X => K (mdl ν Y X))) := by rw [md_r5]; cases zas 16 (M.2.2 5) i v <;> rfl
theorem md_g6 {ν : zM} {Y : Nat} {M : zMS} {R : Type} {K : Nat → Option R} : zb1 (zm_gR (mdl ν Y M) 12 Y 6) K = K (Y + 6) := by unfold zm_gR zm_g; rw [mdl_at0]; rfl
theorem md_a6 {ν : zM} {Y : Nat} {M : zMS} {i : Int32} : zm_aI (mdl ν Y M) 0 (Y + 6) i = zag 456 (M.2.2 6) i := md_aI (by decide) rfl (by decide)
theorem md_o6 {Y : Nat} {M : zMS} (g : Nat → Int32) (i : Nat) (hi : i < 28) (hne : i ≠ 6) : mdlC Y (zsA M 6 g) i = mdlC Y M i := by
  unfold mdlC
  split
  all_goals first | rfl | exact absurd rfl hne | (exfalso; omega)
theorem md_r6 {ν : zM} {Y : Nat} {M : zMS} {i v : Int32} : zm_sI (mdl ν Y M) 0 (Y + 6) i v = Option.map (fun g => mdl ν Y (zsA M 6 g)) (zas 456 (M.2.2 6) i v) := md_sI (by decide) rfl (fun _ => rfl) md_o6
theorem md_s6 {ν : zM} {Y : Nat} {M : zMS} {i v : Int32} {R : Type} {K : zM → Option R} : zb1 (zm_sI (mdl ν Y M) 0 (Y + 6) i v) K = zb1 (zas 456 (M.2.2 6) i v) (fun g => zb1 (some (zsA M 6 g)) (fun X => K (mdl ν Y X))) := by rw [md_r6]; cases zas 456 (M.2.2 6) i v <;> rfl
theorem md_g7 {ν : zM} {Y : Nat} {M : zMS} {R : Type} {K : Nat → Option R} : zb1 (zm_gR (mdl ν Y M) 12 Y 7) K = K (Y + 7) := by unfold zm_gR zm_g; rw [mdl_at0]; rfl
theorem md_a7 {ν : zM} {Y : Nat} {M : zMS} {i : Int32} : zm_aI (mdl ν Y M) 0 (Y + 7) i = zag 968 (M.2.2 7) i := md_aI (by decide) rfl (by decide)
theorem md_o7 {Y : Nat} {M : zMS} (g : Nat → Int32) (i : Nat) (hi : i < 28) (hne : i ≠ 7) : mdlC Y (zsA M 7 g) i = mdlC Y M i := by
  unfold mdlC
  split
  all_goals first | rfl | exact absurd rfl hne | (exfalso; omega)
theorem md_r7 {ν : zM} {Y : Nat} {M : zMS} {i v : Int32} : zm_sI (mdl ν Y M) 0 (Y + 7) i v = Option.map (fun g => mdl ν Y (zsA M 7 g)) (zas 968 (M.2.2 7) i v) := md_sI (by decide) rfl (fun _ => rfl) md_o7
theorem md_s7 {ν : zM} {Y : Nat} {M : zMS} {i v : Int32} {R : Type} {K : zM → Option R} : zb1 (zm_sI (mdl ν Y M) 0 (Y + 7) i v) K = zb1 (zas 968 (M.2.2 7) i v) (fun g => zb1 (some (zsA M 7 g)) (fun X => K (mdl ν Y X))) := by rw [md_r7]; cases zas 968 (M.2.2 7) i v <;> rfl
theorem md_g8 {ν : zM} {Y : Nat} {M : zMS} {R : Type} {K : Nat → Option R} : zb1 (zm_gR (mdl ν Y M) 12 Y 8) K = K (Y + 8) := by unfold zm_gR zm_g; rw [mdl_at0]; rfl
theorem md_a8 {ν : zM} {Y : Nat} {M : zMS} {i : Int32} : zm_aI (mdl ν Y M) 0 (Y + 8) i = zag 176 (M.2.2 8) i := md_aI (by decide) rfl (by decide)
theorem md_o8 {Y : Nat} {M : zMS} (g : Nat → Int32) (i : Nat) (hi : i < 28) (hne : i ≠ 8) : mdlC Y (zsA M 8 g) i = mdlC Y M i := by
  unfold mdlC
  split
  all_goals first | rfl | exact absurd rfl hne | (exfalso; omega)
theorem md_r8 {ν : zM} {Y : Nat} {M : zMS} {i v : Int32} : zm_sI (mdl ν Y M) 0 (Y + 8) i v = Option.map (fun g => mdl ν Y (zsA M 8 g)) (zas 176 (M.2.2 8) i v) := md_sI (by decide) rfl (fun _ => rfl) md_o8
theorem md_s8 {ν : zM} {Y : Nat} {M : zMS} {i v : Int32} {R : Type} {K : zM → Option R} : zb1 (zm_sI (mdl ν Y M) 0 (Y + 8) i v) K = zb1 (zas 176 (M.2.2 8) i v) (fun g => zb1 (some (zsA M 8 g)) (fun X => K (mdl ν Y X))) := by rw [md_r8]; cases zas 176 (M.2.2 8) i v <;> rfl
theorem md_g9 {ν : zM} {Y : Nat} {M : zMS} {R : Type} {K : Nat → Option R} : zb1 (zm_gR (mdl ν Y M) 12 Y 9) K = K (Y + 9) := by unfold zm_gR zm_g; rw [mdl_at0]; rfl
theorem md_a9 {ν : zM} {Y : Nat} {M : zMS} {i : Int32} : zm_aI (mdl ν Y M) 0 (Y + 9) i = zag 264 (M.2.2 9) i := md_aI (by decide) rfl (by decide)
theorem md_o9 {Y : Nat} {M : zMS} (g : Nat → Int32) (i : Nat) (hi : i < 28) (hne : i ≠ 9) : mdlC Y (zsA M 9 g) i = mdlC Y M i := by
  unfold mdlC
  split
  all_goals first | rfl | exact absurd rfl hne | (exfalso; omega)
theorem md_r9 {ν : zM} {Y : Nat} {M : zMS} {i v : Int32} : zm_sI (mdl ν Y M) 0 (Y + 9) i v = Option.map (fun g => mdl ν Y (zsA M 9 g)) (zas 264 (M.2.2 9) i v) := md_sI (by decide) rfl (fun _ => rfl) md_o9
theorem md_s9 {ν : zM} {Y : Nat} {M : zMS} {i v : Int32} {R : Type} {K : zM → Option R} : zb1 (zm_sI (mdl ν Y M) 0 (Y + 9) i v) K = zb1 (zas 264 (M.2.2 9) i v) (fun g => zb1 (some (zsA M 9 g)) (fun X => K (mdl ν Y X))) := by rw [md_r9]; cases zas 264 (M.2.2 9) i v <;> rfl
theorem md_g10 {ν : zM} {Y : Nat} {M : zMS} {R : Type} {K : Int32 → Option R} : zb1 (zm_gI (mdl ν Y M) 12 Y 10) K = K (M.1 10) := by unfold zm_gI zm_g; rw [mdl_at0]; rfl
theorem md_p10 {ν : zM} {Y : Nat} {M : zMS} {v : Int32} {R : Type} {K : zM → Option R} : zb1 (zm_p (mdl ν Y M) 12 Y 10 (.int v)) K = zb1 (some (zsI M 10 v)) (fun X => K (mdl ν Y X)) := by rw [md_pI rfl (by decide)]; rfl
theorem md_g11 {ν : zM} {Y : Nat} {M : zMS} {R : Type} {K : Int32 → Option R} : zb1 (zm_gI (mdl ν Y M) 12 Y 11) K = K (M.1 11) := by unfold zm_gI zm_g; rw [mdl_at0]; rfl
theorem md_p11 {ν : zM} {Y : Nat} {M : zMS} {v : Int32} {R : Type} {K : zM → Option R} : zb1 (zm_p (mdl ν Y M) 12 Y 11 (.int v)) K = zb1 (some (zsI M 11 v)) (fun X => K (mdl ν Y X)) := by rw [md_pI rfl (by decide)]; rfl
theorem md_g12 {ν : zM} {Y : Nat} {M : zMS} {R : Type} {K : Int32 → Option R} : zb1 (zm_gI (mdl ν Y M) 12 Y 12) K = K (M.1 12) := by unfold zm_gI zm_g; rw [mdl_at0]; rfl
theorem md_p12 {ν : zM} {Y : Nat} {M : zMS} {v : Int32} {R : Type} {K : zM → Option R} : zb1 (zm_p (mdl ν Y M) 12 Y 12 (.int v)) K = zb1 (some (zsI M 12 v)) (fun X => K (mdl ν Y X)) := by rw [md_pI rfl (by decide)]; rfl
theorem md_g13 {ν : zM} {Y : Nat} {M : zMS} {R : Type} {K : Int32 → Option R} : zb1 (zm_gI (mdl ν Y M) 12 Y 13) K = K (M.1 13) := by unfold zm_gI zm_g; rw [mdl_at0]; rfl
theorem md_p13 {ν : zM} {Y : Nat} {M : zMS} {v : Int32} {R : Type} {K : zM → Option R} : zb1 (zm_p (mdl ν Y M) 12 Y 13 (.int v)) K = zb1 (some (zsI M 13 v)) (fun X => K (mdl ν Y X)) := by rw [md_pI rfl (by decide)]; rfl
theorem md_g14 {ν : zM} {Y : Nat} {M : zMS} {R : Type} {K : Int32 → Option R} : zb1 (zm_gI (mdl ν Y M) 12 Y 14) K = K (M.1 14) := by unfold zm_gI zm_g; rw [mdl_at0]; rfl
theorem md_p14 {ν : zM} {Y : Nat} {M : zMS} {v : Int32} {R : Type} {K : zM → Option R} : zb1 (zm_p (mdl ν Y M) 12 Y 14 (.int v)) K = zb1 (some (zsI M 14 v)) (fun X => K (mdl ν Y X)) := by rw [md_pI rfl (by decide)]; rfl
theorem md_g15 {ν : zM} {Y : Nat} {M : zMS} {R : Type} {K : Int64 → Option R} : zb1 (zm_gL (mdl ν Y M) 12 Y 15) K = K (M.2.1 15) := by unfold zm_gL zm_g; rw [mdl_at0]; rfl
theorem md_p15 {ν : zM} {Y : Nat} {M : zMS} {v : Int64} {R : Type} {K : zM → Option R} : zb1 (zm_p (mdl ν Y M) 12 Y 15 (.long v)) K = zb1 (some (zsL M 15 v)) (fun X => K (mdl ν Y X)) := by rw [md_pL rfl (by decide)]; rfl
theorem md_g16 {ν : zM} {Y : Nat} {M : zMS} {R : Type} {K : Int32 → Option R} : zb1 (zm_gI (mdl ν Y M) 12 Y 16) K = K (M.1 16) := by unfold zm_gI zm_g; rw [mdl_at0]; rfl
theorem md_p16 {ν : zM} {Y : Nat} {M : zMS} {v : Int32} {R : Type} {K : zM → Option R} : zb1 (zm_p (mdl ν Y M) 12 Y 16 (.int v)) K = zb1 (some (zsI M 16 v)) (fun X => K (mdl ν Y X)) := by rw [md_pI rfl (by decide)]; rfl
theorem md_g17 {ν : zM} {Y : Nat} {M : zMS} {R : Type} {K : Int32 → Option R} : zb1 (zm_gI (mdl ν Y M) 12 Y 17) K = K (M.1 17) := by unfold zm_gI zm_g; rw [mdl_at0]; rfl
theorem md_p17 {ν : zM} {Y : Nat} {M : zMS} {v : Int32} {R : Type} {K : zM → Option R} : zb1 (zm_p (mdl ν Y M) 12 Y 17 (.int v)) K = zb1 (some (zsI M 17 v)) (fun X => K (mdl ν Y X)) := by rw [md_pI rfl (by decide)]; rfl
theorem md_g18 {ν : zM} {Y : Nat} {M : zMS} {R : Type} {K : Int32 → Option R} : zb1 (zm_gI (mdl ν Y M) 12 Y 18) K = K (M.1 18) := by unfold zm_gI zm_g; rw [mdl_at0]; rfl
theorem md_p18 {ν : zM} {Y : Nat} {M : zMS} {v : Int32} {R : Type} {K : zM → Option R} : zb1 (zm_p (mdl ν Y M) 12 Y 18 (.int v)) K = zb1 (some (zsI M 18 v)) (fun X => K (mdl ν Y X)) := by rw [md_pI rfl (by decide)]; rfl
theorem md_g19 {ν : zM} {Y : Nat} {M : zMS} {R : Type} {K : Nat → Option R} : zb1 (zm_gR (mdl ν Y M) 12 Y 19) K = K (Y + 10) := by unfold zm_gR zm_g; rw [mdl_at0]; rfl
theorem md_a19 {ν : zM} {Y : Nat} {M : zMS} {i : Int32} : zm_aI (mdl ν Y M) 0 (Y + 10) i = zag 121 (M.2.2 19) i := md_aI (by decide) rfl (by decide)
theorem md_o19 {Y : Nat} {M : zMS} (g : Nat → Int32) (i : Nat) (hi : i < 28) (hne : i ≠ 10) : mdlC Y (zsA M 19 g) i = mdlC Y M i := by
  unfold mdlC
  split
  all_goals first | rfl | exact absurd rfl hne | (exfalso; omega)
theorem md_r19 {ν : zM} {Y : Nat} {M : zMS} {i v : Int32} : zm_sI (mdl ν Y M) 0 (Y + 10) i v = Option.map (fun g => mdl ν Y (zsA M 19 g)) (zas 121 (M.2.2 19) i v) := md_sI (by decide) rfl (fun _ => rfl) md_o19
theorem md_s19 {ν : zM} {Y : Nat} {M : zMS} {i v : Int32} {R : Type} {K : zM → Option R} : zb1 (zm_sI (mdl ν Y M) 0 (Y + 10) i v) K = zb1 (zas 121 (M.2.2 19) i v) (fun g => zb1 (some (zsA M 19 g)) (fun X => K (mdl ν Y X))) := by rw [md_r19]; cases zas 121 (M.2.2 19) i v <;> rfl
theorem md_g20 {ν : zM} {Y : Nat} {M : zMS} {R : Type} {K : Nat → Option R} : zb1 (zm_gR (mdl ν Y M) 12 Y 20) K = K (Y + 11) := by unfold zm_gR zm_g; rw [mdl_at0]; rfl
theorem md_a20 {ν : zM} {Y : Nat} {M : zMS} {i : Int32} : zm_aI (mdl ν Y M) 0 (Y + 11) i = zag 4 (M.2.2 20) i := md_aI (by decide) rfl (by decide)
theorem md_o20 {Y : Nat} {M : zMS} (g : Nat → Int32) (i : Nat) (hi : i < 28) (hne : i ≠ 11) : mdlC Y (zsA M 20 g) i = mdlC Y M i := by
  unfold mdlC
  split
  all_goals first | rfl | exact absurd rfl hne | (exfalso; omega)
theorem md_r20 {ν : zM} {Y : Nat} {M : zMS} {i v : Int32} : zm_sI (mdl ν Y M) 0 (Y + 11) i v = Option.map (fun g => mdl ν Y (zsA M 20 g)) (zas 4 (M.2.2 20) i v) := md_sI (by decide) rfl (fun _ => rfl) md_o20
theorem md_s20 {ν : zM} {Y : Nat} {M : zMS} {i v : Int32} {R : Type} {K : zM → Option R} : zb1 (zm_sI (mdl ν Y M) 0 (Y + 11) i v) K = zb1 (zas 4 (M.2.2 20) i v) (fun g => zb1 (some (zsA M 20 g)) (fun X => K (mdl ν Y X))) := by rw [md_r20]; cases zas 4 (M.2.2 20) i v <;> rfl
theorem md_g21 {ν : zM} {Y : Nat} {M : zMS} {R : Type} {K : Int32 → Option R} : zb1 (zm_gI (mdl ν Y M) 12 Y 21) K = K (M.1 21) := by unfold zm_gI zm_g; rw [mdl_at0]; rfl
theorem md_p21 {ν : zM} {Y : Nat} {M : zMS} {v : Int32} {R : Type} {K : zM → Option R} : zb1 (zm_p (mdl ν Y M) 12 Y 21 (.int v)) K = zb1 (some (zsI M 21 v)) (fun X => K (mdl ν Y X)) := by rw [md_pI rfl (by decide)]; rfl
theorem md_g22 {ν : zM} {Y : Nat} {M : zMS} {R : Type} {K : Int32 → Option R} : zb1 (zm_gI (mdl ν Y M) 12 Y 22) K = K (M.1 22) := by unfold zm_gI zm_g; rw [mdl_at0]; rfl
theorem md_p22 {ν : zM} {Y : Nat} {M : zMS} {v : Int32} {R : Type} {K : zM → Option R} : zb1 (zm_p (mdl ν Y M) 12 Y 22 (.int v)) K = zb1 (some (zsI M 22 v)) (fun X => K (mdl ν Y X)) := by rw [md_pI rfl (by decide)]; rfl
theorem md_g23 {ν : zM} {Y : Nat} {M : zMS} {R : Type} {K : Int32 → Option R} : zb1 (zm_gI (mdl ν Y M) 12 Y 23) K = K (M.1 23) := by unfold zm_gI zm_g; rw [mdl_at0]; rfl
theorem md_p23 {ν : zM} {Y : Nat} {M : zMS} {v : Int32} {R : Type} {K : zM → Option R} : zb1 (zm_p (mdl ν Y M) 12 Y 23 (.int v)) K = zb1 (some (zsI M 23 v)) (fun X => K (mdl ν Y X)) := by rw [md_pI rfl (by decide)]; rfl
theorem md_g24 {ν : zM} {Y : Nat} {M : zMS} {R : Type} {K : Int32 → Option R} : zb1 (zm_gI (mdl ν Y M) 12 Y 24) K = K (M.1 24) := by unfold zm_gI zm_g; rw [mdl_at0]; rfl
theorem md_p24 {ν : zM} {Y : Nat} {M : zMS} {v : Int32} {R : Type} {K : zM → Option R} : zb1 (zm_p (mdl ν Y M) 12 Y 24 (.int v)) K = zb1 (some (zsI M 24 v)) (fun X => K (mdl ν Y X)) := by rw [md_pI rfl (by decide)]; rfl
theorem md_g25 {ν : zM} {Y : Nat} {M : zMS} {R : Type} {K : Int32 → Option R} : zb1 (zm_gI (mdl ν Y M) 12 Y 25) K = K (M.1 25) := by unfold zm_gI zm_g; rw [mdl_at0]; rfl
theorem md_p25 {ν : zM} {Y : Nat} {M : zMS} {v : Int32} {R : Type} {K : zM → Option R} : zb1 (zm_p (mdl ν Y M) 12 Y 25 (.int v)) K = zb1 (some (zsI M 25 v)) (fun X => K (mdl ν Y X)) := by rw [md_pI rfl (by decide)]; rfl
theorem md_g26 {ν : zM} {Y : Nat} {M : zMS} {R : Type} {K : Int32 → Option R} : zb1 (zm_gI (mdl ν Y M) 12 Y 26) K = K (M.1 26) := by unfold zm_gI zm_g; rw [mdl_at0]; rfl
theorem md_p26 {ν : zM} {Y : Nat} {M : zMS} {v : Int32} {R : Type} {K : zM → Option R} : zb1 (zm_p (mdl ν Y M) 12 Y 26 (.int v)) K = zb1 (some (zsI M 26 v)) (fun X => K (mdl ν Y X)) := by rw [md_pI rfl (by decide)]; rfl
theorem md_g27 {ν : zM} {Y : Nat} {M : zMS} {R : Type} {K : Nat → Option R} : zb1 (zm_gR (mdl ν Y M) 12 Y 27) K = K (Y + 12) := by unfold zm_gR zm_g; rw [mdl_at0]; rfl
theorem md_a27 {ν : zM} {Y : Nat} {M : zMS} {i : Int32} : zm_aI (mdl ν Y M) 0 (Y + 12) i = zag 600 (M.2.2 27) i := md_aI (by decide) rfl (by decide)
theorem md_o27 {Y : Nat} {M : zMS} (g : Nat → Int32) (i : Nat) (hi : i < 28) (hne : i ≠ 12) : mdlC Y (zsA M 27 g) i = mdlC Y M i := by
  unfold mdlC
  split
  all_goals first | rfl | exact absurd rfl hne | (exfalso; omega)
theorem md_r27 {ν : zM} {Y : Nat} {M : zMS} {i v : Int32} : zm_sI (mdl ν Y M) 0 (Y + 12) i v = Option.map (fun g => mdl ν Y (zsA M 27 g)) (zas 600 (M.2.2 27) i v) := md_sI (by decide) rfl (fun _ => rfl) md_o27
theorem md_s27 {ν : zM} {Y : Nat} {M : zMS} {i v : Int32} {R : Type} {K : zM → Option R} : zb1 (zm_sI (mdl ν Y M) 0 (Y + 12) i v) K = zb1 (zas 600 (M.2.2 27) i v) (fun g => zb1 (some (zsA M 27 g)) (fun X => K (mdl ν Y X))) := by rw [md_r27]; cases zas 600 (M.2.2 27) i v <;> rfl
theorem md_g28 {ν : zM} {Y : Nat} {M : zMS} {R : Type} {K : Nat → Option R} : zb1 (zm_gR (mdl ν Y M) 12 Y 28) K = K (Y + 13) := by unfold zm_gR zm_g; rw [mdl_at0]; rfl
theorem md_a28 {ν : zM} {Y : Nat} {M : zMS} {i : Int32} : zm_aI (mdl ν Y M) 0 (Y + 13) i = zag 300 (M.2.2 28) i := md_aI (by decide) rfl (by decide)
theorem md_o28 {Y : Nat} {M : zMS} (g : Nat → Int32) (i : Nat) (hi : i < 28) (hne : i ≠ 13) : mdlC Y (zsA M 28 g) i = mdlC Y M i := by
  unfold mdlC
  split
  all_goals first | rfl | exact absurd rfl hne | (exfalso; omega)
theorem md_r28 {ν : zM} {Y : Nat} {M : zMS} {i v : Int32} : zm_sI (mdl ν Y M) 0 (Y + 13) i v = Option.map (fun g => mdl ν Y (zsA M 28 g)) (zas 300 (M.2.2 28) i v) := md_sI (by decide) rfl (fun _ => rfl) md_o28
theorem md_s28 {ν : zM} {Y : Nat} {M : zMS} {i v : Int32} {R : Type} {K : zM → Option R} : zb1 (zm_sI (mdl ν Y M) 0 (Y + 13) i v) K = zb1 (zas 300 (M.2.2 28) i v) (fun g => zb1 (some (zsA M 28 g)) (fun X => K (mdl ν Y X))) := by rw [md_r28]; cases zas 300 (M.2.2 28) i v <;> rfl
theorem md_g29 {ν : zM} {Y : Nat} {M : zMS} {R : Type} {K : Int32 → Option R} : zb1 (zm_gI (mdl ν Y M) 12 Y 29) K = K (M.1 29) := by unfold zm_gI zm_g; rw [mdl_at0]; rfl
theorem md_p29 {ν : zM} {Y : Nat} {M : zMS} {v : Int32} {R : Type} {K : zM → Option R} : zb1 (zm_p (mdl ν Y M) 12 Y 29 (.int v)) K = zb1 (some (zsI M 29 v)) (fun X => K (mdl ν Y X)) := by rw [md_pI rfl (by decide)]; rfl
theorem md_g30 {ν : zM} {Y : Nat} {M : zMS} {R : Type} {K : Int32 → Option R} : zb1 (zm_gI (mdl ν Y M) 12 Y 30) K = K (M.1 30) := by unfold zm_gI zm_g; rw [mdl_at0]; rfl
theorem md_p30 {ν : zM} {Y : Nat} {M : zMS} {v : Int32} {R : Type} {K : zM → Option R} : zb1 (zm_p (mdl ν Y M) 12 Y 30 (.int v)) K = zb1 (some (zsI M 30 v)) (fun X => K (mdl ν Y X)) := by rw [md_pI rfl (by decide)]; rfl
theorem md_g31 {ν : zM} {Y : Nat} {M : zMS} {R : Type} {K : Nat → Option R} : zb1 (zm_gR (mdl ν Y M) 12 Y 31) K = K (Y + 14) := by unfold zm_gR zm_g; rw [mdl_at0]; rfl
theorem md_a31 {ν : zM} {Y : Nat} {M : zMS} {i : Int32} : zm_aI (mdl ν Y M) 0 (Y + 14) i = zag 6 (M.2.2 31) i := md_aI (by decide) rfl (by decide)
theorem md_o31 {Y : Nat} {M : zMS} (g : Nat → Int32) (i : Nat) (hi : i < 28) (hne : i ≠ 14) : mdlC Y (zsA M 31 g) i = mdlC Y M i := by
  unfold mdlC
  split
  all_goals first | rfl | exact absurd rfl hne | (exfalso; omega)
theorem md_r31 {ν : zM} {Y : Nat} {M : zMS} {i v : Int32} : zm_sI (mdl ν Y M) 0 (Y + 14) i v = Option.map (fun g => mdl ν Y (zsA M 31 g)) (zas 6 (M.2.2 31) i v) := md_sI (by decide) rfl (fun _ => rfl) md_o31
theorem md_s31 {ν : zM} {Y : Nat} {M : zMS} {i v : Int32} {R : Type} {K : zM → Option R} : zb1 (zm_sI (mdl ν Y M) 0 (Y + 14) i v) K = zb1 (zas 6 (M.2.2 31) i v) (fun g => zb1 (some (zsA M 31 g)) (fun X => K (mdl ν Y X))) := by rw [md_r31]; cases zas 6 (M.2.2 31) i v <;> rfl
theorem md_g32 {ν : zM} {Y : Nat} {M : zMS} {R : Type} {K : Nat → Option R} : zb1 (zm_gR (mdl ν Y M) 12 Y 32) K = K (Y + 15) := by unfold zm_gR zm_g; rw [mdl_at0]; rfl
theorem md_a32 {ν : zM} {Y : Nat} {M : zMS} {i : Int32} : zm_aI (mdl ν Y M) 0 (Y + 15) i = zag 6 (M.2.2 32) i := md_aI (by decide) rfl (by decide)
theorem md_o32 {Y : Nat} {M : zMS} (g : Nat → Int32) (i : Nat) (hi : i < 28) (hne : i ≠ 15) : mdlC Y (zsA M 32 g) i = mdlC Y M i := by
  unfold mdlC
  split
  all_goals first | rfl | exact absurd rfl hne | (exfalso; omega)
theorem md_r32 {ν : zM} {Y : Nat} {M : zMS} {i v : Int32} : zm_sI (mdl ν Y M) 0 (Y + 15) i v = Option.map (fun g => mdl ν Y (zsA M 32 g)) (zas 6 (M.2.2 32) i v) := md_sI (by decide) rfl (fun _ => rfl) md_o32
theorem md_s32 {ν : zM} {Y : Nat} {M : zMS} {i v : Int32} {R : Type} {K : zM → Option R} : zb1 (zm_sI (mdl ν Y M) 0 (Y + 15) i v) K = zb1 (zas 6 (M.2.2 32) i v) (fun g => zb1 (some (zsA M 32 g)) (fun X => K (mdl ν Y X))) := by rw [md_r32]; cases zas 6 (M.2.2 32) i v <;> rfl
theorem md_g33 {ν : zM} {Y : Nat} {M : zMS} {R : Type} {K : Nat → Option R} : zb1 (zm_gR (mdl ν Y M) 12 Y 33) K = K (Y + 16) := by unfold zm_gR zm_g; rw [mdl_at0]; rfl
theorem md_a33 {ν : zM} {Y : Nat} {M : zMS} {i : Int32} : zm_aI (mdl ν Y M) 0 (Y + 16) i = zag 6 (M.2.2 33) i := md_aI (by decide) rfl (by decide)
theorem md_o33 {Y : Nat} {M : zMS} (g : Nat → Int32) (i : Nat) (hi : i < 28) (hne : i ≠ 16) : mdlC Y (zsA M 33 g) i = mdlC Y M i := by
  unfold mdlC
  split
  all_goals first | rfl | exact absurd rfl hne | (exfalso; omega)
theorem md_r33 {ν : zM} {Y : Nat} {M : zMS} {i v : Int32} : zm_sI (mdl ν Y M) 0 (Y + 16) i v = Option.map (fun g => mdl ν Y (zsA M 33 g)) (zas 6 (M.2.2 33) i v) := md_sI (by decide) rfl (fun _ => rfl) md_o33
theorem md_s33 {ν : zM} {Y : Nat} {M : zMS} {i v : Int32} {R : Type} {K : zM → Option R} : zb1 (zm_sI (mdl ν Y M) 0 (Y + 16) i v) K = zb1 (zas 6 (M.2.2 33) i v) (fun g => zb1 (some (zsA M 33 g)) (fun X => K (mdl ν Y X))) := by rw [md_r33]; cases zas 6 (M.2.2 33) i v <;> rfl
theorem md_g34 {ν : zM} {Y : Nat} {M : zMS} {R : Type} {K : Int32 → Option R} : zb1 (zm_gI (mdl ν Y M) 12 Y 34) K = K (M.1 34) := by unfold zm_gI zm_g; rw [mdl_at0]; rfl
theorem md_p34 {ν : zM} {Y : Nat} {M : zMS} {v : Int32} {R : Type} {K : zM → Option R} : zb1 (zm_p (mdl ν Y M) 12 Y 34 (.int v)) K = zb1 (some (zsI M 34 v)) (fun X => K (mdl ν Y X)) := by rw [md_pI rfl (by decide)]; rfl
theorem md_g35 {ν : zM} {Y : Nat} {M : zMS} {R : Type} {K : Int32 → Option R} : zb1 (zm_gI (mdl ν Y M) 12 Y 35) K = K (M.1 35) := by unfold zm_gI zm_g; rw [mdl_at0]; rfl
theorem md_p35 {ν : zM} {Y : Nat} {M : zMS} {v : Int32} {R : Type} {K : zM → Option R} : zb1 (zm_p (mdl ν Y M) 12 Y 35 (.int v)) K = zb1 (some (zsI M 35 v)) (fun X => K (mdl ν Y X)) := by rw [md_pI rfl (by decide)]; rfl
theorem md_g36 {ν : zM} {Y : Nat} {M : zMS} {R : Type} {K : Int32 → Option R} : zb1 (zm_gI (mdl ν Y M) 12 Y 36) K = K (M.1 36) := by unfold zm_gI zm_g; rw [mdl_at0]; rfl
theorem md_p36 {ν : zM} {Y : Nat} {M : zMS} {v : Int32} {R : Type} {K : zM → Option R} : zb1 (zm_p (mdl ν Y M) 12 Y 36 (.int v)) K = zb1 (some (zsI M 36 v)) (fun X => K (mdl ν Y X)) := by rw [md_pI rfl (by decide)]; rfl
theorem md_g37 {ν : zM} {Y : Nat} {M : zMS} {R : Type} {K : Nat → Option R} : zb1 (zm_gR (mdl ν Y M) 12 Y 37) K = K (Y + 17) := by unfold zm_gR zm_g; rw [mdl_at0]; rfl
theorem md_a37 {ν : zM} {Y : Nat} {M : zMS} {i : Int32} : zm_aI (mdl ν Y M) 0 (Y + 17) i = zag 6 (M.2.2 37) i := md_aI (by decide) rfl (by decide)
theorem md_o37 {Y : Nat} {M : zMS} (g : Nat → Int32) (i : Nat) (hi : i < 28) (hne : i ≠ 17) : mdlC Y (zsA M 37 g) i = mdlC Y M i := by
  unfold mdlC
  split
  all_goals first | rfl | exact absurd rfl hne | (exfalso; omega)
theorem md_r37 {ν : zM} {Y : Nat} {M : zMS} {i v : Int32} : zm_sI (mdl ν Y M) 0 (Y + 17) i v = Option.map (fun g => mdl ν Y (zsA M 37 g)) (zas 6 (M.2.2 37) i v) := md_sI (by decide) rfl (fun _ => rfl) md_o37
theorem md_s37 {ν : zM} {Y : Nat} {M : zMS} {i v : Int32} {R : Type} {K : zM → Option R} : zb1 (zm_sI (mdl ν Y M) 0 (Y + 17) i v) K = zb1 (zas 6 (M.2.2 37) i v) (fun g => zb1 (some (zsA M 37 g)) (fun X => K (mdl ν Y X))) := by rw [md_r37]; cases zas 6 (M.2.2 37) i v <;> rfl
theorem md_g38 {ν : zM} {Y : Nat} {M : zMS} {R : Type} {K : Nat → Option R} : zb1 (zm_gR (mdl ν Y M) 12 Y 38) K = K (Y + 18) := by unfold zm_gR zm_g; rw [mdl_at0]; rfl
theorem md_a38 {ν : zM} {Y : Nat} {M : zMS} {i : Int32} : zm_aI (mdl ν Y M) 0 (Y + 18) i = zag 6 (M.2.2 38) i := md_aI (by decide) rfl (by decide)
theorem md_o38 {Y : Nat} {M : zMS} (g : Nat → Int32) (i : Nat) (hi : i < 28) (hne : i ≠ 18) : mdlC Y (zsA M 38 g) i = mdlC Y M i := by
  unfold mdlC
  split
  all_goals first | rfl | exact absurd rfl hne | (exfalso; omega)
theorem md_r38 {ν : zM} {Y : Nat} {M : zMS} {i v : Int32} : zm_sI (mdl ν Y M) 0 (Y + 18) i v = Option.map (fun g => mdl ν Y (zsA M 38 g)) (zas 6 (M.2.2 38) i v) := md_sI (by decide) rfl (fun _ => rfl) md_o38
theorem md_s38 {ν : zM} {Y : Nat} {M : zMS} {i v : Int32} {R : Type} {K : zM → Option R} : zb1 (zm_sI (mdl ν Y M) 0 (Y + 18) i v) K = zb1 (zas 6 (M.2.2 38) i v) (fun g => zb1 (some (zsA M 38 g)) (fun X => K (mdl ν Y X))) := by rw [md_r38]; cases zas 6 (M.2.2 38) i v <;> rfl
theorem md_g39 {ν : zM} {Y : Nat} {M : zMS} {R : Type} {K : Int32 → Option R} : zb1 (zm_gI (mdl ν Y M) 12 Y 39) K = K (M.1 39) := by unfold zm_gI zm_g; rw [mdl_at0]; rfl
theorem md_p39 {ν : zM} {Y : Nat} {M : zMS} {v : Int32} {R : Type} {K : zM → Option R} : zb1 (zm_p (mdl ν Y M) 12 Y 39 (.int v)) K = zb1 (some (zsI M 39 v)) (fun X => K (mdl ν Y X)) := by rw [md_pI rfl (by decide)]; rfl
theorem md_g40 {ν : zM} {Y : Nat} {M : zMS} {R : Type} {K : Int32 → Option R} : zb1 (zm_gI (mdl ν Y M) 12 Y 40) K = K (M.1 40) := by unfold zm_gI zm_g; rw [mdl_at0]; rfl
theorem md_p40 {ν : zM} {Y : Nat} {M : zMS} {v : Int32} {R : Type} {K : zM → Option R} : zb1 (zm_p (mdl ν Y M) 12 Y 40 (.int v)) K = zb1 (some (zsI M 40 v)) (fun X => K (mdl ν Y X)) := by rw [md_pI rfl (by decide)]; rfl
theorem md_g41 {ν : zM} {Y : Nat} {M : zMS} {R : Type} {K : Nat → Option R} : zb1 (zm_gR (mdl ν Y M) 12 Y 41) K = K (Y + 19) := by unfold zm_gR zm_g; rw [mdl_at0]; rfl
theorem md_a41 {ν : zM} {Y : Nat} {M : zMS} {i : Int32} : zm_aI (mdl ν Y M) 0 (Y + 19) i = zag 100 (M.2.2 41) i := md_aI (by decide) rfl (by decide)
theorem md_o41 {Y : Nat} {M : zMS} (g : Nat → Int32) (i : Nat) (hi : i < 28) (hne : i ≠ 19) : mdlC Y (zsA M 41 g) i = mdlC Y M i := by
  unfold mdlC
  split
  all_goals first | rfl | exact absurd rfl hne | (exfalso; omega)
theorem md_r41 {ν : zM} {Y : Nat} {M : zMS} {i v : Int32} : zm_sI (mdl ν Y M) 0 (Y + 19) i v = Option.map (fun g => mdl ν Y (zsA M 41 g)) (zas 100 (M.2.2 41) i v) := md_sI (by decide) rfl (fun _ => rfl) md_o41
theorem md_s41 {ν : zM} {Y : Nat} {M : zMS} {i v : Int32} {R : Type} {K : zM → Option R} : zb1 (zm_sI (mdl ν Y M) 0 (Y + 19) i v) K = zb1 (zas 100 (M.2.2 41) i v) (fun g => zb1 (some (zsA M 41 g)) (fun X => K (mdl ν Y X))) := by rw [md_r41]; cases zas 100 (M.2.2 41) i v <;> rfl
theorem md_g42 {ν : zM} {Y : Nat} {M : zMS} {R : Type} {K : Nat → Option R} : zb1 (zm_gR (mdl ν Y M) 12 Y 42) K = K (Y + 20) := by unfold zm_gR zm_g; rw [mdl_at0]; rfl
theorem md_a42 {ν : zM} {Y : Nat} {M : zMS} {i : Int32} : zm_aI (mdl ν Y M) 0 (Y + 20) i = zag 100 (M.2.2 42) i := md_aI (by decide) rfl (by decide)
theorem md_o42 {Y : Nat} {M : zMS} (g : Nat → Int32) (i : Nat) (hi : i < 28) (hne : i ≠ 20) : mdlC Y (zsA M 42 g) i = mdlC Y M i := by
  unfold mdlC
  split
  all_goals first | rfl | exact absurd rfl hne | (exfalso; omega)
theorem md_r42 {ν : zM} {Y : Nat} {M : zMS} {i v : Int32} : zm_sI (mdl ν Y M) 0 (Y + 20) i v = Option.map (fun g => mdl ν Y (zsA M 42 g)) (zas 100 (M.2.2 42) i v) := md_sI (by decide) rfl (fun _ => rfl) md_o42
theorem md_s42 {ν : zM} {Y : Nat} {M : zMS} {i v : Int32} {R : Type} {K : zM → Option R} : zb1 (zm_sI (mdl ν Y M) 0 (Y + 20) i v) K = zb1 (zas 100 (M.2.2 42) i v) (fun g => zb1 (some (zsA M 42 g)) (fun X => K (mdl ν Y X))) := by rw [md_r42]; cases zas 100 (M.2.2 42) i v <;> rfl
theorem md_g43 {ν : zM} {Y : Nat} {M : zMS} {R : Type} {K : Nat → Option R} : zb1 (zm_gR (mdl ν Y M) 12 Y 43) K = K (Y + 21) := by unfold zm_gR zm_g; rw [mdl_at0]; rfl
theorem md_a43 {ν : zM} {Y : Nat} {M : zMS} {i : Int32} : zm_aI (mdl ν Y M) 0 (Y + 21) i = zag 1161 (M.2.2 43) i := md_aI (by decide) rfl (by decide)
theorem md_o43 {Y : Nat} {M : zMS} (g : Nat → Int32) (i : Nat) (hi : i < 28) (hne : i ≠ 21) : mdlC Y (zsA M 43 g) i = mdlC Y M i := by
  unfold mdlC
  split
  all_goals first | rfl | exact absurd rfl hne | (exfalso; omega)
theorem md_r43 {ν : zM} {Y : Nat} {M : zMS} {i v : Int32} : zm_sI (mdl ν Y M) 0 (Y + 21) i v = Option.map (fun g => mdl ν Y (zsA M 43 g)) (zas 1161 (M.2.2 43) i v) := md_sI (by decide) rfl (fun _ => rfl) md_o43
theorem md_s43 {ν : zM} {Y : Nat} {M : zMS} {i v : Int32} {R : Type} {K : zM → Option R} : zb1 (zm_sI (mdl ν Y M) 0 (Y + 21) i v) K = zb1 (zas 1161 (M.2.2 43) i v) (fun g => zb1 (some (zsA M 43 g)) (fun X => K (mdl ν Y X))) := by rw [md_r43]; cases zas 1161 (M.2.2 43) i v <;> rfl
theorem md_g44 {ν : zM} {Y : Nat} {M : zMS} {R : Type} {K : Int32 → Option R} : zb1 (zm_gI (mdl ν Y M) 12 Y 44) K = K (M.1 44) := by unfold zm_gI zm_g; rw [mdl_at0]; rfl
theorem md_p44 {ν : zM} {Y : Nat} {M : zMS} {v : Int32} {R : Type} {K : zM → Option R} : zb1 (zm_p (mdl ν Y M) 12 Y 44 (.int v)) K = zb1 (some (zsI M 44 v)) (fun X => K (mdl ν Y X)) := by rw [md_pI rfl (by decide)]; rfl
theorem md_g45 {ν : zM} {Y : Nat} {M : zMS} {R : Type} {K : Nat → Option R} : zb1 (zm_gR (mdl ν Y M) 12 Y 45) K = K (Y + 22) := by unfold zm_gR zm_g; rw [mdl_at0]; rfl
theorem md_a45 {ν : zM} {Y : Nat} {M : zMS} {i : Int32} : zm_aI (mdl ν Y M) 0 (Y + 22) i = zag 8 (M.2.2 45) i := md_aI (by decide) rfl (by decide)
theorem md_o45 {Y : Nat} {M : zMS} (g : Nat → Int32) (i : Nat) (hi : i < 28) (hne : i ≠ 22) : mdlC Y (zsA M 45 g) i = mdlC Y M i := by
  unfold mdlC
  split
  all_goals first | rfl | exact absurd rfl hne | (exfalso; omega)
theorem md_r45 {ν : zM} {Y : Nat} {M : zMS} {i v : Int32} : zm_sI (mdl ν Y M) 0 (Y + 22) i v = Option.map (fun g => mdl ν Y (zsA M 45 g)) (zas 8 (M.2.2 45) i v) := md_sI (by decide) rfl (fun _ => rfl) md_o45
theorem md_s45 {ν : zM} {Y : Nat} {M : zMS} {i v : Int32} {R : Type} {K : zM → Option R} : zb1 (zm_sI (mdl ν Y M) 0 (Y + 22) i v) K = zb1 (zas 8 (M.2.2 45) i v) (fun g => zb1 (some (zsA M 45 g)) (fun X => K (mdl ν Y X))) := by rw [md_r45]; cases zas 8 (M.2.2 45) i v <;> rfl
theorem md_g46 {ν : zM} {Y : Nat} {M : zMS} {R : Type} {K : Int32 → Option R} : zb1 (zm_gI (mdl ν Y M) 12 Y 46) K = K (M.1 46) := by unfold zm_gI zm_g; rw [mdl_at0]; rfl
theorem md_p46 {ν : zM} {Y : Nat} {M : zMS} {v : Int32} {R : Type} {K : zM → Option R} : zb1 (zm_p (mdl ν Y M) 12 Y 46 (.int v)) K = zb1 (some (zsI M 46 v)) (fun X => K (mdl ν Y X)) := by rw [md_pI rfl (by decide)]; rfl
theorem md_g47 {ν : zM} {Y : Nat} {M : zMS} {R : Type} {K : Nat → Option R} : zb1 (zm_gR (mdl ν Y M) 12 Y 47) K = K (Y + 23) := by unfold zm_gR zm_g; rw [mdl_at0]; rfl
theorem md_a47 {ν : zM} {Y : Nat} {M : zMS} {i : Int32} : zm_aI (mdl ν Y M) 0 (Y + 23) i = zag 3100 (M.2.2 47) i := md_aI (by decide) rfl (by decide)
theorem md_o47 {Y : Nat} {M : zMS} (g : Nat → Int32) (i : Nat) (hi : i < 28) (hne : i ≠ 23) : mdlC Y (zsA M 47 g) i = mdlC Y M i := by
  unfold mdlC
  split
  all_goals first | rfl | exact absurd rfl hne | (exfalso; omega)
theorem md_r47 {ν : zM} {Y : Nat} {M : zMS} {i v : Int32} : zm_sI (mdl ν Y M) 0 (Y + 23) i v = Option.map (fun g => mdl ν Y (zsA M 47 g)) (zas 3100 (M.2.2 47) i v) := md_sI (by decide) rfl (fun _ => rfl) md_o47
theorem md_s47 {ν : zM} {Y : Nat} {M : zMS} {i v : Int32} {R : Type} {K : zM → Option R} : zb1 (zm_sI (mdl ν Y M) 0 (Y + 23) i v) K = zb1 (zas 3100 (M.2.2 47) i v) (fun g => zb1 (some (zsA M 47 g)) (fun X => K (mdl ν Y X))) := by rw [md_r47]; cases zas 3100 (M.2.2 47) i v <;> rfl
theorem md_g48 {ν : zM} {Y : Nat} {M : zMS} {R : Type} {K : Int32 → Option R} : zb1 (zm_gI (mdl ν Y M) 12 Y 48) K = K (M.1 48) := by unfold zm_gI zm_g; rw [mdl_at0]; rfl
theorem md_p48 {ν : zM} {Y : Nat} {M : zMS} {v : Int32} {R : Type} {K : zM → Option R} : zb1 (zm_p (mdl ν Y M) 12 Y 48 (.int v)) K = zb1 (some (zsI M 48 v)) (fun X => K (mdl ν Y X)) := by rw [md_pI rfl (by decide)]; rfl
theorem md_g49 {ν : zM} {Y : Nat} {M : zMS} {R : Type} {K : Int32 → Option R} : zb1 (zm_gI (mdl ν Y M) 12 Y 49) K = K (M.1 49) := by unfold zm_gI zm_g; rw [mdl_at0]; rfl
theorem md_p49 {ν : zM} {Y : Nat} {M : zMS} {v : Int32} {R : Type} {K : zM → Option R} : zb1 (zm_p (mdl ν Y M) 12 Y 49 (.int v)) K = zb1 (some (zsI M 49 v)) (fun X => K (mdl ν Y X)) := by rw [md_pI rfl (by decide)]; rfl
theorem md_g50 {ν : zM} {Y : Nat} {M : zMS} {R : Type} {K : Nat → Option R} : zb1 (zm_gR (mdl ν Y M) 12 Y 50) K = K (Y + 24) := by unfold zm_gR zm_g; rw [mdl_at0]; rfl
theorem md_a50 {ν : zM} {Y : Nat} {M : zMS} {i : Int32} : zm_aI (mdl ν Y M) 0 (Y + 24) i = zag 6 (M.2.2 50) i := md_aI (by decide) rfl (by decide)
theorem md_o50 {Y : Nat} {M : zMS} (g : Nat → Int32) (i : Nat) (hi : i < 28) (hne : i ≠ 24) : mdlC Y (zsA M 50 g) i = mdlC Y M i := by
  unfold mdlC
  split
  all_goals first | rfl | exact absurd rfl hne | (exfalso; omega)
theorem md_r50 {ν : zM} {Y : Nat} {M : zMS} {i v : Int32} : zm_sI (mdl ν Y M) 0 (Y + 24) i v = Option.map (fun g => mdl ν Y (zsA M 50 g)) (zas 6 (M.2.2 50) i v) := md_sI (by decide) rfl (fun _ => rfl) md_o50
theorem md_s50 {ν : zM} {Y : Nat} {M : zMS} {i v : Int32} {R : Type} {K : zM → Option R} : zb1 (zm_sI (mdl ν Y M) 0 (Y + 24) i v) K = zb1 (zas 6 (M.2.2 50) i v) (fun g => zb1 (some (zsA M 50 g)) (fun X => K (mdl ν Y X))) := by rw [md_r50]; cases zas 6 (M.2.2 50) i v <;> rfl
theorem md_g51 {ν : zM} {Y : Nat} {M : zMS} {R : Type} {K : Nat → Option R} : zb1 (zm_gR (mdl ν Y M) 12 Y 51) K = K (Y + 25) := by unfold zm_gR zm_g; rw [mdl_at0]; rfl
theorem md_a51 {ν : zM} {Y : Nat} {M : zMS} {i : Int32} : zm_aI (mdl ν Y M) 0 (Y + 25) i = zag 6 (M.2.2 51) i := md_aI (by decide) rfl (by decide)
theorem md_o51 {Y : Nat} {M : zMS} (g : Nat → Int32) (i : Nat) (hi : i < 28) (hne : i ≠ 25) : mdlC Y (zsA M 51 g) i = mdlC Y M i := by
  unfold mdlC
  split
  all_goals first | rfl | exact absurd rfl hne | (exfalso; omega)
theorem md_r51 {ν : zM} {Y : Nat} {M : zMS} {i v : Int32} : zm_sI (mdl ν Y M) 0 (Y + 25) i v = Option.map (fun g => mdl ν Y (zsA M 51 g)) (zas 6 (M.2.2 51) i v) := md_sI (by decide) rfl (fun _ => rfl) md_o51
theorem md_s51 {ν : zM} {Y : Nat} {M : zMS} {i v : Int32} {R : Type} {K : zM → Option R} : zb1 (zm_sI (mdl ν Y M) 0 (Y + 25) i v) K = zb1 (zas 6 (M.2.2 51) i v) (fun g => zb1 (some (zsA M 51 g)) (fun X => K (mdl ν Y X))) := by rw [md_r51]; cases zas 6 (M.2.2 51) i v <;> rfl
theorem md_g52 {ν : zM} {Y : Nat} {M : zMS} {R : Type} {K : Nat → Option R} : zb1 (zm_gR (mdl ν Y M) 12 Y 52) K = K (Y + 26) := by unfold zm_gR zm_g; rw [mdl_at0]; rfl
theorem md_a52 {ν : zM} {Y : Nat} {M : zMS} {i : Int32} : zm_aI (mdl ν Y M) 0 (Y + 26) i = zag 6 (M.2.2 52) i := md_aI (by decide) rfl (by decide)
theorem md_o52 {Y : Nat} {M : zMS} (g : Nat → Int32) (i : Nat) (hi : i < 28) (hne : i ≠ 26) : mdlC Y (zsA M 52 g) i = mdlC Y M i := by
  unfold mdlC
  split
  all_goals first | rfl | exact absurd rfl hne | (exfalso; omega)
theorem md_r52 {ν : zM} {Y : Nat} {M : zMS} {i v : Int32} : zm_sI (mdl ν Y M) 0 (Y + 26) i v = Option.map (fun g => mdl ν Y (zsA M 52 g)) (zas 6 (M.2.2 52) i v) := md_sI (by decide) rfl (fun _ => rfl) md_o52
theorem md_s52 {ν : zM} {Y : Nat} {M : zMS} {i v : Int32} {R : Type} {K : zM → Option R} : zb1 (zm_sI (mdl ν Y M) 0 (Y + 26) i v) K = zb1 (zas 6 (M.2.2 52) i v) (fun g => zb1 (some (zsA M 52 g)) (fun X => K (mdl ν Y X))) := by rw [md_r52]; cases zas 6 (M.2.2 52) i v <;> rfl
theorem md_g53 {ν : zM} {Y : Nat} {M : zMS} {R : Type} {K : Nat → Option R} : zb1 (zm_gR (mdl ν Y M) 12 Y 53) K = K (Y + 27) := by unfold zm_gR zm_g; rw [mdl_at0]; rfl
theorem md_a53 {ν : zM} {Y : Nat} {M : zMS} {i : Int32} : zm_aI (mdl ν Y M) 2 (Y + 27) i = zag 3 (M.2.2 53) i := md_aI (by decide) rfl (by decide)
theorem md_o53 {Y : Nat} {M : zMS} (g : Nat → Int32) (i : Nat) (hi : i < 28) (hne : i ≠ 27) : mdlC Y (zsA M 53 g) i = mdlC Y M i := by
  unfold mdlC
  split
  all_goals first | rfl | exact absurd rfl hne | (exfalso; omega)
theorem md_r53 {ν : zM} {Y : Nat} {M : zMS} {i v : Int32} : zm_sI (mdl ν Y M) 2 (Y + 27) i v = Option.map (fun g => mdl ν Y (zsA M 53 g)) (zas 3 (M.2.2 53) i v) := md_sI (by decide) rfl (fun _ => rfl) md_o53
theorem md_s53 {ν : zM} {Y : Nat} {M : zMS} {i v : Int32} {R : Type} {K : zM → Option R} : zb1 (zm_sI (mdl ν Y M) 2 (Y + 27) i v) K = zb1 (zas 3 (M.2.2 53) i v) (fun g => zb1 (some (zsA M 53 g)) (fun X => K (mdl ν Y X))) := by rw [md_r53]; cases zas 3 (M.2.2 53) i v <;> rfl
theorem mia_c {k : Nat} (h : mia k = true) : k = 2 ∨ k = 3 ∨ k = 4 ∨ k = 5 ∨ k = 6 ∨ k = 7 ∨ k = 8 ∨ k = 9 ∨ k = 19 ∨ k = 20 ∨ k = 27 ∨ k = 28 ∨ k = 31 ∨ k = 32 ∨ k = 33 ∨ k = 37 ∨ k = 38 ∨ k = 41 ∨ k = 42 ∨ k = 43 ∨ k = 45 ∨ k = 47 ∨ k = 50 ∨ k = 51 ∨ k = 52 := by
  unfold mia at h
  simpa using h
theorem md_aG {ν : zM} {Y : Nat} {M : zMS} {k : Nat} {i : Int32} (hk : mia k = true) : zm_aI (mdl ν Y M) 0 (Y + mof k) i = zag (mln k) (M.2.2 k) i := by
  rcases mia_c hk with rfl | rfl | rfl | rfl | rfl | rfl | rfl | rfl | rfl | rfl | rfl | rfl | rfl | rfl | rfl | rfl | rfl | rfl | rfl | rfl | rfl | rfl | rfl | rfl | rfl
  · exact md_a2
  · exact md_a3
  · exact md_a4
  · exact md_a5
  · exact md_a6
  · exact md_a7
  · exact md_a8
  · exact md_a9
  · exact md_a19
  · exact md_a20
  · exact md_a27
  · exact md_a28
  · exact md_a31
  · exact md_a32
  · exact md_a33
  · exact md_a37
  · exact md_a38
  · exact md_a41
  · exact md_a42
  · exact md_a43
  · exact md_a45
  · exact md_a47
  · exact md_a50
  · exact md_a51
  · exact md_a52
theorem md_sG {ν : zM} {Y : Nat} {M : zMS} {k : Nat} {i v : Int32} {R : Type} {K : zM → Option R} (hk : mia k = true) : zb1 (zm_sI (mdl ν Y M) 0 (Y + mof k) i v) K = zb1 (zas (mln k) (M.2.2 k) i v) (fun g => zb1 (some (zsA M k g)) (fun X => K (mdl ν Y X))) := by
  rcases mia_c hk with rfl | rfl | rfl | rfl | rfl | rfl | rfl | rfl | rfl | rfl | rfl | rfl | rfl | rfl | rfl | rfl | rfl | rfl | rfl | rfl | rfl | rfl | rfl | rfl | rfl
  · exact md_s2
  · exact md_s3
  · exact md_s4
  · exact md_s5
  · exact md_s6
  · exact md_s7
  · exact md_s8
  · exact md_s9
  · exact md_s19
  · exact md_s20
  · exact md_s27
  · exact md_s28
  · exact md_s31
  · exact md_s32
  · exact md_s33
  · exact md_s37
  · exact md_s38
  · exact md_s41
  · exact md_s42
  · exact md_s43
  · exact md_s45
  · exact md_s47
  · exact md_s50
  · exact md_s51
  · exact md_s52
