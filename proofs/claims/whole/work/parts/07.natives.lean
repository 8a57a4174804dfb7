/-! static rows of a nest mate; arraycopy; an array's clone -/
def zm_cpy (μ : zM) (t a0 : Nat) (sp : Int32) (a1 : Nat) (dp n : Int32) : Option zM := match μ.1 a0, μ.1 a1 with
  | some (.inl (u0, n0, .inl f)), some (.inl (u1, n1, .inl g)) => if u0 = t ∧ u1 = t ∧ ¬ sp < 0 ∧ ¬ dp < 0 ∧ ¬ n < 0 ∧ sp.toNatClampNeg + n.toNatClampNeg ≤ n0 ∧ dp.toNatClampNeg + n.toNatClampNeg ≤ n1 ∧ (List.range n.toNatClampNeg).all (fun i => fits (zty t) (.int (f (sp.toNatClampNeg + i)))) = true then some (zm_up μ a1 (.inl (t, n1, .inl (va_cpy f g sp.toNatClampNeg dp.toNatClampNeg n.toNatClampNeg)))) else none
  | _, _ => none
theorem zm_cpy_some {μ μ1 : zM} {t a0 a1 : Nat} {sp dp n : Int32} (h : zm_cpy μ t a0 sp a1 dp n = some μ1) : ∃ n0 f n1 g, μ.1 a0 = some (.inl (t, n0, .inl f)) ∧ μ.1 a1 = some (.inl (t, n1, .inl g)) ∧ ¬ sp < 0 ∧ ¬ dp < 0 ∧ ¬ n < 0 ∧ sp.toNatClampNeg + n.toNatClampNeg ≤ n0 ∧ dp.toNatClampNeg + n.toNatClampNeg ≤ n1 ∧ (∀ i, i < n.toNatClampNeg → fits (zty t) (.int (f (sp.toNatClampNeg + i))) = true) ∧ μ1 = zm_up μ a1 (.inl (t, n1, .inl (va_cpy f g sp.toNatClampNeg dp.toNatClampNeg n.toNatClampNeg))) := by
  unfold zm_cpy at h
  split at h
  · next u0 n0 f u1 n1 g e0 e1 =>
    split at h
    · next hc =>
      obtain ⟨rfl, rfl, h1, h2, h3, h4, h5, h6⟩ := hc
      cases h
      exact ⟨n0, f, n1, g, e0, e1, h1, h2, h3, h4, h5, fun i hi => List.all_eq_true.mp h6 i (List.mem_range.mpr hi), rfl⟩
    · cases h
  · cases h
def zm_cl (μ : zM) (a N : Nat) : Option zM := match μ.1 a with
  | some (.inl (t, n, .inl f)) => if t = 0 ∧ n = N then some (zm_nw μ (.inl (0, N, .inl f))) else none
  | _ => none
theorem zm_cl_some {μ μ1 : zM} {a N : Nat} (h : zm_cl μ a N = some μ1) : ∃ f, μ.1 a = some (.inl (0, N, .inl f)) ∧ μ1 = zm_nw μ (.inl (0, N, .inl f)) := by
  unfold zm_cl at h
  split at h
  · next t n f e =>
    split at h
    · next hc => obtain ⟨rfl, rfl⟩ := hc; cases h; exact ⟨f, e, rfl⟩
    · cases h
  · cases h
section
variable {K : zKT} {cc : ByteArray} {F : zFT} {kc ks pc ix : Nat} {lv : List (Nat × Value)} {st : List Value} {μ μ1 : zM}
theorem zr_getsN {k : Nat} {host : String} (hk : k < 5) (hl : Cond.fieldLinkNest F.2.1 ix (zsn k).1 (zsn k).2 "[I" host ∈ zn) (dg : decode cc pc = .ok (.getstatic ix, 3)) (kk : zz K cc F kc ks (pc + 3) lv (.ref (μ.2.2 k) :: st) μ) : zz K cc F kc ks pc lv st μ := by
  obtain ⟨p, l, e, s, m, args, below, meth, c, G⟩ := K
  obtain ⟨nL, own, rt, d0, mc, ms, rv, μ'⟩ := F
  intro C H locs ls hR hS hlv
  obtain ⟨hx, hb, hml, hown, hts, hr, hlk, hK⟩ := id C
  rw [show μ.2.2 k = G.2.2.2 k from by rw [hR.2.2.2.1]] at kk
  obtain ⟨cf, kf, fi, f, a, cell, h1, h2, h3, h4, h5, h6, h7, h8⟩ := hR.2.2.2.2.1 k hk
  exact va_WgetsN hx hb hown (va_Nw.use (A := args) rfl (hK.2.2.2.1 _ hl)) h1 h2 h3 h4 h5 (fun e => by rw [e] at h6; cases h6) h7 rfl dg (kk C H locs ls hR hS hlv)
theorem zr_cpy {t a0 a1 : Nat} {sp dp n : Int32} (hv : zm_cpy μ t a0 sp a1 dp n = some μ1) (ht : t < 3) (hl : Cond.methodLink F.2.1 ix arraycopyName ∈ zt) (h2 : Cond.native arraycopyName ∈ zt) (h3 : Cond.static arraycopyName ∈ zt) (h4 : Cond.initialized "java/lang/System" ∈ zt) (hd : 1 ≤ F.2.2.2.1) (hst : (st.map fun v => v.category).sum ≤ 8) (dg : decode cc pc = .ok (.invokestatic ix, 3)) (kk : zz K cc F kc ks (pc + 3) lv st μ1) : zz K cc F kc ks pc lv (.int n :: .int dp :: .ref a1 :: .int sp :: .ref a0 :: st) μ := by
  obtain ⟨p, l, e, s, m, args, below, meth, c, G⟩ := K
  obtain ⟨nL, own, rt, d0, mc, ms, rv, μ'⟩ := F
  intro C H locs ls hR hS hlv
  obtain ⟨hx, hb, hml, hown, hts, hr, hlk, hK⟩ := id C
  obtain ⟨n0, f, n1, g, e0, e1, g1, g2, g3, g4, g5, hfit, rfl⟩ := zm_cpy_some hv
  have hrw0 : ∀ x : vp_A, zrw (.inl (t, x)) = true := fun x => by simp [zrw]; omega
  have hbase : G.2.2.1 ≤ a1 := ((hR.2.2.1 a1 _ e1).1 (hrw0 _)).2
  have nn : ∀ z : Int32, ¬ z < 0 → z.toInt = (z.toNatClampNeg : Int) := by
    intro z hz
    have hz0 : (0 : Int) ≤ z.toInt := by
      have := Int32.not_lt.mp hz
      simpa using Int32.le_iff_toInt_le.mp this
    show z.toInt = ((z.toInt.toNat : Nat) : Int)
    omega
  have hprim : refKind (zty t) = false := by
    rcases (show t = 0 ∨ t = 1 ∨ t = 2 by omega) with rfl | rfl | rfl <;> rfl
  have hnw : nativeFrameWords "java/lang/System" "arraycopy" 5 ≤ 25 := by decide +kernel
  intro T hT X
  have hc0 : H[a0]? = some (vp_cell (G.2.1 t) (n0, .inl f)) := ((hR.2.2.1 a0 _ e0).1 (hrw0 _)).1
  have hc1 : H[a1]? = some (vp_cell (G.2.1 t) (n1, .inl g)) := ((hR.2.2.1 a1 _ e1).1 (hrw0 _)).1
  obtain ⟨-, k0, hk0, cm0, hkk0⟩ := (hK.2.1 t (by omega)).1 n0 (fun j => .int (f j))
  obtain ⟨-, k1, hk1, cm1, hkk1⟩ := (hK.2.1 t (by omega)).1 n1 (fun j => .int (g j))
  obtain ⟨vm', X', step⟩ := X.arraycopy hx hown (hts _ hl) (hts _ h2) (hts _ h3) (hts _ h4) (src := a0) (dst := a1) (cs := vp_cell (G.2.1 t) (n0, .inl f)) (cd := vp_cell (G.2.1 t) (n1, .inl g)) (srcPos := sp) (destPos := dp) (n := n) (by rw [hT]; exact hc0) (by rw [hT]; exact hc1)
    (fun _ h => by cases h) (fun _ h => by cases h) (fun h => by cases h) (fun h => by cases h) hk0 hk1 hkk0 hkk1 (by simp [hprim]) g1 g2 g3
    (by rw [nn sp g1, nn n g3]; show ¬ _ > ((arrV (G.2.1 t) n0 (fun j => .int (f j))).slots.size : Int); rw [arrV_size]; omega)
    (by rw [nn dp g2, nn n g3]; show ¬ _ > ((arrV (G.2.1 t) n1 (fun j => .int (g j))).slots.size : Int); rw [arrV_size]; omega)
    (fun vm₁ _ i hi => by
      have e : (vp_cell (G.2.1 t) (n0, .inl f)).slots.getD (sp.toNatClampNeg + i) .null = .int (f (sp.toNatClampNeg + i)) := by
        show (arrV (G.2.1 t) n0 (fun j => .int (f j))).slots.getD _ _ = _
        rw [Array.getD_eq_getD_getElem?, arrV_read _ _ (by omega)]
        rfl
      refine ⟨?_, ?_⟩
      · rw [e]
        exact hfit i hi
      · rw [e]
        exact trivial)
    (g := F0 m pc ls (.int n :: .int dp :: .ref a1 :: .int sp :: .ref a0 :: st)) rfl (by rw [hml]; exact hlv.1) (rest := st) rfl (by rw [hb]; exact dg) hd (by show 2 * 0 + _ + _ ≤ 41 * d0 + 32; have : 1 ≤ d0 := hd; omega)
  have ee : copied (vp_cell (G.2.1 t) (n0, .inl f)) (vp_cell (G.2.1 t) (n1, .inl g)) sp dp n = vp_cell (G.2.1 t) (n1, .inl (va_cpy f g sp.toNatClampNeg dp.toNatClampNeg n.toNatClampNeg)) := va_copied (fun z => .int z) (G.2.1 t) (G.2.1 t) f g g4
  rw [ee] at X' step
  have hlt : a1 < H.size := (Array.getElem?_eq_some_iff.mp hc1).1
  have hheap : ((T.setVm vm').setCell a1 (vp_cell (G.2.1 t) (n1, .inl (va_cpy f g sp.toNatClampNeg dp.toNatClampNeg n.toNatClampNeg)))).heap = H.setIfInBounds a1 (vp_cell (G.2.1 t) (n1, .inl (va_cpy f g sp.toNatClampNeg dp.toNatClampNeg n.toNatClampNeg))) := by rw [← hT]; rfl
  have oq : ∀ q : Nat, q ≠ a1 → (H.setIfInBounds a1 (vp_cell (G.2.1 t) (n1, .inl (va_cpy f g sp.toNatClampNeg dp.toNatClampNeg n.toNatClampNeg))))[q]? = H[q]? := fun q hq => by simp [Array.getElem?_setIfInBounds, Ne.symm hq]
  obtain ⟨t', b1, b2⟩ := kk C _ _ ls (hR.up (e := .inl (t, n1, .inl (va_cpy f g sp.toNatClampNeg dp.toNatClampNeg n.toNatClampNeg))) hbase (hrw0 _) (show (H.setIfInBounds a1 _)[a1]? = some _ by simp [Array.getElem?_setIfInBounds, hlt]) (by simp) oq) ⟨by simp; exact hS.1, fun q j1 j2 => by
      rw [oq q (fun e => j2 (by rw [e]; exact hbase))]
      exact hS.2.1 q j1 j2, fun q hq => by
      rcases List.mem_append.mp hq with h | h
      · exact hS.2.2 q h
      · obtain ⟨z, -, hz⟩ := List.mem_map.mp h
        rw [← hz]
        exact hbase⟩ hlv _ hheap X'
  exact ⟨t', step t' b1, b2⟩
theorem zr_clone {a N : Nat} (hv : zm_cl μ a N = some μ1) (hl : Cond.methodLink F.2.1 ix ⟨"[I", "clone", "()Ljava/lang/Object;"⟩ ∈ zt) (h1 : Cond.sameMethod "[I" "java/lang/Object" "clone" "()Ljava/lang/Object;" ∈ zt) (h2 : Cond.native ⟨"java/lang/Object", "clone", "()Ljava/lang/Object;"⟩ ∈ zt) (h3 : Cond.instanceMethod ⟨"java/lang/Object", "clone", "()Ljava/lang/Object;"⟩ ∈ zt) (h4 : Cond.selects "[I" ⟨"[I", "clone", "()Ljava/lang/Object;"⟩ ⟨"java/lang/Object", "clone", "()Ljava/lang/Object;"⟩ ∈ zt) (h5 : Cond.castable "[I" "java/lang/Cloneable" ∈ zn) (hd : 1 ≤ F.2.2.2.1) (hst : (st.map fun v => v.category).sum ≤ 8) (hm1 : kc + 1 ≤ F.2.2.2.2.1) (hm2 : ks + N ≤ F.2.2.2.2.2.1) (dg : decode cc pc = .ok (.invokevirtual ix, 3)) (kk : zz K cc F (kc + 1) (ks + N) (pc + 3) lv (.ref μ.2.1 :: st) μ1) : zz K cc F kc ks pc lv (.ref a :: st) μ := by
  obtain ⟨p, l, e, s, m, args, below, meth, c, G⟩ := K
  obtain ⟨nL, own, rt, d0, mc, ms, rv, μ'⟩ := F
  intro C H locs ls hR hS hlv
  obtain ⟨hx, hb, hml, hown, hts, hr, hlk, hK⟩ := id C
  obtain ⟨f, e0, rfl⟩ := zm_cl_some hv
  have hnm : s.vm.findClass "[I" = some (G.2.1 0) := (hK.2.1 0 (by omega)).2
  have hcell : H[a]? = some (vp_cell (G.2.1 0) (N, .inl f)) := ((hR.2.2.1 a _ e0).1 rfl).1
  have hsz : (vp_cell (G.2.1 0) (N, .inl f)).slots.size = N := arrV_size _ _ _
  obtain ⟨c0, t0', f1, f2, f3⟩ := Cond.castable_spec (va_Nw.use (A := args) rfl (hK.2.2.2.1 _ h5))
  cases hnm.symm.trans f1
  intro T hT X
  have hcellT : T.heap[a]? = some (vp_cell (G.2.1 0) (N, .inl f)) := by rw [hT]; exact hcell
  obtain ⟨-, kA, hkA, comp, hkind⟩ := State.isArrayOf_alike X.warmed.alike ((hK.2.1 0 (by omega)).1 0 (fun _ => .null))
  obtain ⟨-, kS, hkS, compS, hkindS⟩ := (hK.2.1 0 (by omega)).1 0 (fun _ => .null)
  obtain ⟨vm', X', stp⟩ := X.cloneArray hx hown (hts _ hl) (hts _ h1) (hts _ h2) (hts _ h3) (hts _ h4) (a := a) (cell := vp_cell (G.2.1 0) (N, .inl f)) hcellT (fun k h => by cases h) (fun h => by cases h) hnm f2 f3
    (fun i v hv => by
      have hk' : T.vm.classes[G.2.1 0]? = some kA := hkA
      have hlt : i < N := by rw [← hsz]; exact (Array.getElem?_eq_some_iff.mp hv).1
      have hv2 : v = .int (f i) := by
        have h9 : (arrV (G.2.1 0) N (fun j => .int (f j))).slots[i]? = some v := hv
        rw [arrV_read _ _ hlt] at h9
        exact (Option.some.inj h9).symm
      subst hv2
      show State.fitsSlot _ (G.2.1 0) _ _ _ = true
      simp [State.fitsSlot, State.slotType?, hk', hkind]
      rfl)
    (g := F0 m pc ls (.ref a :: st)) rfl (by rw [hml]; exact hlv.1) rfl (by rw [hb]; exact dg) hd (by show 2 * 0 + _ + 14 ≤ 41 * d0 + 32; have : 1 ≤ d0 := hd; omega) hm1 (by rw [hsz]; exact hm2) (hloader := Vm.clonesLoader_of_array hkS hkindS)
  have hcellE : ({ cls := (vp_cell (G.2.1 0) (N, .inl f)).cls, slots := (vp_cell (G.2.1 0) (N, .inl f)).slots } : Cell) = vp_cell (G.2.1 0) (N, .inl f) := rfl
  rw [hcellE, hsz] at X'
  generalize hH1 : H.push (vp_cell (G.2.1 0) (N, .inl f)) = H1
  have z1 : H1.size = H.size + 1 := by rw [← hH1, Array.size_push]
  have e1 : H1[H.size]? = some (vp_cell (G.2.1 0) (N, .inl f)) := by rw [← hH1, Array.getElem?_push_size]
  have o1 : ∀ q : Nat, q < H.size → H1[q]? = H[q]? := fun q hq => by rw [← hH1, Array.getElem?_push, if_neg (Nat.ne_of_lt hq)]
  have k2 := kk C H1 locs ls (hR.nw rfl e1 z1 o1) ⟨Nat.le_trans hS.1 (by omega), fun x h1 h2 => (o1 x (Nat.lt_of_lt_of_le h1 hS.1)).trans (hS.2.1 x h1 h2), hS.2.2⟩ hlv
  rw [← hR.1] at k2
  obtain ⟨t, b1, b2⟩ := k2 ((T.setVm vm').pushCell (vp_cell (G.2.1 0) (N, .inl f))) (by rw [← hH1, ← hT]; rfl) X'
  refine ⟨t, stp t ?_, b2⟩
  rw [hcellE, hT]
  exact b1
theorem zr_castA {a N : Nat} (hv0 : ∃ f, μ.1 a = some (.inl (0, N, .inl f))) (hl : Cond.classLink F.2.1 ix "[I" ∈ zt) (dg : decode cc pc = .ok (.checkcast ix, 3)) (kk : zz K cc F kc ks (pc + 3) lv (.ref a :: st) μ) : zz K cc F kc ks pc lv (.ref a :: st) μ := by
  obtain ⟨p, l, e, s, m, args, below, meth, c, G⟩ := K
  obtain ⟨nL, own, rt, d0, mc, ms, rv, μ'⟩ := F
  intro C H locs ls hR hS hlv
  obtain ⟨hx, hb, hml, hown, hts, hr, hlk, hK⟩ := id C
  obtain ⟨f, hv⟩ := hv0
  exact va_castA (D := G.1) hx hb hown (hts _ hl) (hR.at hv rfl) 0 rfl (hK.2.1 0 (by omega)).2 dg (kk C H locs ls hR hS hlv)
end
