/-! the law's own script -/
def zsc (xs : Nat → Int32) (L : Nat) (i : Int32) : Option Int32 := if i < 0 ∨ L ≤ i.toNatClampNeg then none else some (xs i.toNatClampNeg)
theorem zsc_s {xs : Nat → Int32} {L : Nat} {i v : Int32} (h : zsc xs L i = some v) : vp_in i L ∧ xs i.toNatClampNeg = v := by
  unfold zsc at h
  split at h
  · cases h
  · next hc => cases h; exact ⟨hc, rfl⟩
section
variable {K : zKT} {cc : ByteArray} {F : zFT} {kc ks pc : Nat} {lv : List (Nat × Value)} {st : List Value} {μ : zM} {xs : Nat → Int32} {L x0 : Nat}
theorem zr_sld {i v : Int32} (hX : va_X x0 L xs K.2.2.2.1 K.2.2.2.1.heap) (hbl : x0 < K.2.2.2.1.heap.size) (hbA : ¬ zA K.2.2.2.2.2.2.2.2.2 x0) (hv : zsc xs L i = some v) (dg : decode cc pc = .ok (.iaload, 1)) (kk : zz K cc F kc ks (pc + 1) lv (.int v :: st) μ) : zz K cc F kc ks pc lv (.int i :: .ref x0 :: st) μ := by
  obtain ⟨p, l, e, s, m, args, below, meth, c, G⟩ := K
  obtain ⟨nL, own, rt, d0, mc, ms, rv, μ'⟩ := F
  intro C H locs ls hR hS hlv
  obtain ⟨hx, hb, hml, hown, hts, hr, hlk, hK⟩ := id C
  obtain ⟨h1, rfl⟩ := zsc_s hv
  exact va_sld hx hb hX hbl hbA hS h1 dg (kk C H locs ls hR hS hlv)
theorem zr_slen (hX : va_X x0 L xs K.2.2.2.1 K.2.2.2.1.heap) (hbl : x0 < K.2.2.2.1.heap.size) (hbA : ¬ zA K.2.2.2.2.2.2.2.2.2 x0) (dg : decode cc pc = .ok (.arraylength, 1)) (kk : zz K cc F kc ks (pc + 1) lv (.int (Int32.ofNat L) :: st) μ) : zz K cc F kc ks pc lv (.ref x0 :: st) μ := by
  obtain ⟨p, l, e, s, m, args, below, meth, c, G⟩ := K
  obtain ⟨nL, own, rt, d0, mc, ms, rv, μ'⟩ := F
  intro C H locs ls hR hS hlv
  obtain ⟨hx, hb, hml, hown, hts, hr, hlk, hK⟩ := id C
  exact va_slen hx hb hX hbl hbA hS dg (kk C H locs ls hR hS hlv)
end
