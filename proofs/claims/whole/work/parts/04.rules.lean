theorem zr_iconst {K : zKT} {cc : ByteArray} {F : zFT} {kc ks pc : Nat} {lv : List (Nat × Value)} {st : List Value} {μ : zM} {n : Int} (v : Int32) (dg : decode cc pc = .ok (.iconst n, 1)) (hv : Int32.ofInt n = v) (k : zz K cc F kc ks (pc + 1) lv (.int v :: st) μ) : zz K cc F kc ks pc lv (st) μ := by
  obtain ⟨p, l, e, s, m, args, below, meth, c, G⟩ := K
  obtain ⟨nL, own, rt, d0, mc, ms, rv, μ'⟩ := F
  intro C H locs ls hR hS hl
  obtain ⟨hx, hb, hml, hown, hts, hr, hlk, hK⟩ := id C
  exact lv_iconst hx hb dg hv (k C H locs ls hR hS hl)
theorem zr_bipush {K : zKT} {cc : ByteArray} {F : zFT} {kc ks pc : Nat} {lv : List (Nat × Value)} {st : List Value} {μ : zM} {n : Int} (v : Int32) (dg : decode cc pc = .ok (.bipush n, 2)) (hv : (Int8.ofInt n).toInt32 = v) (k : zz K cc F kc ks (pc + 2) lv (.int v :: st) μ) : zz K cc F kc ks pc lv (st) μ := by
  obtain ⟨p, l, e, s, m, args, below, meth, c, G⟩ := K
  obtain ⟨nL, own, rt, d0, mc, ms, rv, μ'⟩ := F
  intro C H locs ls hR hS hl
  obtain ⟨hx, hb, hml, hown, hts, hr, hlk, hK⟩ := id C
  exact lv_bipush hx hb dg hv (k C H locs ls hR hS hl)
theorem zr_sipush {K : zKT} {cc : ByteArray} {F : zFT} {kc ks pc : Nat} {lv : List (Nat × Value)} {st : List Value} {μ : zM} {n : Int} (v : Int32) (dg : decode cc pc = .ok (.sipush n, 3)) (hv : (Int16.ofInt n).toInt32 = v) (k : zz K cc F kc ks (pc + 3) lv (.int v :: st) μ) : zz K cc F kc ks pc lv (st) μ := by
  obtain ⟨p, l, e, s, m, args, below, meth, c, G⟩ := K
  obtain ⟨nL, own, rt, d0, mc, ms, rv, μ'⟩ := F
  intro C H locs ls hR hS hl
  obtain ⟨hx, hb, hml, hown, hts, hr, hlk, hK⟩ := id C
  exact lv_sipush hx hb dg hv (k C H locs ls hR hS hl)
theorem zr_lconst {K : zKT} {cc : ByteArray} {F : zFT} {kc ks pc : Nat} {lv : List (Nat × Value)} {st : List Value} {μ : zM} {n : Fin 2} (v : Int64) (dg : decode cc pc = .ok (.lconst n, 1)) (hv : Int64.ofNat (n : Nat) = v) (k : zz K cc F kc ks (pc + 1) lv (.long v :: st) μ) : zz K cc F kc ks pc lv (st) μ := by
  obtain ⟨p, l, e, s, m, args, below, meth, c, G⟩ := K
  obtain ⟨nL, own, rt, d0, mc, ms, rv, μ'⟩ := F
  intro C H locs ls hR hS hl
  obtain ⟨hx, hb, hml, hown, hts, hr, hlk, hK⟩ := id C
  exact lv_lconst hx hb dg hv (k C H locs ls hR hS hl)
theorem zr_null {K : zKT} {cc : ByteArray} {F : zFT} {kc ks pc : Nat} {lv : List (Nat × Value)} {st : List Value} {μ : zM} (dg : decode cc pc = .ok (.aconst_null, 1)) (k : zz K cc F kc ks (pc + 1) lv (.null :: st) μ) : zz K cc F kc ks pc lv (st) μ := by
  obtain ⟨p, l, e, s, m, args, below, meth, c, G⟩ := K
  obtain ⟨nL, own, rt, d0, mc, ms, rv, μ'⟩ := F
  intro C H locs ls hR hS hl
  obtain ⟨hx, hb, hml, hown, hts, hr, hlk, hK⟩ := id C
  exact lv_null hx hb dg (k C H locs ls hR hS hl)
theorem zr_ldc {K : zKT} {cc : ByteArray} {F : zFT} {kc ks pc : Nat} {lv : List (Nat × Value)} {st : List Value} {μ : zM} {ix : Nat} {v : Int32} (hc : Cond.constant F.2.1 ix v ∈ zt) (dg : decode cc pc = .ok (.ldc ix, 2)) (k : zz K cc F kc ks (pc + 2) lv (.int v :: st) μ) : zz K cc F kc ks pc lv (st) μ := by
  obtain ⟨p, l, e, s, m, args, below, meth, c, G⟩ := K
  obtain ⟨nL, own, rt, d0, mc, ms, rv, μ'⟩ := F
  intro C H locs ls hR hS hl
  obtain ⟨hx, hb, hml, hown, hts, hr, hlk, hK⟩ := id C
  exact lv_ldc hx hb hown (hts _ hc) dg (k C H locs ls hR hS hl)
theorem zr_ldcw {K : zKT} {cc : ByteArray} {F : zFT} {kc ks pc : Nat} {lv : List (Nat × Value)} {st : List Value} {μ : zM} {ix : Nat} {v : Int32} (hc : Cond.constant F.2.1 ix v ∈ zt) (dg : decode cc pc = .ok (.ldc_w ix, 3)) (k : zz K cc F kc ks (pc + 3) lv (.int v :: st) μ) : zz K cc F kc ks pc lv (st) μ := by
  obtain ⟨p, l, e, s, m, args, below, meth, c, G⟩ := K
  obtain ⟨nL, own, rt, d0, mc, ms, rv, μ'⟩ := F
  intro C H locs ls hR hS hl
  obtain ⟨hx, hb, hml, hown, hts, hr, hlk, hK⟩ := id C
  exact lv_ldcw hx hb hown (hts _ hc) dg (k C H locs ls hR hS hl)
theorem zr_ldc2 {K : zKT} {cc : ByteArray} {F : zFT} {kc ks pc : Nat} {lv : List (Nat × Value)} {st : List Value} {μ : zM} {ix : Nat} {v : Int64} (hc : Cond.constantLong F.2.1 ix v ∈ zt) (dg : decode cc pc = .ok (.ldc2_w ix, 3)) (k : zz K cc F kc ks (pc + 3) lv (.long v :: st) μ) : zz K cc F kc ks pc lv (st) μ := by
  obtain ⟨p, l, e, s, m, args, below, meth, c, G⟩ := K
  obtain ⟨nL, own, rt, d0, mc, ms, rv, μ'⟩ := F
  intro C H locs ls hR hS hl
  obtain ⟨hx, hb, hml, hown, hts, hr, hlk, hK⟩ := id C
  exact lv_ldc2 hx hb hown (hts _ hc) dg (k C H locs ls hR hS hl)
theorem zr_iload_n {K : zKT} {cc : ByteArray} {F : zFT} {kc ks pc : Nat} {lv : List (Nat × Value)} {st : List Value} {μ : zM} {i : Fin 4} {x : Int32} (j : Nat) (dg : decode cc pc = .ok (.iload_n i, 1)) (h : lv[j]? = some ((i : Nat), .int x)) (k : zz K cc F kc ks (pc + 1) lv (.int x :: st) μ) : zz K cc F kc ks pc lv (st) μ := by
  obtain ⟨p, l, e, s, m, args, below, meth, c, G⟩ := K
  obtain ⟨nL, own, rt, d0, mc, ms, rv, μ'⟩ := F
  intro C H locs ls hR hS hl
  obtain ⟨hx, hb, hml, hown, hts, hr, hlk, hK⟩ := id C
  exact lv_iload_n hx hb dg rfl (lv_at hl j h) (k C H locs ls hR hS hl)
theorem zr_iload {K : zKT} {cc : ByteArray} {F : zFT} {kc ks pc : Nat} {lv : List (Nat × Value)} {st : List Value} {μ : zM} {i : Nat} {x : Int32} (j : Nat) (dg : decode cc pc = .ok (.iload i, 2)) (h : lv[j]? = some (i, .int x)) (k : zz K cc F kc ks (pc + 2) lv (.int x :: st) μ) : zz K cc F kc ks pc lv (st) μ := by
  obtain ⟨p, l, e, s, m, args, below, meth, c, G⟩ := K
  obtain ⟨nL, own, rt, d0, mc, ms, rv, μ'⟩ := F
  intro C H locs ls hR hS hl
  obtain ⟨hx, hb, hml, hown, hts, hr, hlk, hK⟩ := id C
  exact lv_iload hx hb dg (lv_at hl j h) (k C H locs ls hR hS hl)
theorem zr_lload_n {K : zKT} {cc : ByteArray} {F : zFT} {kc ks pc : Nat} {lv : List (Nat × Value)} {st : List Value} {μ : zM} {i : Fin 4} {x : Int64} (j : Nat) (dg : decode cc pc = .ok (.lload_n i, 1)) (h : lv[j]? = some ((i : Nat), .long x)) (k : zz K cc F kc ks (pc + 1) lv (.long x :: st) μ) : zz K cc F kc ks pc lv (st) μ := by
  obtain ⟨p, l, e, s, m, args, below, meth, c, G⟩ := K
  obtain ⟨nL, own, rt, d0, mc, ms, rv, μ'⟩ := F
  intro C H locs ls hR hS hl
  obtain ⟨hx, hb, hml, hown, hts, hr, hlk, hK⟩ := id C
  exact lv_lload_n hx hb dg rfl (lv_at hl j h) (k C H locs ls hR hS hl)
theorem zr_lload {K : zKT} {cc : ByteArray} {F : zFT} {kc ks pc : Nat} {lv : List (Nat × Value)} {st : List Value} {μ : zM} {i : Nat} {x : Int64} (j : Nat) (dg : decode cc pc = .ok (.lload i, 2)) (h : lv[j]? = some (i, .long x)) (k : zz K cc F kc ks (pc + 2) lv (.long x :: st) μ) : zz K cc F kc ks pc lv (st) μ := by
  obtain ⟨p, l, e, s, m, args, below, meth, c, G⟩ := K
  obtain ⟨nL, own, rt, d0, mc, ms, rv, μ'⟩ := F
  intro C H locs ls hR hS hl
  obtain ⟨hx, hb, hml, hown, hts, hr, hlk, hK⟩ := id C
  exact lv_lload hx hb dg (lv_at hl j h) (k C H locs ls hR hS hl)
theorem zr_aload_n {K : zKT} {cc : ByteArray} {F : zFT} {kc ks pc : Nat} {lv : List (Nat × Value)} {st : List Value} {μ : zM} {i : Fin 4} {x : Nat} (j : Nat) (dg : decode cc pc = .ok (.aload_n i, 1)) (h : lv[j]? = some ((i : Nat), .ref x)) (k : zz K cc F kc ks (pc + 1) lv (.ref x :: st) μ) : zz K cc F kc ks pc lv (st) μ := by
  obtain ⟨p, l, e, s, m, args, below, meth, c, G⟩ := K
  obtain ⟨nL, own, rt, d0, mc, ms, rv, μ'⟩ := F
  intro C H locs ls hR hS hl
  obtain ⟨hx, hb, hml, hown, hts, hr, hlk, hK⟩ := id C
  exact lv_aload_n hx hb dg rfl (lv_at hl j h) (k C H locs ls hR hS hl)
theorem zr_aload {K : zKT} {cc : ByteArray} {F : zFT} {kc ks pc : Nat} {lv : List (Nat × Value)} {st : List Value} {μ : zM} {i : Nat} {x : Nat} (j : Nat) (dg : decode cc pc = .ok (.aload i, 2)) (h : lv[j]? = some (i, .ref x)) (k : zz K cc F kc ks (pc + 2) lv (.ref x :: st) μ) : zz K cc F kc ks pc lv (st) μ := by
  obtain ⟨p, l, e, s, m, args, below, meth, c, G⟩ := K
  obtain ⟨nL, own, rt, d0, mc, ms, rv, μ'⟩ := F
  intro C H locs ls hR hS hl
  obtain ⟨hx, hb, hml, hown, hts, hr, hlk, hK⟩ := id C
  exact lv_aload hx hb dg (lv_at hl j h) (k C H locs ls hR hS hl)
theorem zr_oload_n {K : zKT} {cc : ByteArray} {F : zFT} {kc ks pc : Nat} {lv : List (Nat × Value)} {st : List Value} {μ : zM} {i : Fin 4} {x : Option Nat} (j : Nat) (dg : decode cc pc = .ok (.aload_n i, 1)) (h : lv[j]? = some ((i : Nat), va_rf x)) (k : zz K cc F kc ks (pc + 1) lv (va_rf x :: st) μ) : zz K cc F kc ks pc lv st μ := by
  obtain ⟨p, l, e, s, m, args, below, meth, c, G⟩ := K
  obtain ⟨nL, own, rt, d0, mc, ms, rv, μ'⟩ := F
  intro C H locs ls hR hS hl
  obtain ⟨hx, hb, hml, hown, hts, hr, hlk, hK⟩ := id C
  cases x with
  | none => exact lv_aload_nN hx hb dg rfl (lv_at hl j h) (k C H locs ls hR hS hl)
  | some y => exact lv_aload_n hx hb dg rfl (lv_at hl j h) (k C H locs ls hR hS hl)
theorem zr_oload {K : zKT} {cc : ByteArray} {F : zFT} {kc ks pc : Nat} {lv : List (Nat × Value)} {st : List Value} {μ : zM} {i : Nat} {x : Option Nat} (j : Nat) (dg : decode cc pc = .ok (.aload i, 2)) (h : lv[j]? = some (i, va_rf x)) (k : zz K cc F kc ks (pc + 2) lv (va_rf x :: st) μ) : zz K cc F kc ks pc lv st μ := by
  obtain ⟨p, l, e, s, m, args, below, meth, c, G⟩ := K
  obtain ⟨nL, own, rt, d0, mc, ms, rv, μ'⟩ := F
  intro C H locs ls hR hS hl
  obtain ⟨hx, hb, hml, hown, hts, hr, hlk, hK⟩ := id C
  cases x with
  | none => exact lv_aloadN hx hb dg (lv_at hl j h) (k C H locs ls hR hS hl)
  | some y => exact lv_aload hx hb dg (lv_at hl j h) (k C H locs ls hR hS hl)
theorem zr_istore_n {K : zKT} {cc : ByteArray} {F : zFT} {kc ks pc : Nat} {lv : List (Nat × Value)} {st : List Value} {μ : zM} {i : Fin 4} {x : Int32} (lv' : List (Nat × Value)) (dg : decode cc pc = .ok (.istore_n i, 1)) (hn : (i : Nat) < F.1) (hv : ((i : Nat), Value.int x) :: lv.filter (fun q => !(q.1 == (i : Nat)) && !(q.1 + 1 == (i : Nat) && q.2.category == 2)) = lv') (k : zz K cc F kc ks (pc + 1) lv' (st) μ) : zz K cc F kc ks pc lv (.int x :: st) μ := by
  obtain ⟨p, l, e, s, m, args, below, meth, c, G⟩ := K
  obtain ⟨nL, own, rt, d0, mc, ms, rv, μ'⟩ := F
  intro C H locs ls hR hS hl
  obtain ⟨hx, hb, hml, hown, hts, hr, hlk, hK⟩ := id C
  exact lv_istore_n hx hb dg rfl hl hn hv (fun ls hl => k C H locs ls hR hS hl)
theorem zr_istore {K : zKT} {cc : ByteArray} {F : zFT} {kc ks pc : Nat} {lv : List (Nat × Value)} {st : List Value} {μ : zM} {i : Nat} {x : Int32} (lv' : List (Nat × Value)) (dg : decode cc pc = .ok (.istore i, 2)) (hn : i < F.1) (hv : (i, Value.int x) :: lv.filter (fun q => !(q.1 == i) && !(q.1 + 1 == i && q.2.category == 2)) = lv') (k : zz K cc F kc ks (pc + 2) lv' (st) μ) : zz K cc F kc ks pc lv (.int x :: st) μ := by
  obtain ⟨p, l, e, s, m, args, below, meth, c, G⟩ := K
  obtain ⟨nL, own, rt, d0, mc, ms, rv, μ'⟩ := F
  intro C H locs ls hR hS hl
  obtain ⟨hx, hb, hml, hown, hts, hr, hlk, hK⟩ := id C
  exact lv_istore hx hb dg hl hn hv (fun ls hl => k C H locs ls hR hS hl)
theorem zr_lstore_n {K : zKT} {cc : ByteArray} {F : zFT} {kc ks pc : Nat} {lv : List (Nat × Value)} {st : List Value} {μ : zM} {i : Fin 4} {x : Int64} (lv' : List (Nat × Value)) (dg : decode cc pc = .ok (.lstore_n i, 1)) (hn : (i : Nat) + 1 < F.1) (hv : ((i : Nat), Value.long x) :: lv.filter (fun q => !(q.1 == (i : Nat)) && (!(q.1 == (i : Nat) + 1) && !(q.1 + 1 == (i : Nat) && q.2.category == 2))) = lv') (k : zz K cc F kc ks (pc + 1) lv' (st) μ) : zz K cc F kc ks pc lv (.long x :: st) μ := by
  obtain ⟨p, l, e, s, m, args, below, meth, c, G⟩ := K
  obtain ⟨nL, own, rt, d0, mc, ms, rv, μ'⟩ := F
  intro C H locs ls hR hS hl
  obtain ⟨hx, hb, hml, hown, hts, hr, hlk, hK⟩ := id C
  exact lv_lstore_n hx hb dg rfl hl hn hv (fun ls hl => k C H locs ls hR hS hl)
theorem zr_lstore {K : zKT} {cc : ByteArray} {F : zFT} {kc ks pc : Nat} {lv : List (Nat × Value)} {st : List Value} {μ : zM} {i : Nat} {x : Int64} (lv' : List (Nat × Value)) (dg : decode cc pc = .ok (.lstore i, 2)) (hn : i + 1 < F.1) (hv : (i, Value.long x) :: lv.filter (fun q => !(q.1 == i) && (!(q.1 == i + 1) && !(q.1 + 1 == i && q.2.category == 2))) = lv') (k : zz K cc F kc ks (pc + 2) lv' (st) μ) : zz K cc F kc ks pc lv (.long x :: st) μ := by
  obtain ⟨p, l, e, s, m, args, below, meth, c, G⟩ := K
  obtain ⟨nL, own, rt, d0, mc, ms, rv, μ'⟩ := F
  intro C H locs ls hR hS hl
  obtain ⟨hx, hb, hml, hown, hts, hr, hlk, hK⟩ := id C
  exact lv_lstore hx hb dg hl hn hv (fun ls hl => k C H locs ls hR hS hl)
theorem zr_astore_n {K : zKT} {cc : ByteArray} {F : zFT} {kc ks pc : Nat} {lv : List (Nat × Value)} {st : List Value} {μ : zM} {i : Fin 4} {x : Nat} (lv' : List (Nat × Value)) (dg : decode cc pc = .ok (.astore_n i, 1)) (hn : (i : Nat) < F.1) (hv : ((i : Nat), Value.ref x) :: lv.filter (fun q => !(q.1 == (i : Nat)) && !(q.1 + 1 == (i : Nat) && q.2.category == 2)) = lv') (k : zz K cc F kc ks (pc + 1) lv' (st) μ) : zz K cc F kc ks pc lv (.ref x :: st) μ := by
  obtain ⟨p, l, e, s, m, args, below, meth, c, G⟩ := K
  obtain ⟨nL, own, rt, d0, mc, ms, rv, μ'⟩ := F
  intro C H locs ls hR hS hl
  obtain ⟨hx, hb, hml, hown, hts, hr, hlk, hK⟩ := id C
  exact lv_astore_n hx hb dg rfl hl hn hv (fun ls hl => k C H locs ls hR hS hl)
theorem zr_astore {K : zKT} {cc : ByteArray} {F : zFT} {kc ks pc : Nat} {lv : List (Nat × Value)} {st : List Value} {μ : zM} {i : Nat} {x : Nat} (lv' : List (Nat × Value)) (dg : decode cc pc = .ok (.astore i, 2)) (hn : i < F.1) (hv : (i, Value.ref x) :: lv.filter (fun q => !(q.1 == i) && !(q.1 + 1 == i && q.2.category == 2)) = lv') (k : zz K cc F kc ks (pc + 2) lv' (st) μ) : zz K cc F kc ks pc lv (.ref x :: st) μ := by
  obtain ⟨p, l, e, s, m, args, below, meth, c, G⟩ := K
  obtain ⟨nL, own, rt, d0, mc, ms, rv, μ'⟩ := F
  intro C H locs ls hR hS hl
  obtain ⟨hx, hb, hml, hown, hts, hr, hlk, hK⟩ := id C
  exact lv_astore hx hb dg hl hn hv (fun ls hl => k C H locs ls hR hS hl)
theorem zr_ostore_n {K : zKT} {cc : ByteArray} {F : zFT} {kc ks pc : Nat} {lv : List (Nat × Value)} {st : List Value} {μ : zM} {i : Fin 4} {x : Option Nat} (lv' : List (Nat × Value)) (dg : decode cc pc = .ok (.astore_n i, 1)) (hn : (i : Nat) < F.1) (hv : ((i : Nat), va_rf x) :: lv.filter (fun q => !(q.1 == (i : Nat)) && !(q.1 + 1 == (i : Nat) && q.2.category == 2)) = lv') (k : zz K cc F kc ks (pc + 1) lv' st μ) : zz K cc F kc ks pc lv (va_rf x :: st) μ := by
  obtain ⟨p, l, e, s, m, args, below, meth, c, G⟩ := K
  obtain ⟨nL, own, rt, d0, mc, ms, rv, μ'⟩ := F
  intro C H locs ls hR hS hl
  obtain ⟨hx, hb, hml, hown, hts, hr, hlk, hK⟩ := id C
  cases x with
  | none => exact lv_astore_nN hx hb dg rfl hl hn hv (fun ls hl => k C H locs ls hR hS hl)
  | some y => exact lv_astore_n hx hb dg rfl hl hn hv (fun ls hl => k C H locs ls hR hS hl)
theorem zr_ostore {K : zKT} {cc : ByteArray} {F : zFT} {kc ks pc : Nat} {lv : List (Nat × Value)} {st : List Value} {μ : zM} {i : Nat} {x : Option Nat} (lv' : List (Nat × Value)) (dg : decode cc pc = .ok (.astore i, 2)) (hn : i < F.1) (hv : (i, va_rf x) :: lv.filter (fun q => !(q.1 == i) && !(q.1 + 1 == i && q.2.category == 2)) = lv') (k : zz K cc F kc ks (pc + 2) lv' st μ) : zz K cc F kc ks pc lv (va_rf x :: st) μ := by
  obtain ⟨p, l, e, s, m, args, below, meth, c, G⟩ := K
  obtain ⟨nL, own, rt, d0, mc, ms, rv, μ'⟩ := F
  intro C H locs ls hR hS hl
  obtain ⟨hx, hb, hml, hown, hts, hr, hlk, hK⟩ := id C
  cases x with
  | none => exact lv_astoreN hx hb dg hl hn hv (fun ls hl => k C H locs ls hR hS hl)
  | some y => exact lv_astore hx hb dg hl hn hv (fun ls hl => k C H locs ls hR hS hl)
theorem zr_iinc {K : zKT} {cc : ByteArray} {F : zFT} {kc ks pc : Nat} {lv : List (Nat × Value)} {st : List Value} {μ : zM} {i j : Nat} {n : Int} {x : Int32} (v : Int32) (lv' : List (Nat × Value)) (dg : decode cc pc = .ok (.iinc i n, 3)) (hk : lv[j]? = some (i, .int x)) (hx' : x + Int32.ofInt n = v) (hn : i < F.1) (hv : (i, Value.int v) :: lv.filter (fun q => !(q.1 == i) && !(q.1 + 1 == i && q.2.category == 2)) = lv') (k : zz K cc F kc ks (pc + 3) lv' (st) μ) : zz K cc F kc ks pc lv (st) μ := by
  obtain ⟨p, l, e, s, m, args, below, meth, c, G⟩ := K
  obtain ⟨nL, own, rt, d0, mc, ms, rv, μ'⟩ := F
  intro C H locs ls hR hS hl
  obtain ⟨hx, hb, hml, hown, hts, hr, hlk, hK⟩ := id C
  exact lv_iinc hx hb dg hl hk hx' hn hv (fun ls hl => k C H locs ls hR hS hl)
theorem zr_iadd {K : zKT} {cc : ByteArray} {F : zFT} {kc ks pc : Nat} {lv : List (Nat × Value)} {st : List Value} {μ : zM} {x y : Int32} (dg : decode cc pc = .ok (.iadd, 1)) (k : zz K cc F kc ks (pc + 1) lv (.int (x + y) :: st) μ) : zz K cc F kc ks pc lv (.int y :: .int x :: st) μ := by
  obtain ⟨p, l, e, s, m, args, below, meth, c, G⟩ := K
  obtain ⟨nL, own, rt, d0, mc, ms, rv, μ'⟩ := F
  intro C H locs ls hR hS hl
  obtain ⟨hx, hb, hml, hown, hts, hr, hlk, hK⟩ := id C
  exact lv_iadd hx hb dg (k C H locs ls hR hS hl)
theorem zr_isub {K : zKT} {cc : ByteArray} {F : zFT} {kc ks pc : Nat} {lv : List (Nat × Value)} {st : List Value} {μ : zM} {x y : Int32} (dg : decode cc pc = .ok (.isub, 1)) (k : zz K cc F kc ks (pc + 1) lv (.int (x - y) :: st) μ) : zz K cc F kc ks pc lv (.int y :: .int x :: st) μ := by
  obtain ⟨p, l, e, s, m, args, below, meth, c, G⟩ := K
  obtain ⟨nL, own, rt, d0, mc, ms, rv, μ'⟩ := F
  intro C H locs ls hR hS hl
  obtain ⟨hx, hb, hml, hown, hts, hr, hlk, hK⟩ := id C
  exact lv_isub hx hb dg (k C H locs ls hR hS hl)
theorem zr_imul {K : zKT} {cc : ByteArray} {F : zFT} {kc ks pc : Nat} {lv : List (Nat × Value)} {st : List Value} {μ : zM} {x y : Int32} (dg : decode cc pc = .ok (.imul, 1)) (k : zz K cc F kc ks (pc + 1) lv (.int (x * y) :: st) μ) : zz K cc F kc ks pc lv (.int y :: .int x :: st) μ := by
  obtain ⟨p, l, e, s, m, args, below, meth, c, G⟩ := K
  obtain ⟨nL, own, rt, d0, mc, ms, rv, μ'⟩ := F
  intro C H locs ls hR hS hl
  obtain ⟨hx, hb, hml, hown, hts, hr, hlk, hK⟩ := id C
  exact lv_imul hx hb dg (k C H locs ls hR hS hl)
theorem zr_iand {K : zKT} {cc : ByteArray} {F : zFT} {kc ks pc : Nat} {lv : List (Nat × Value)} {st : List Value} {μ : zM} {x y : Int32} (dg : decode cc pc = .ok (.iand, 1)) (k : zz K cc F kc ks (pc + 1) lv (.int (x &&& y) :: st) μ) : zz K cc F kc ks pc lv (.int y :: .int x :: st) μ := by
  obtain ⟨p, l, e, s, m, args, below, meth, c, G⟩ := K
  obtain ⟨nL, own, rt, d0, mc, ms, rv, μ'⟩ := F
  intro C H locs ls hR hS hl
  obtain ⟨hx, hb, hml, hown, hts, hr, hlk, hK⟩ := id C
  exact lv_iand hx hb dg (k C H locs ls hR hS hl)
theorem zr_ior {K : zKT} {cc : ByteArray} {F : zFT} {kc ks pc : Nat} {lv : List (Nat × Value)} {st : List Value} {μ : zM} {x y : Int32} (dg : decode cc pc = .ok (.ior, 1)) (k : zz K cc F kc ks (pc + 1) lv (.int (x ||| y) :: st) μ) : zz K cc F kc ks pc lv (.int y :: .int x :: st) μ := by
  obtain ⟨p, l, e, s, m, args, below, meth, c, G⟩ := K
  obtain ⟨nL, own, rt, d0, mc, ms, rv, μ'⟩ := F
  intro C H locs ls hR hS hl
  obtain ⟨hx, hb, hml, hown, hts, hr, hlk, hK⟩ := id C
  exact lv_ior hx hb dg (k C H locs ls hR hS hl)
theorem zr_ixor {K : zKT} {cc : ByteArray} {F : zFT} {kc ks pc : Nat} {lv : List (Nat × Value)} {st : List Value} {μ : zM} {x y : Int32} (dg : decode cc pc = .ok (.ixor, 1)) (k : zz K cc F kc ks (pc + 1) lv (.int (x ^^^ y) :: st) μ) : zz K cc F kc ks pc lv (.int y :: .int x :: st) μ := by
  obtain ⟨p, l, e, s, m, args, below, meth, c, G⟩ := K
  obtain ⟨nL, own, rt, d0, mc, ms, rv, μ'⟩ := F
  intro C H locs ls hR hS hl
  obtain ⟨hx, hb, hml, hown, hts, hr, hlk, hK⟩ := id C
  exact lv_ixor hx hb dg (k C H locs ls hR hS hl)
theorem zr_ishl {K : zKT} {cc : ByteArray} {F : zFT} {kc ks pc : Nat} {lv : List (Nat × Value)} {st : List Value} {μ : zM} {x y : Int32} (dg : decode cc pc = .ok (.ishl, 1)) (k : zz K cc F kc ks (pc + 1) lv (.int (x <<< (y &&& 31)) :: st) μ) : zz K cc F kc ks pc lv (.int y :: .int x :: st) μ := by
  obtain ⟨p, l, e, s, m, args, below, meth, c, G⟩ := K
  obtain ⟨nL, own, rt, d0, mc, ms, rv, μ'⟩ := F
  intro C H locs ls hR hS hl
  obtain ⟨hx, hb, hml, hown, hts, hr, hlk, hK⟩ := id C
  exact lv_ishl hx hb dg (k C H locs ls hR hS hl)
theorem zr_ishr {K : zKT} {cc : ByteArray} {F : zFT} {kc ks pc : Nat} {lv : List (Nat × Value)} {st : List Value} {μ : zM} {x y : Int32} (dg : decode cc pc = .ok (.ishr, 1)) (k : zz K cc F kc ks (pc + 1) lv (.int (x >>> (y &&& 31)) :: st) μ) : zz K cc F kc ks pc lv (.int y :: .int x :: st) μ := by
  obtain ⟨p, l, e, s, m, args, below, meth, c, G⟩ := K
  obtain ⟨nL, own, rt, d0, mc, ms, rv, μ'⟩ := F
  intro C H locs ls hR hS hl
  obtain ⟨hx, hb, hml, hown, hts, hr, hlk, hK⟩ := id C
  exact lv_ishr hx hb dg (k C H locs ls hR hS hl)
theorem zr_iushr {K : zKT} {cc : ByteArray} {F : zFT} {kc ks pc : Nat} {lv : List (Nat × Value)} {st : List Value} {μ : zM} {x y : Int32} (dg : decode cc pc = .ok (.iushr, 1)) (k : zz K cc F kc ks (pc + 1) lv (.int ((x.toUInt32 >>> (y.toUInt32 &&& Int32.toUInt32 31)).toInt32) :: st) μ) : zz K cc F kc ks pc lv (.int y :: .int x :: st) μ := by
  obtain ⟨p, l, e, s, m, args, below, meth, c, G⟩ := K
  obtain ⟨nL, own, rt, d0, mc, ms, rv, μ'⟩ := F
  intro C H locs ls hR hS hl
  obtain ⟨hx, hb, hml, hown, hts, hr, hlk, hK⟩ := id C
  exact lv_iushr hx hb dg rfl (k C H locs ls hR hS hl)
theorem zr_idiv {K : zKT} {cc : ByteArray} {F : zFT} {kc ks pc : Nat} {lv : List (Nat × Value)} {st : List Value} {μ : zM} {x y : Int32} (dg : decode cc pc = .ok (.idiv, 1)) (hne : ¬ y = 0) (k : zz K cc F kc ks (pc + 1) lv (.int (x / y) :: st) μ) : zz K cc F kc ks pc lv (.int y :: .int x :: st) μ := by
  obtain ⟨p, l, e, s, m, args, below, meth, c, G⟩ := K
  obtain ⟨nL, own, rt, d0, mc, ms, rv, μ'⟩ := F
  intro C H locs ls hR hS hl
  obtain ⟨hx, hb, hml, hown, hts, hr, hlk, hK⟩ := id C
  exact lv_idiv hx hb dg hne (k C H locs ls hR hS hl)
theorem zr_irem {K : zKT} {cc : ByteArray} {F : zFT} {kc ks pc : Nat} {lv : List (Nat × Value)} {st : List Value} {μ : zM} {x y : Int32} (dg : decode cc pc = .ok (.irem, 1)) (hne : ¬ y = 0) (k : zz K cc F kc ks (pc + 1) lv (.int (x - x / y * y) :: st) μ) : zz K cc F kc ks pc lv (.int y :: .int x :: st) μ := by
  obtain ⟨p, l, e, s, m, args, below, meth, c, G⟩ := K
  obtain ⟨nL, own, rt, d0, mc, ms, rv, μ'⟩ := F
  intro C H locs ls hR hS hl
  obtain ⟨hx, hb, hml, hown, hts, hr, hlk, hK⟩ := id C
  exact lv_irem hx hb dg hne (k C H locs ls hR hS hl)
theorem zr_ladd {K : zKT} {cc : ByteArray} {F : zFT} {kc ks pc : Nat} {lv : List (Nat × Value)} {st : List Value} {μ : zM} {x y : Int64} (dg : decode cc pc = .ok (.ladd, 1)) (k : zz K cc F kc ks (pc + 1) lv (.long (x + y) :: st) μ) : zz K cc F kc ks pc lv (.long y :: .long x :: st) μ := by
  obtain ⟨p, l, e, s, m, args, below, meth, c, G⟩ := K
  obtain ⟨nL, own, rt, d0, mc, ms, rv, μ'⟩ := F
  intro C H locs ls hR hS hl
  obtain ⟨hx, hb, hml, hown, hts, hr, hlk, hK⟩ := id C
  exact lv_ladd hx hb dg (k C H locs ls hR hS hl)
theorem zr_lmul {K : zKT} {cc : ByteArray} {F : zFT} {kc ks pc : Nat} {lv : List (Nat × Value)} {st : List Value} {μ : zM} {x y : Int64} (dg : decode cc pc = .ok (.lmul, 1)) (k : zz K cc F kc ks (pc + 1) lv (.long (x * y) :: st) μ) : zz K cc F kc ks pc lv (.long y :: .long x :: st) μ := by
  obtain ⟨p, l, e, s, m, args, below, meth, c, G⟩ := K
  obtain ⟨nL, own, rt, d0, mc, ms, rv, μ'⟩ := F
  intro C H locs ls hR hS hl
  obtain ⟨hx, hb, hml, hown, hts, hr, hlk, hK⟩ := id C
  exact lv_lmul hx hb dg (k C H locs ls hR hS hl)
theorem zr_lor {K : zKT} {cc : ByteArray} {F : zFT} {kc ks pc : Nat} {lv : List (Nat × Value)} {st : List Value} {μ : zM} {x y : Int64} (dg : decode cc pc = .ok (.lor, 1)) (k : zz K cc F kc ks (pc + 1) lv (.long (x ||| y) :: st) μ) : zz K cc F kc ks pc lv (.long y :: .long x :: st) μ := by
  obtain ⟨p, l, e, s, m, args, below, meth, c, G⟩ := K
  obtain ⟨nL, own, rt, d0, mc, ms, rv, μ'⟩ := F
  intro C H locs ls hR hS hl
  obtain ⟨hx, hb, hml, hown, hts, hr, hlk, hK⟩ := id C
  exact lv_lor hx hb dg (k C H locs ls hR hS hl)
theorem zr_ldiv {K : zKT} {cc : ByteArray} {F : zFT} {kc ks pc : Nat} {lv : List (Nat × Value)} {st : List Value} {μ : zM} {x y : Int64} (dg : decode cc pc = .ok (.ldiv, 1)) (hne : ¬ y = 0) (k : zz K cc F kc ks (pc + 1) lv (.long (x / y) :: st) μ) : zz K cc F kc ks pc lv (.long y :: .long x :: st) μ := by
  obtain ⟨p, l, e, s, m, args, below, meth, c, G⟩ := K
  obtain ⟨nL, own, rt, d0, mc, ms, rv, μ'⟩ := F
  intro C H locs ls hR hS hl
  obtain ⟨hx, hb, hml, hown, hts, hr, hlk, hK⟩ := id C
  exact lv_ldiv hx hb dg hne (k C H locs ls hR hS hl)
theorem zr_lrem {K : zKT} {cc : ByteArray} {F : zFT} {kc ks pc : Nat} {lv : List (Nat × Value)} {st : List Value} {μ : zM} {x y : Int64} (dg : decode cc pc = .ok (.lrem, 1)) (hne : ¬ y = 0) (k : zz K cc F kc ks (pc + 1) lv (.long (x - x / y * y) :: st) μ) : zz K cc F kc ks pc lv (.long y :: .long x :: st) μ := by
  obtain ⟨p, l, e, s, m, args, below, meth, c, G⟩ := K
  obtain ⟨nL, own, rt, d0, mc, ms, rv, μ'⟩ := F
  intro C H locs ls hR hS hl
  obtain ⟨hx, hb, hml, hown, hts, hr, hlk, hK⟩ := id C
  exact lv_lrem hx hb dg hne (k C H locs ls hR hS hl)
theorem zr_lshl {K : zKT} {cc : ByteArray} {F : zFT} {kc ks pc : Nat} {lv : List (Nat × Value)} {st : List Value} {μ : zM} {x : Int64} {y : Int32} (dg : decode cc pc = .ok (.lshl, 1)) (k : zz K cc F kc ks (pc + 1) lv (.long (x <<< (y.toInt64 &&& 63)) :: st) μ) : zz K cc F kc ks pc lv (.int y :: .long x :: st) μ := by
  obtain ⟨p, l, e, s, m, args, below, meth, c, G⟩ := K
  obtain ⟨nL, own, rt, d0, mc, ms, rv, μ'⟩ := F
  intro C H locs ls hR hS hl
  obtain ⟨hx, hb, hml, hown, hts, hr, hlk, hK⟩ := id C
  exact lv_lshl hx hb dg rfl (k C H locs ls hR hS hl)
theorem zr_lcmp {K : zKT} {cc : ByteArray} {F : zFT} {kc ks pc : Nat} {lv : List (Nat × Value)} {st : List Value} {μ : zM} {x y : Int64} (dg : decode cc pc = .ok (.lcmp, 1)) (k : zz K cc F kc ks (pc + 1) lv (.int (lg_cmp x y) :: st) μ) : zz K cc F kc ks pc lv (.long y :: .long x :: st) μ := by
  obtain ⟨p, l, e, s, m, args, below, meth, c, G⟩ := K
  obtain ⟨nL, own, rt, d0, mc, ms, rv, μ'⟩ := F
  intro C H locs ls hR hS hl
  obtain ⟨hx, hb, hml, hown, hts, hr, hlk, hK⟩ := id C
  exact W.lcmp hx hb dg (k C H locs ls hR hS hl)
theorem zr_i2l {K : zKT} {cc : ByteArray} {F : zFT} {kc ks pc : Nat} {lv : List (Nat × Value)} {st : List Value} {μ : zM} {x : Int32} (dg : decode cc pc = .ok (.i2l, 1)) (k : zz K cc F kc ks (pc + 1) lv (.long x.toInt64 :: st) μ) : zz K cc F kc ks pc lv (.int x :: st) μ := by
  obtain ⟨p, l, e, s, m, args, below, meth, c, G⟩ := K
  obtain ⟨nL, own, rt, d0, mc, ms, rv, μ'⟩ := F
  intro C H locs ls hR hS hl
  obtain ⟨hx, hb, hml, hown, hts, hr, hlk, hK⟩ := id C
  exact lv_i2l hx hb dg rfl (k C H locs ls hR hS hl)
theorem zr_l2i {K : zKT} {cc : ByteArray} {F : zFT} {kc ks pc : Nat} {lv : List (Nat × Value)} {st : List Value} {μ : zM} {x : Int64} (dg : decode cc pc = .ok (.l2i, 1)) (k : zz K cc F kc ks (pc + 1) lv (.int x.toInt32 :: st) μ) : zz K cc F kc ks pc lv (.long x :: st) μ := by
  obtain ⟨p, l, e, s, m, args, below, meth, c, G⟩ := K
  obtain ⟨nL, own, rt, d0, mc, ms, rv, μ'⟩ := F
  intro C H locs ls hR hS hl
  obtain ⟨hx, hb, hml, hown, hts, hr, hlk, hK⟩ := id C
  exact lv_l2i hx hb dg rfl (k C H locs ls hR hS hl)
theorem zr_i2b {K : zKT} {cc : ByteArray} {F : zFT} {kc ks pc : Nat} {lv : List (Nat × Value)} {st : List Value} {μ : zM} {x : Int32} (dg : decode cc pc = .ok (.i2b, 1)) (k : zz K cc F kc ks (pc + 1) lv (.int x.toInt8.toInt32 :: st) μ) : zz K cc F kc ks pc lv (.int x :: st) μ := by
  obtain ⟨p, l, e, s, m, args, below, meth, c, G⟩ := K
  obtain ⟨nL, own, rt, d0, mc, ms, rv, μ'⟩ := F
  intro C H locs ls hR hS hl
  obtain ⟨hx, hb, hml, hown, hts, hr, hlk, hK⟩ := id C
  exact lv_i2b hx hb dg rfl (k C H locs ls hR hS hl)
theorem zr_i2c {K : zKT} {cc : ByteArray} {F : zFT} {kc ks pc : Nat} {lv : List (Nat × Value)} {st : List Value} {μ : zM} {x : Int32} (dg : decode cc pc = .ok (.i2c, 1)) (k : zz K cc F kc ks (pc + 1) lv (.int (x.toUInt32 % 65536).toInt32 :: st) μ) : zz K cc F kc ks pc lv (.int x :: st) μ := by
  obtain ⟨p, l, e, s, m, args, below, meth, c, G⟩ := K
  obtain ⟨nL, own, rt, d0, mc, ms, rv, μ'⟩ := F
  intro C H locs ls hR hS hl
  obtain ⟨hx, hb, hml, hown, hts, hr, hlk, hK⟩ := id C
  exact lv_i2c hx hb dg rfl (k C H locs ls hR hS hl)
theorem zr_dup {K : zKT} {cc : ByteArray} {F : zFT} {kc ks pc : Nat} {lv : List (Nat × Value)} {st : List Value} {μ : zM} {a : Value} (dg : decode cc pc = .ok (.dup, 1)) (h : a.category = 1) (k : zz K cc F kc ks (pc + 1) lv (a :: a :: st) μ) : zz K cc F kc ks pc lv (a :: st) μ := by
  obtain ⟨p, l, e, s, m, args, below, meth, c, G⟩ := K
  obtain ⟨nL, own, rt, d0, mc, ms, rv, μ'⟩ := F
  intro C H locs ls hR hS hl
  obtain ⟨hx, hb, hml, hown, hts, hr, hlk, hK⟩ := id C
  exact lv_dup hx hb dg h (k C H locs ls hR hS hl)
theorem zr_dup_x1 {K : zKT} {cc : ByteArray} {F : zFT} {kc ks pc : Nat} {lv : List (Nat × Value)} {st : List Value} {μ : zM} {a b : Value} (dg : decode cc pc = .ok (.dup_x1, 1)) (h : a.category = 1) (h2 : b.category = 1) (k : zz K cc F kc ks (pc + 1) lv (a :: b :: a :: st) μ) : zz K cc F kc ks pc lv (a :: b :: st) μ := by
  obtain ⟨p, l, e, s, m, args, below, meth, c, G⟩ := K
  obtain ⟨nL, own, rt, d0, mc, ms, rv, μ'⟩ := F
  intro C H locs ls hR hS hl
  obtain ⟨hx, hb, hml, hown, hts, hr, hlk, hK⟩ := id C
  exact lv_dup_x1 hx hb dg h h2 (k C H locs ls hR hS hl)
theorem zr_dup2 {K : zKT} {cc : ByteArray} {F : zFT} {kc ks pc : Nat} {lv : List (Nat × Value)} {st : List Value} {μ : zM} {a b : Value} (dg : decode cc pc = .ok (.dup2, 1)) (h : a.category = 1) (h2 : b.category = 1) (k : zz K cc F kc ks (pc + 1) lv (a :: b :: a :: b :: st) μ) : zz K cc F kc ks pc lv (a :: b :: st) μ := by
  obtain ⟨p, l, e, s, m, args, below, meth, c, G⟩ := K
  obtain ⟨nL, own, rt, d0, mc, ms, rv, μ'⟩ := F
  intro C H locs ls hR hS hl
  obtain ⟨hx, hb, hml, hown, hts, hr, hlk, hK⟩ := id C
  exact lv_dup2_11 hx hb dg h h2 (k C H locs ls hR hS hl)
theorem zr_pop {K : zKT} {cc : ByteArray} {F : zFT} {kc ks pc : Nat} {lv : List (Nat × Value)} {st : List Value} {μ : zM} {a : Value} (dg : decode cc pc = .ok (.pop, 1)) (h : a.category = 1) (k : zz K cc F kc ks (pc + 1) lv (st) μ) : zz K cc F kc ks pc lv (a :: st) μ := by
  obtain ⟨p, l, e, s, m, args, below, meth, c, G⟩ := K
  obtain ⟨nL, own, rt, d0, mc, ms, rv, μ'⟩ := F
  intro C H locs ls hR hS hl
  obtain ⟨hx, hb, hml, hown, hts, hr, hlk, hK⟩ := id C
  exact lv_pop hx hb dg h (k C H locs ls hR hS hl)
theorem zr_goto {K : zKT} {cc : ByteArray} {F : zFT} {kc ks pc : Nat} {lv : List (Nat × Value)} {st : List Value} {μ : zM} {off : Int} (tgt : Nat) (dg : decode cc pc = .ok (.goto off, 3)) (ht : (pc : Int) + off = (tgt : Int)) (k : zz K cc F kc ks (tgt) lv (st) μ) : zz K cc F kc ks pc lv (st) μ := by
  obtain ⟨p, l, e, s, m, args, below, meth, c, G⟩ := K
  obtain ⟨nL, own, rt, d0, mc, ms, rv, μ'⟩ := F
  intro C H locs ls hR hS hl
  obtain ⟨hx, hb, hml, hown, hts, hr, hlk, hK⟩ := id C
  exact lv_goto hx hb dg ht (k C H locs ls hR hS hl)
theorem zr_if_eq {K : zKT} {cc : ByteArray} {F : zFT} {kc ks pc : Nat} {lv : List (Nat × Value)} {st : List Value} {μ : zM} {x : Int32} {off : Int} (tgt : Nat) (dg : decode cc pc = .ok (.ifCond .eq off, 3)) (ht : (pc : Int) + off = (tgt : Int)) (kt : (x = 0) → zz K cc F kc ks tgt lv st μ) (kf : (¬ x = 0) → zz K cc F kc ks (pc + 3) lv st μ) : zz K cc F kc ks pc lv (.int x :: st) μ := by
  obtain ⟨p, l, e, s, m, args, below, meth, c, G⟩ := K
  obtain ⟨nL, own, rt, d0, mc, ms, rv, μ'⟩ := F
  intro C H locs ls hR hS hl
  obtain ⟨hx, hb, hml, hown, hts, hr, hlk, hK⟩ := id C
  exact lv_if_eq hx hb dg ht (fun h => kt h C H locs ls hR hS hl) (fun h => kf h C H locs ls hR hS hl)
theorem zr_if_ne {K : zKT} {cc : ByteArray} {F : zFT} {kc ks pc : Nat} {lv : List (Nat × Value)} {st : List Value} {μ : zM} {x : Int32} {off : Int} (tgt : Nat) (dg : decode cc pc = .ok (.ifCond .ne off, 3)) (ht : (pc : Int) + off = (tgt : Int)) (kt : (¬ x = 0) → zz K cc F kc ks tgt lv st μ) (kf : (x = 0) → zz K cc F kc ks (pc + 3) lv st μ) : zz K cc F kc ks pc lv (.int x :: st) μ := by
  obtain ⟨p, l, e, s, m, args, below, meth, c, G⟩ := K
  obtain ⟨nL, own, rt, d0, mc, ms, rv, μ'⟩ := F
  intro C H locs ls hR hS hl
  obtain ⟨hx, hb, hml, hown, hts, hr, hlk, hK⟩ := id C
  exact lv_if_ne hx hb dg ht (fun h => kt h C H locs ls hR hS hl) (fun h => kf h C H locs ls hR hS hl)
theorem zr_if_lt {K : zKT} {cc : ByteArray} {F : zFT} {kc ks pc : Nat} {lv : List (Nat × Value)} {st : List Value} {μ : zM} {x : Int32} {off : Int} (tgt : Nat) (dg : decode cc pc = .ok (.ifCond .lt off, 3)) (ht : (pc : Int) + off = (tgt : Int)) (kt : (x < 0) → zz K cc F kc ks tgt lv st μ) (kf : (¬ x < 0) → zz K cc F kc ks (pc + 3) lv st μ) : zz K cc F kc ks pc lv (.int x :: st) μ := by
  obtain ⟨p, l, e, s, m, args, below, meth, c, G⟩ := K
  obtain ⟨nL, own, rt, d0, mc, ms, rv, μ'⟩ := F
  intro C H locs ls hR hS hl
  obtain ⟨hx, hb, hml, hown, hts, hr, hlk, hK⟩ := id C
  exact lv_if_lt hx hb dg ht (fun h => kt h C H locs ls hR hS hl) (fun h => kf h C H locs ls hR hS hl)
theorem zr_if_ge {K : zKT} {cc : ByteArray} {F : zFT} {kc ks pc : Nat} {lv : List (Nat × Value)} {st : List Value} {μ : zM} {x : Int32} {off : Int} (tgt : Nat) (dg : decode cc pc = .ok (.ifCond .ge off, 3)) (ht : (pc : Int) + off = (tgt : Int)) (kt : (0 ≤ x) → zz K cc F kc ks tgt lv st μ) (kf : (¬ 0 ≤ x) → zz K cc F kc ks (pc + 3) lv st μ) : zz K cc F kc ks pc lv (.int x :: st) μ := by
  obtain ⟨p, l, e, s, m, args, below, meth, c, G⟩ := K
  obtain ⟨nL, own, rt, d0, mc, ms, rv, μ'⟩ := F
  intro C H locs ls hR hS hl
  obtain ⟨hx, hb, hml, hown, hts, hr, hlk, hK⟩ := id C
  exact lv_if_ge hx hb dg ht (fun h => kt h C H locs ls hR hS hl) (fun h => kf h C H locs ls hR hS hl)
theorem zr_if_gt {K : zKT} {cc : ByteArray} {F : zFT} {kc ks pc : Nat} {lv : List (Nat × Value)} {st : List Value} {μ : zM} {x : Int32} {off : Int} (tgt : Nat) (dg : decode cc pc = .ok (.ifCond .gt off, 3)) (ht : (pc : Int) + off = (tgt : Int)) (kt : (0 < x) → zz K cc F kc ks tgt lv st μ) (kf : (¬ 0 < x) → zz K cc F kc ks (pc + 3) lv st μ) : zz K cc F kc ks pc lv (.int x :: st) μ := by
  obtain ⟨p, l, e, s, m, args, below, meth, c, G⟩ := K
  obtain ⟨nL, own, rt, d0, mc, ms, rv, μ'⟩ := F
  intro C H locs ls hR hS hl
  obtain ⟨hx, hb, hml, hown, hts, hr, hlk, hK⟩ := id C
  exact lv_if_gt hx hb dg ht (fun h => kt h C H locs ls hR hS hl) (fun h => kf h C H locs ls hR hS hl)
theorem zr_if_le {K : zKT} {cc : ByteArray} {F : zFT} {kc ks pc : Nat} {lv : List (Nat × Value)} {st : List Value} {μ : zM} {x : Int32} {off : Int} (tgt : Nat) (dg : decode cc pc = .ok (.ifCond .le off, 3)) (ht : (pc : Int) + off = (tgt : Int)) (kt : (x ≤ 0) → zz K cc F kc ks tgt lv st μ) (kf : (¬ x ≤ 0) → zz K cc F kc ks (pc + 3) lv st μ) : zz K cc F kc ks pc lv (.int x :: st) μ := by
  obtain ⟨p, l, e, s, m, args, below, meth, c, G⟩ := K
  obtain ⟨nL, own, rt, d0, mc, ms, rv, μ'⟩ := F
  intro C H locs ls hR hS hl
  obtain ⟨hx, hb, hml, hown, hts, hr, hlk, hK⟩ := id C
  exact lv_if_le hx hb dg ht (fun h => kt h C H locs ls hR hS hl) (fun h => kf h C H locs ls hR hS hl)
theorem zr_icmp_eq {K : zKT} {cc : ByteArray} {F : zFT} {kc ks pc : Nat} {lv : List (Nat × Value)} {st : List Value} {μ : zM} {x y : Int32} {off : Int} (tgt : Nat) (dg : decode cc pc = .ok (.if_icmp .eq off, 3)) (ht : (pc : Int) + off = (tgt : Int)) (kt : (x = y) → zz K cc F kc ks tgt lv st μ) (kf : (¬ x = y) → zz K cc F kc ks (pc + 3) lv st μ) : zz K cc F kc ks pc lv (.int y :: .int x :: st) μ := by
  obtain ⟨p, l, e, s, m, args, below, meth, c, G⟩ := K
  obtain ⟨nL, own, rt, d0, mc, ms, rv, μ'⟩ := F
  intro C H locs ls hR hS hl
  obtain ⟨hx, hb, hml, hown, hts, hr, hlk, hK⟩ := id C
  exact lv_icmp_eq hx hb dg ht (fun h => kt h C H locs ls hR hS hl) (fun h => kf h C H locs ls hR hS hl)
theorem zr_icmp_ne {K : zKT} {cc : ByteArray} {F : zFT} {kc ks pc : Nat} {lv : List (Nat × Value)} {st : List Value} {μ : zM} {x y : Int32} {off : Int} (tgt : Nat) (dg : decode cc pc = .ok (.if_icmp .ne off, 3)) (ht : (pc : Int) + off = (tgt : Int)) (kt : (¬ x = y) → zz K cc F kc ks tgt lv st μ) (kf : (x = y) → zz K cc F kc ks (pc + 3) lv st μ) : zz K cc F kc ks pc lv (.int y :: .int x :: st) μ := by
  obtain ⟨p, l, e, s, m, args, below, meth, c, G⟩ := K
  obtain ⟨nL, own, rt, d0, mc, ms, rv, μ'⟩ := F
  intro C H locs ls hR hS hl
  obtain ⟨hx, hb, hml, hown, hts, hr, hlk, hK⟩ := id C
  exact lv_icmp_ne hx hb dg ht (fun h => kt h C H locs ls hR hS hl) (fun h => kf h C H locs ls hR hS hl)
theorem zr_icmp_lt {K : zKT} {cc : ByteArray} {F : zFT} {kc ks pc : Nat} {lv : List (Nat × Value)} {st : List Value} {μ : zM} {x y : Int32} {off : Int} (tgt : Nat) (dg : decode cc pc = .ok (.if_icmp .lt off, 3)) (ht : (pc : Int) + off = (tgt : Int)) (kt : (x < y) → zz K cc F kc ks tgt lv st μ) (kf : (¬ x < y) → zz K cc F kc ks (pc + 3) lv st μ) : zz K cc F kc ks pc lv (.int y :: .int x :: st) μ := by
  obtain ⟨p, l, e, s, m, args, below, meth, c, G⟩ := K
  obtain ⟨nL, own, rt, d0, mc, ms, rv, μ'⟩ := F
  intro C H locs ls hR hS hl
  obtain ⟨hx, hb, hml, hown, hts, hr, hlk, hK⟩ := id C
  exact lv_icmp_lt hx hb dg ht (fun h => kt h C H locs ls hR hS hl) (fun h => kf h C H locs ls hR hS hl)
theorem zr_icmp_ge {K : zKT} {cc : ByteArray} {F : zFT} {kc ks pc : Nat} {lv : List (Nat × Value)} {st : List Value} {μ : zM} {x y : Int32} {off : Int} (tgt : Nat) (dg : decode cc pc = .ok (.if_icmp .ge off, 3)) (ht : (pc : Int) + off = (tgt : Int)) (kt : (y ≤ x) → zz K cc F kc ks tgt lv st μ) (kf : (¬ y ≤ x) → zz K cc F kc ks (pc + 3) lv st μ) : zz K cc F kc ks pc lv (.int y :: .int x :: st) μ := by
  obtain ⟨p, l, e, s, m, args, below, meth, c, G⟩ := K
  obtain ⟨nL, own, rt, d0, mc, ms, rv, μ'⟩ := F
  intro C H locs ls hR hS hl
  obtain ⟨hx, hb, hml, hown, hts, hr, hlk, hK⟩ := id C
  exact lv_icmp_ge hx hb dg ht (fun h => kt h C H locs ls hR hS hl) (fun h => kf h C H locs ls hR hS hl)
theorem zr_icmp_gt {K : zKT} {cc : ByteArray} {F : zFT} {kc ks pc : Nat} {lv : List (Nat × Value)} {st : List Value} {μ : zM} {x y : Int32} {off : Int} (tgt : Nat) (dg : decode cc pc = .ok (.if_icmp .gt off, 3)) (ht : (pc : Int) + off = (tgt : Int)) (kt : (y < x) → zz K cc F kc ks tgt lv st μ) (kf : (¬ y < x) → zz K cc F kc ks (pc + 3) lv st μ) : zz K cc F kc ks pc lv (.int y :: .int x :: st) μ := by
  obtain ⟨p, l, e, s, m, args, below, meth, c, G⟩ := K
  obtain ⟨nL, own, rt, d0, mc, ms, rv, μ'⟩ := F
  intro C H locs ls hR hS hl
  obtain ⟨hx, hb, hml, hown, hts, hr, hlk, hK⟩ := id C
  exact lv_icmp_gt hx hb dg ht (fun h => kt h C H locs ls hR hS hl) (fun h => kf h C H locs ls hR hS hl)
theorem zr_icmp_le {K : zKT} {cc : ByteArray} {F : zFT} {kc ks pc : Nat} {lv : List (Nat × Value)} {st : List Value} {μ : zM} {x y : Int32} {off : Int} (tgt : Nat) (dg : decode cc pc = .ok (.if_icmp .le off, 3)) (ht : (pc : Int) + off = (tgt : Int)) (kt : (x ≤ y) → zz K cc F kc ks tgt lv st μ) (kf : (¬ x ≤ y) → zz K cc F kc ks (pc + 3) lv st μ) : zz K cc F kc ks pc lv (.int y :: .int x :: st) μ := by
  obtain ⟨p, l, e, s, m, args, below, meth, c, G⟩ := K
  obtain ⟨nL, own, rt, d0, mc, ms, rv, μ'⟩ := F
  intro C H locs ls hR hS hl
  obtain ⟨hx, hb, hml, hown, hts, hr, hlk, hK⟩ := id C
  exact lv_icmp_le hx hb dg ht (fun h => kt h C H locs ls hR hS hl) (fun h => kf h C H locs ls hR hS hl)
theorem zr_ifnull_r {K : zKT} {cc : ByteArray} {F : zFT} {kc ks pc : Nat} {lv : List (Nat × Value)} {st : List Value} {μ : zM} {x : Nat} {off : Int} (dg : decode cc pc = .ok (.ifnull off, 3)) (k : zz K cc F kc ks (pc + 3) lv (st) μ) : zz K cc F kc ks pc lv (.ref x :: st) μ := by
  obtain ⟨p, l, e, s, m, args, below, meth, c, G⟩ := K
  obtain ⟨nL, own, rt, d0, mc, ms, rv, μ'⟩ := F
  intro C H locs ls hR hS hl
  obtain ⟨hx, hb, hml, hown, hts, hr, hlk, hK⟩ := id C
  exact lv_ifnull hx hb dg (k C H locs ls hR hS hl)
theorem zr_ifnull_n {K : zKT} {cc : ByteArray} {F : zFT} {kc ks pc : Nat} {lv : List (Nat × Value)} {st : List Value} {μ : zM} {off : Int} (tgt : Nat) (dg : decode cc pc = .ok (.ifnull off, 3)) (ht : (pc : Int) + off = (tgt : Int)) (k : zz K cc F kc ks (tgt) lv (st) μ) : zz K cc F kc ks pc lv (.null :: st) μ := by
  obtain ⟨p, l, e, s, m, args, below, meth, c, G⟩ := K
  obtain ⟨nL, own, rt, d0, mc, ms, rv, μ'⟩ := F
  intro C H locs ls hR hS hl
  obtain ⟨hx, hb, hml, hown, hts, hr, hlk, hK⟩ := id C
  exact lv_ifnullN hx hb dg ht (k C H locs ls hR hS hl)
theorem zr_ifnonnull_r {K : zKT} {cc : ByteArray} {F : zFT} {kc ks pc : Nat} {lv : List (Nat × Value)} {st : List Value} {μ : zM} {x : Nat} {off : Int} (tgt : Nat) (dg : decode cc pc = .ok (.ifnonnull off, 3)) (ht : (pc : Int) + off = (tgt : Int)) (k : zz K cc F kc ks (tgt) lv (st) μ) : zz K cc F kc ks pc lv (.ref x :: st) μ := by
  obtain ⟨p, l, e, s, m, args, below, meth, c, G⟩ := K
  obtain ⟨nL, own, rt, d0, mc, ms, rv, μ'⟩ := F
  intro C H locs ls hR hS hl
  obtain ⟨hx, hb, hml, hown, hts, hr, hlk, hK⟩ := id C
  exact lv_ifnonnull hx hb dg ht (k C H locs ls hR hS hl)
theorem zr_ifnonnull_n {K : zKT} {cc : ByteArray} {F : zFT} {kc ks pc : Nat} {lv : List (Nat × Value)} {st : List Value} {μ : zM} {off : Int} (dg : decode cc pc = .ok (.ifnonnull off, 3)) (k : zz K cc F kc ks (pc + 3) lv (st) μ) : zz K cc F kc ks pc lv (.null :: st) μ := by
  obtain ⟨p, l, e, s, m, args, below, meth, c, G⟩ := K
  obtain ⟨nL, own, rt, d0, mc, ms, rv, μ'⟩ := F
  intro C H locs ls hR hS hl
  obtain ⟨hx, hb, hml, hown, hts, hr, hlk, hK⟩ := id C
  exact lv_ifnonnullN hx hb dg (k C H locs ls hR hS hl)
theorem zr_tableOut {K : zKT} {cc : ByteArray} {F : zFT} {kc ks pc : Nat} {lv : List (Nat × Value)} {st : List Value} {μ : zM} {dflt lo hi : Int} {offs : Array Int} {len : Nat} {x : Int32} (tgt : Nat) (dg : decode cc pc = .ok (.tableswitch dflt lo hi offs, len)) (h : x.toInt < lo ∨ hi < x.toInt) (ht : (pc : Int) + dflt = (tgt : Int)) (k : zz K cc F kc ks (tgt) lv (st) μ) : zz K cc F kc ks pc lv (.int x :: st) μ := by
  obtain ⟨p, l, e, s, m, args, below, meth, c, G⟩ := K
  obtain ⟨nL, own, rt, d0, mc, ms, rv, μ'⟩ := F
  intro C H locs ls hR hS hl
  obtain ⟨hx, hb, hml, hown, hts, hr, hlk, hK⟩ := id C
  exact lv_tableOut hx hb dg h ht (k C H locs ls hR hS hl)
theorem zr_tableIn {K : zKT} {cc : ByteArray} {F : zFT} {kc ks pc : Nat} {lv : List (Nat × Value)} {st : List Value} {μ : zM} {dflt lo hi : Int} {offs : Array Int} {len : Nat} {x : Int32} {off : Int} (tgt : Nat) (dg : decode cc pc = .ok (.tableswitch dflt lo hi offs, len)) (h1 : ¬ x.toInt < lo) (h2 : ¬ hi < x.toInt) (ho : offs[(x.toInt - lo).toNat]? = some off) (ht : (pc : Int) + off = (tgt : Int)) (k : zz K cc F kc ks (tgt) lv (st) μ) : zz K cc F kc ks pc lv (.int x :: st) μ := by
  obtain ⟨p, l, e, s, m, args, below, meth, c, G⟩ := K
  obtain ⟨nL, own, rt, d0, mc, ms, rv, μ'⟩ := F
  intro C H locs ls hR hS hl
  obtain ⟨hx, hb, hml, hown, hts, hr, hlk, hK⟩ := id C
  exact lv_tableIn hx hb dg h1 h2 ho ht (k C H locs ls hR hS hl)
theorem zr_lv {K : zKT} {cc : ByteArray} {F : zFT} {kc ks pc : Nat} {lv : List (Nat × Value)} {st : List Value} {μ : zM} {lv' : List (Nat × Value)} (is : List Nat) (h : lv_pick lv is = lv') (k : zz K cc F kc ks pc lv' st μ) : zz K cc F kc ks pc lv st μ := by
  obtain ⟨p, l, e, s, m, args, below, meth, c, G⟩ := K
  obtain ⟨nL, own, rt, d0, mc, ms, rv, μ'⟩ := F
  intro C H locs ls hR hS hl
  obtain ⟨hx, hb, hml, hown, hts, hr, hlk, hK⟩ := id C
  exact k C H locs ls hR hS (lv_sub hl is h)
theorem zr_widen {K : zKT} {cc : ByteArray} {F : zFT} {kc ks pc : Nat} {lv : List (Nat × Value)} {st : List Value} {μ : zM} {k n : Nat} (h1 : kc ≤ k) (h2 : ks ≤ n) (kk : zz K cc F k n pc lv st μ) : zz K cc F kc ks pc lv st μ := by
  obtain ⟨p, l, e, s, m, args, below, meth, c, G⟩ := K
  obtain ⟨nL, own, rt, d0, mc, ms, rv, μ'⟩ := F
  intro C H locs ls hR hS hl
  obtain ⟨hx, hb, hml, hown, hts, hr, hlk, hK⟩ := id C
  exact W.widen h1 h2 (kk C H locs ls hR hS hl)
theorem zr_iret {K : zKT} {cc : ByteArray} {nL pc : Nat} {own : String} {d0 mc ms : Nat} {lv : List (Nat × Value)} {μ : zM} {v : Int32} (dg : decode cc pc = .ok (.ireturn, 1)) : zz K cc (nL, own, some .int, d0, mc, ms, some (.int v), μ) mc ms pc lv ([.int v]) μ := by
  obtain ⟨p, l, e, s, m, args, below, meth, c, G⟩ := K
  intro C H locs ls hR hS hl
  obtain ⟨hx, hb, hml, hown, hts, hr, hlk, hK⟩ := id C
  exact W.iret hx hb hr (fun t ht hW => ⟨rfl, by rw [ht]; exact hR.moved hW.alike, hS.F ht⟩) hS.2.2 dg hlk
theorem zr_zret {K : zKT} {cc : ByteArray} {nL pc : Nat} {own : String} {d0 mc ms : Nat} {lv : List (Nat × Value)} {μ : zM} {v : Int32} {ty : FieldType} (hn : narrow ty (.int v) = .int v) (dg : decode cc pc = .ok (.ireturn, 1)) : zz K cc (nL, own, some ty, d0, mc, ms, some (.int v), μ) mc ms pc lv ([.int v]) μ := by
  obtain ⟨p, l, e, s, m, args, below, meth, c, G⟩ := K
  intro C H locs ls hR hS hl
  obtain ⟨hx, hb, hml, hown, hts, hr, hlk, hK⟩ := id C
  exact W.zret hx hb hr hn (fun t ht hW => ⟨rfl, by rw [ht]; exact hR.moved hW.alike, hS.F ht⟩) hS.2.2 dg hlk
theorem zr_lret {K : zKT} {cc : ByteArray} {nL pc : Nat} {own : String} {d0 mc ms : Nat} {lv : List (Nat × Value)} {μ : zM} {v : Int64} (dg : decode cc pc = .ok (.lreturn, 1)) : zz K cc (nL, own, some .long, d0, mc, ms, some (.long v), μ) mc ms pc lv ([.long v]) μ := by
  obtain ⟨p, l, e, s, m, args, below, meth, c, G⟩ := K
  intro C H locs ls hR hS hl
  obtain ⟨hx, hb, hml, hown, hts, hr, hlk, hK⟩ := id C
  exact W.lret hx hb hr (fun t ht hW => ⟨rfl, by rw [ht]; exact hR.moved hW.alike, hS.F ht⟩) hS.2.2 dg hlk
theorem zr_vret {K : zKT} {cc : ByteArray} {nL pc : Nat} {own : String} {d0 mc ms : Nat} {lv : List (Nat × Value)} {μ : zM} (dg : decode cc pc = .ok (.return_, 1)) : zz K cc (nL, own, none, d0, mc, ms, none, μ) mc ms pc lv [] μ := by
  obtain ⟨p, l, e, s, m, args, below, meth, c, G⟩ := K
  intro C H locs ls hR hS hl
  obtain ⟨hx, hb, hml, hown, hts, hr, hlk, hK⟩ := id C
  exact W.vret hx hb hr (fun t ht hW => ⟨rfl, by rw [ht]; exact hR.moved hW.alike, hS.F ht⟩) hS.2.2 dg hlk
