/-! calls, and cells that are made -/
/-- a text: is it one; its row of bytes -/
def zm_cks (μ : zM) (a : Nat) : Bool := (List.range 18).any (fun i => μ.2.2 (10 + i) == a)
def zm_str (μ : zM) (a : Nat) : Option Nat := ((List.range 18).find? (fun i => μ.2.2 (10 + i) == a)).map (fun i => μ.2.2 (100 + i))
theorem zm_cks_some {μ : zM} {a : Nat} (h : zm_cks μ a = true) : ∃ i, i < 18 ∧ μ.2.2 (10 + i) = a := by
  obtain ⟨i, h1, h2⟩ := List.any_eq_true.mp h
  exact ⟨i, List.mem_range.mp h1, beq_iff_eq.mp h2⟩
theorem zm_str_some {μ : zM} {a v : Nat} (h : zm_str μ a = some v) : ∃ i, i < 18 ∧ μ.2.2 (10 + i) = a ∧ μ.2.2 (100 + i) = v := by
  unfold zm_str at h
  cases hq : (List.range 18).find? (fun i => μ.2.2 (10 + i) == a) with
  | none => rw [hq] at h; cases h
  | some i =>
    rw [hq] at h
    exact ⟨i, List.mem_range.mp (List.mem_of_find?_eq_some hq), (by have e := List.find?_some hq; exact beq_iff_eq.mp e), Option.some.inj h⟩
section
variable {p : Program} {l : Launch} {e : Env} {R : Room} {s : State} {m : MethodId} {args : Array Value} {below : List Frame} {meth : Method} {c : Code} {H : Heap} {locs : List Loc} {Q : State → Prop}
theorem zw_run {G : zG} {μ1 : zM} {rv1 : Option Value} {kc ks mc1 ms1 pc : Nat} {ls : Array Slot} {st0 rest : List Value}
    (hr : va_Run p l e R s m args below meth c H locs kc ks mc1 ms1 (F0 m pc ls st0) rest (fun st oc t => oc = .returned rv1 ∧ zR G μ1 t t.heap ∧ va_F (zA G) st t) (zA G)) (hS : va_S (zA G) s.heap H locs)
    (kk : ∀ (H1 : Heap) (locs1 : List Loc), zR G μ1 s H1 → va_S (zA G) s.heap H1 locs1 → W p l e R s m args below meth c H1 locs1 (kc + mc1) (ks + ms1) Q (F0 m (pc + 3) ls (rv1.toList ++ rest))) : W p l e R s m args below meth c H locs kc ks Q (F0 m pc ls st0) := by
  intro T hT X
  obtain ⟨v, st₀, t, T', L, h0, X', hL, e1, e2, ⟨hv, hR1, hz, hk⟩, st⟩ := hr T hT X
  cases hv
  rw [h0] at hz hk
  have hal : s.vm.Alike t.vm := by rw [← e2]; exact X'.warmed.alike
  obtain ⟨t2, a1, b1⟩ := kk T'.heap (locs ++ L) (by rw [e1]; exact hR1.moved hal.symm)
    ⟨Nat.le_trans hS.1 (by rw [e1]; exact hz), fun q h1 h2 => by rw [e1, hk q (Nat.lt_of_lt_of_le h1 hS.1) h2]; exact hS.2.1 q h1 h2, fun q hq => by
      rcases List.mem_append.mp hq with h | h
      · exact hS.2.2 q h
      · exact hL q h⟩ T' rfl X'
  exact ⟨t2, st t2 a1, b1⟩
end
theorem zpc_blind {G : zG} {μ : zM} {av : List Value} : FrameBlind (va_Pc av (fun U => zR G μ U U.heap ∧ zK G U)) := fun a U g mk q => by
  obtain ⟨q0, qR, qK⟩ := q
  exact ⟨q0, zR.moved (u := U) (U := U.calling g mk a) (Vm.Alike.refl U.vm) qR, qK.calling⟩
def zok (y : MethodName) (n : Nat) : Prop := y.cls ≠ "java/lang/invoke/MethodHandle" ∧ y.cls ≠ "java/lang/invoke/VarHandle" ∧ (parseMethodDescriptor y.desc).map (fun d => d.parameters.length) = some n
/-- what the tables say of a method: its code, its class is ready; n parameters -/
def zvS (y : MethodName) (bytes : ByteArray) (maxL : Nat) (rt : Option FieldType) (n : Nat) : Prop := Cond.code y bytes maxL rt ∈ zt ∧ Cond.initialized y.cls ∈ zt ∧ zok y n ∧ maxL ≤ 22
section
variable {K : zKT} {cc : ByteArray} {F : zFT} {kc ks pc : Nat} {lv : List (Nat × Value)} {st : List Value} {μ μ1 : zM}
variable {y : MethodName} {bytes : ByteArray} {maxL d mc1 ms1 n ix : Nat} {rt : Option FieldType} {b : Nat} {rv1 : Option Value}
theorem zr_callV {ci : Nat} {q : vw_C} (As : List Value) (hM : zC y bytes maxL rt d mc1 ms1 (.ref b :: As) μ rv1 μ1) (hv : zvS y bytes maxL rt n) (hin : Cond.instanceMethod y ∈ zt) (hse : Cond.selects y.cls y y ∈ zt) (hck : zm_ck μ ci b = true) (hq : zcl[ci]? = some q) (hC : y.cls = q.1) (hl : Cond.methodLink F.2.1 ix y ∈ zt) (hn : As.length = n) (hd : d + 1 ≤ F.2.2.2.1) (hm1 : kc + mc1 ≤ F.2.2.2.2.1) (hm2 : ks + ms1 ≤ F.2.2.2.2.2.1) (hst : (st.map fun v => v.category).sum ≤ 8) (dg : decode cc pc = .ok (.invokevirtual ix, 3))
    {st0 : List Value} (hs0 : As.reverse ++ .ref b :: st = st0) (kk : zz K cc F (kc + mc1) (ks + ms1) (pc + 3) lv (rv1.toList ++ st) μ1) : zz K cc F kc ks pc lv st0 μ := by
  subst hs0
  obtain ⟨p, l, e, s, m, args, below, meth, c, G⟩ := K
  obtain ⟨nL, own, rt0, d0, mc, ms, rv, μ'⟩ := F
  intro C H locs ls hR hS hlv
  obtain ⟨hx, hb, hml, hown, hts, hr, hlk, hK⟩ := id C
  obtain ⟨fs, h4⟩ := zm_ck_some hck
  obtain ⟨v1, v2, v3, v4⟩ := hv
  have hrec := va_recv (s := s) hK.1 (hR.at h4 rfl) hq (q0 := 0) rfl
  rw [← hC] at hrec
  have cw : CallW (zrm d0 mc ms) s args own y.cls ix y bytes maxL rt (.code y bytes maxL rt :: zt) (zrm d mc1 ms1) mc1 ms1 n :=
    ⟨callB_of n hts (zt_good v1) rfl rfl rfl (hts _ v2) (hts _ hl) v3 ⟨hd, by show 8 + (maxL + 11) + (41 * d + 32) ≤ 41 * d0 + 32; have : d + 1 ≤ d0 := hd; omega⟩, hts _ hin, hts _ hse⟩
  exact zw_run (va_runV ⟨hx, hb, hml, hown, hts⟩ (hM l G) cw ⟨zpc_blind, hrec, fun U hU hW => ⟨rfl, by rw [hU]; exact hR.moved hW.alike, hK.warm hW⟩⟩ rfl hn hlv.1 rfl (lv_room hst) dg ⟨hm1, hm2⟩) hS (fun H1 locs1 hR1 hS1 => kk C H1 locs1 ls hR1 hS1 hlv)
theorem zr_callVS (As : List Value) (hM : zC y bytes maxL rt d mc1 ms1 (.ref b :: As) μ rv1 μ1) (hv : zvS y bytes maxL rt n) (hin : Cond.instanceMethod y ∈ zt) (hse : Cond.selects y.cls y y ∈ zt) (hck : zm_cks μ b = true) (hC : y.cls = "java/lang/String") (hl : Cond.methodLink F.2.1 ix y ∈ zt) (hn : As.length = n) (hd : d + 1 ≤ F.2.2.2.1) (hm1 : kc + mc1 ≤ F.2.2.2.2.1) (hm2 : ks + ms1 ≤ F.2.2.2.2.2.1) (hst : (st.map fun v => v.category).sum ≤ 8) (dg : decode cc pc = .ok (.invokevirtual ix, 3))
    {st0 : List Value} (hs0 : As.reverse ++ .ref b :: st = st0) (kk : zz K cc F (kc + mc1) (ks + ms1) (pc + 3) lv (rv1.toList ++ st) μ1) : zz K cc F kc ks pc lv st0 μ := by
  subst hs0
  obtain ⟨p, l, e, s, m, args, below, meth, c, G⟩ := K
  obtain ⟨nL, own, rt0, d0, mc, ms, rv, μ'⟩ := F
  intro C H locs ls hR hS hlv
  obtain ⟨hx, hb, hml, hown, hts, hr, hlk, hK⟩ := id C
  obtain ⟨ii, hi, h4⟩ := zm_cks_some hck
  obtain ⟨v1, v2, v3, v4⟩ := hv
  rw [hR.2.2.2.1] at h4
  subst h4
  obtain ⟨⟨cell, t1, t2, t3, -⟩, -⟩ := hR.2.2.2.2.2.2.2 ii hi
  have cw : CallW (zrm d0 mc ms) s args own y.cls ix y bytes maxL rt (.code y bytes maxL rt :: zt) (zrm d mc1 ms1) mc1 ms1 n :=
    ⟨callB_of n hts (zt_good v1) rfl rfl rfl (hts _ v2) (hts _ hl) v3 ⟨hd, by show 8 + (maxL + 11) + (41 * d + 32) ≤ 41 * d0 + 32; have : d + 1 ≤ d0 := hd; omega⟩, hts _ hin, hts _ hse⟩
  exact zw_run (va_runV ⟨hx, hb, hml, hown, hts⟩ (hM l G) cw ⟨zpc_blind, ⟨cell, t1, t2, by rw [hC]; exact t3⟩, fun U hU hW => ⟨rfl, by rw [hU]; exact hR.moved hW.alike, hK.warm hW⟩⟩ rfl hn hlv.1 rfl (lv_room hst) dg ⟨hm1, hm2⟩) hS (fun H1 locs1 hR1 hS1 => kk C H1 locs1 ls hR1 hS1 hlv)
theorem zr_strV {a v : Nat} (hv : zm_str μ a = some v) (hl : Cond.fieldLink F.2.1 ix "java/lang/String" "value" "[B" ∈ zt) (dg : decode cc pc = .ok (.getfield ix, 3)) (kk : zz K cc F kc ks (pc + 3) lv (.ref v :: st) μ) : zz K cc F kc ks pc lv (.ref a :: st) μ := by
  obtain ⟨p, l, e, s, m, args, below, meth, c, G⟩ := K
  obtain ⟨nL, own, rt0, d0, mc, ms, rv, μ'⟩ := F
  intro C H locs ls hR hS hlv
  obtain ⟨hx, hb, hml, hown, hts, hr, hlk, hK⟩ := id C
  obtain ⟨ii, hi, h4, h5⟩ := zm_str_some hv
  rw [hR.2.2.2.1] at h4 h5
  subst h4
  subst h5
  obtain ⟨-, -, cf, k, fi, f, cell, g1, g2, g3, g4, g5, g6⟩ := hR.2.2.2.2.2.2.2 ii hi
  exact W.getf hx hb hown (hts _ hl) g1 g2 g3 g4 g5 rfl rfl dg (kk C H locs ls hR hS hlv)
theorem zr_strC {a : Nat} (hv : zm_cks μ a = true) (hl : Cond.fieldLink F.2.1 ix "java/lang/String" "coder" "B" ∈ zt) (dg : decode cc pc = .ok (.getfield ix, 3)) (kk : zz K cc F kc ks (pc + 3) lv (.int 0 :: st) μ) : zz K cc F kc ks pc lv (.ref a :: st) μ := by
  obtain ⟨p, l, e, s, m, args, below, meth, c, G⟩ := K
  obtain ⟨nL, own, rt0, d0, mc, ms, rv, μ'⟩ := F
  intro C H locs ls hR hS hlv
  obtain ⟨hx, hb, hml, hown, hts, hr, hlk, hK⟩ := id C
  obtain ⟨ii, hi, h4⟩ := zm_cks_some hv
  rw [hR.2.2.2.1] at h4
  subst h4
  obtain ⟨-, ⟨cf, k, fi, f, cell, g1, g2, g3, g4, g5, g6⟩, -⟩ := hR.2.2.2.2.2.2.2 ii hi
  exact W.getf hx hb hown (hts _ hl) g1 g2 g3 g4 (v := .int 0) g5 rfl rfl dg (kk C H locs ls hR hS hlv)
theorem zr_ldcS {i : Nat} (hi : i < 18) (ho : F.2.1 = "TwoEchoes$Reader") (dg : decode cc pc = .ok (.ldc (zsi i).1, 2)) (kk : zz K cc F kc ks (pc + 2) lv (.ref (μ.2.2 (10 + i)) :: st) μ) : zz K cc F kc ks pc lv st μ := by
  obtain ⟨p, l, e, s, m, args, below, meth, c, G⟩ := K
  obtain ⟨nL, own, rt0, d0, mc, ms, rv, μ'⟩ := F
  intro C H locs ls hR hS hlv
  obtain ⟨hx, hb, hml, hown, hts, hr, hlk, hK⟩ := id C
  rw [show μ.2.2 (10 + i) = G.2.2.2 (10 + i) from by rw [hR.2.2.2.1]] at kk
  exact va_ldcS hx hb (by rw [show own = "TwoEchoes$Reader" from ho] at hown; exact hown) (hK.2.2.2.2 i hi) dg (kk C H locs ls hR hS hlv)
theorem zr_getCS (hl : Cond.fieldLink F.2.1 ix "java/lang/String" "COMPACT_STRINGS" "Z" ∈ zt) (dg : decode cc pc = .ok (.getstatic ix, 3)) (kk : zz K cc F kc ks (pc + 3) lv (.int 1 :: st) μ) : zz K cc F kc ks pc lv st μ := by
  obtain ⟨p, l, e, s, m, args, below, meth, c, G⟩ := K
  obtain ⟨nL, own, rt0, d0, mc, ms, rv, μ'⟩ := F
  intro C H locs ls hR hS hlv
  obtain ⟨hx, hb, hml, hown, hts, hr, hlk, hK⟩ := id C
  obtain ⟨cf, kf, fi, f, a, cell, h1, h2, h3, h4, h5, h6, h7, h8⟩ := hR.2.2.2.2.2.1
  exact W.gets hx hb hown (hts _ hl) h1 h2 h3 h4 h5 (fun e => by rw [e] at h6; cases h6) h7 rfl dg (kk C H locs ls hR hS hlv)
theorem zr_getFM (hl : Cond.fieldLink F.2.1 ix "jdk/internal/util/Preconditions" "SIOOBE_FORMATTER" "Ljava/util/function/BiFunction;" ∈ zt) (dg : decode cc pc = .ok (.getstatic ix, 3)) (kk : zz K cc F kc ks (pc + 3) lv (va_rf (zfm μ.2.2) :: st) μ) : zz K cc F kc ks pc lv st μ := by
  obtain ⟨p, l, e, s, m, args, below, meth, c, G⟩ := K
  obtain ⟨nL, own, rt0, d0, mc, ms, rv, μ'⟩ := F
  intro C H locs ls hR hS hlv
  obtain ⟨hx, hb, hml, hown, hts, hr, hlk, hK⟩ := id C
  rw [show zfm μ.2.2 = zfm G.2.2.2 from by rw [hR.2.2.2.1]] at kk
  obtain ⟨cf, kf, fi, f, a, cell, h1, h2, h3, h4, h5, h6, h7, h8⟩ := hR.2.2.2.2.2.2.1
  exact W.gets hx hb hown (hts _ hl) h1 h2 h3 h4 h5 (fun e => by rw [e] at h6; cases h6) h7 rfl dg (kk C H locs ls hR hS hlv)
theorem zr_callS (As : List Value) (hM : zC y bytes maxL rt d mc1 ms1 As μ rv1 μ1) (hv : zvS y bytes maxL rt n) (hstt : Cond.static y ∈ zt) (hl : Cond.methodLink F.2.1 ix y ∈ zt) (hn : As.length = n) (hd : d + 1 ≤ F.2.2.2.1) (hm1 : kc + mc1 ≤ F.2.2.2.2.1) (hm2 : ks + ms1 ≤ F.2.2.2.2.2.1) (hst : (st.map fun v => v.category).sum ≤ 8) (dg : decode cc pc = .ok (.invokestatic ix, 3))
    {st0 : List Value} (hs0 : As.reverse ++ st = st0) (kk : zz K cc F (kc + mc1) (ks + ms1) (pc + 3) lv (rv1.toList ++ st) μ1) : zz K cc F kc ks pc lv st0 μ := by
  subst hs0
  obtain ⟨p, l, e, s, m, args, below, meth, c, G⟩ := K
  obtain ⟨nL, own, rt0, d0, mc, ms, rv, μ'⟩ := F
  intro C H locs ls hR hS hlv
  obtain ⟨hx, hb, hml, hown, hts, hr, hlk, hK⟩ := id C
  obtain ⟨v1, v2, v3, v4⟩ := hv
  have cw : CallB (zrm d0 mc ms) s args own ix y bytes maxL rt (.code y bytes maxL rt :: zt) (zrm d mc1 ms1) mc1 ms1 n :=
    callB_of n hts (zt_good v1) rfl rfl rfl (hts _ v2) (hts _ hl) v3 ⟨hd, by show 8 + (maxL + 11) + (41 * d + 32) ≤ 41 * d0 + 32; have : d + 1 ≤ d0 := hd; omega⟩
  exact zw_run (va_runS ⟨hx, hb, hml, hown, hts⟩ (hM l G) ⟨cw, hts _ hstt⟩ ⟨zpc_blind, fun U hU hW => ⟨rfl, by rw [hU]; exact hR.moved hW.alike, hK.warm hW⟩⟩ rfl hn hlv.1 rfl (lv_room hst) dg ⟨hm1, hm2⟩) hS (fun H1 locs1 hR1 hS1 => kk C H1 locs1 ls hR1 hS1 hlv)
theorem zr_callSN {host : String} (As : List Value) (hM : zC y bytes maxL rt d mc1 ms1 As μ rv1 μ1) (hv : zvS y bytes maxL rt n) (hstt : Cond.static y ∈ zt) (hl : Cond.methodLinkNest F.2.1 ix y host ∈ zn) (hn : As.length = n) (hd : d + 1 ≤ F.2.2.2.1) (hm1 : kc + mc1 ≤ F.2.2.2.2.1) (hm2 : ks + ms1 ≤ F.2.2.2.2.2.1) (hst : (st.map fun v => v.category).sum ≤ 8) (dg : decode cc pc = .ok (.invokestatic ix, 3))
    {st0 : List Value} (hs0 : As.reverse ++ st = st0) (kk : zz K cc F (kc + mc1) (ks + ms1) (pc + 3) lv (rv1.toList ++ st) μ1) : zz K cc F kc ks pc lv st0 μ := by
  subst hs0
  obtain ⟨p, l, e, s, m, args, below, meth, c, G⟩ := K
  obtain ⟨nL, own, rt0, d0, mc, ms, rv, μ'⟩ := F
  intro C H locs ls hR hS hlv
  obtain ⟨hx, hb, hml, hown, hts, hr, hlk, hK⟩ := id C
  obtain ⟨v1, v2, v3, v4⟩ := hv
  have cw : va_CN (zrm d0 mc ms) s args own ix y host bytes maxL rt (.code y bytes maxL rt :: zt) (zrm d mc1 ms1) mc1 ms1 n :=
    va_cnB n hts (zt_good v1) rfl rfl rfl (hK.2.2.2.1 _ hl) (hts _ v2) v3 ⟨hd, by show 8 + (maxL + 11) + (41 * d + 32) ≤ 41 * d0 + 32; have : d + 1 ≤ d0 := hd; omega⟩
  exact zw_run (va_runSN ⟨hx, hb, hml, hown, hts⟩ (hM l G) ⟨cw, hts _ hstt, trivial⟩ ⟨zpc_blind, fun U hU hW => ⟨rfl, by rw [hU]; exact hR.moved hW.alike, hK.warm hW⟩⟩ rfl hn hlv.1 rfl (lv_room hst) dg ⟨hm1, hm2⟩) hS (fun H1 locs1 hR1 hS1 => kk C H1 locs1 ls hR1 hS1 hlv)
theorem zr_callI (As : List Value) (hM : zC y bytes maxL none d mc1 ms1 (.ref b :: As) μ rv1 μ1) (hv : zvS y bytes maxL none n) (hin : Cond.instanceMethod y ∈ zt) (hy : y.name = "<init>") (hl : Cond.methodLink F.2.1 ix y ∈ zt) (hn : As.length = n) (hd : d + 1 ≤ F.2.2.2.1) (hm1 : kc + mc1 ≤ F.2.2.2.2.1) (hm2 : ks + ms1 ≤ F.2.2.2.2.2.1) (hst : (st.map fun v => v.category).sum ≤ 8) (dg : decode cc pc = .ok (.invokespecial ix, 3))
    {st0 : List Value} (hs0 : As.reverse ++ .ref b :: st = st0) (kk : zz K cc F (kc + mc1) (ks + ms1) (pc + 3) lv (rv1.toList ++ st) μ1) : zz K cc F kc ks pc lv st0 μ := by
  subst hs0
  obtain ⟨p, l, e, s, m, args, below, meth, c, G⟩ := K
  obtain ⟨nL, own, rt0, d0, mc, ms, rv, μ'⟩ := F
  intro C H locs ls hR hS hlv
  obtain ⟨hx, hb, hml, hown, hts, hr, hlk, hK⟩ := id C
  obtain ⟨v1, v2, v3, v4⟩ := hv
  have cw : CallB (zrm d0 mc ms) s args own ix y bytes maxL none (.code y bytes maxL none :: zt) (zrm d mc1 ms1) mc1 ms1 n :=
    callB_of n hts (zt_good v1) rfl rfl rfl (hts _ v2) (hts _ hl) v3 ⟨hd, by show 8 + (maxL + 11) + (41 * d + 32) ≤ 41 * d0 + 32; have : d + 1 ≤ d0 := hd; omega⟩
  exact zw_run (va_runI ⟨hx, hb, hml, hown, hts⟩ (hM l G) ⟨cw, hy, hts _ hin⟩ ⟨zpc_blind, fun U hU hW => ⟨rfl, by rw [hU]; exact hR.moved hW.alike, hK.warm hW⟩⟩ rfl hn hlv.1 rfl (lv_room hst) dg ⟨hm1, hm2⟩) hS (fun H1 locs1 hR1 hS1 => kk C H1 locs1 ls hR1 hS1 hlv)
theorem zr_callIN {host : String} (As : List Value) (hM : zC y bytes maxL none d mc1 ms1 (.ref b :: As) μ rv1 μ1) (hv : zvS y bytes maxL none n) (hin : Cond.instanceMethod y ∈ zt) (hy : y.name = "<init>") (hl : Cond.methodLinkNest F.2.1 ix y host ∈ zn) (hn : As.length = n) (hd : d + 1 ≤ F.2.2.2.1) (hm1 : kc + mc1 ≤ F.2.2.2.2.1) (hm2 : ks + ms1 ≤ F.2.2.2.2.2.1) (hst : (st.map fun v => v.category).sum ≤ 8) (dg : decode cc pc = .ok (.invokespecial ix, 3))
    {st0 : List Value} (hs0 : As.reverse ++ .ref b :: st = st0) (kk : zz K cc F (kc + mc1) (ks + ms1) (pc + 3) lv (rv1.toList ++ st) μ1) : zz K cc F kc ks pc lv st0 μ := by
  subst hs0
  obtain ⟨p, l, e, s, m, args, below, meth, c, G⟩ := K
  obtain ⟨nL, own, rt0, d0, mc, ms, rv, μ'⟩ := F
  intro C H locs ls hR hS hlv
  obtain ⟨hx, hb, hml, hown, hts, hr, hlk, hK⟩ := id C
  obtain ⟨v1, v2, v3, v4⟩ := hv
  have cw : va_CN (zrm d0 mc ms) s args own ix y host bytes maxL none (.code y bytes maxL none :: zt) (zrm d mc1 ms1) mc1 ms1 n :=
    va_cnB n hts (zt_good v1) rfl rfl rfl (hK.2.2.2.1 _ hl) (hts _ v2) v3 ⟨hd, by show 8 + (maxL + 11) + (41 * d + 32) ≤ 41 * d0 + 32; have : d + 1 ≤ d0 := hd; omega⟩
  exact zw_run (va_runIN ⟨hx, hb, hml, hown, hts⟩ (hM l G) ⟨cw, hy, hts _ hin⟩ ⟨zpc_blind, fun U hU hW => ⟨rfl, by rw [hU]; exact hR.moved hW.alike, hK.warm hW⟩⟩ rfl hn hlv.1 rfl (lv_room hst) dg ⟨hm1, hm2⟩) hS (fun H1 locs1 hR1 hS1 => kk C H1 locs1 ls hR1 hS1 hlv)
theorem zr_objInit {a : Nat} (hl : Cond.methodLink F.2.1 ix Lib.objectInit ∈ zt) (hin : Cond.instanceMethod Lib.objectInit ∈ zt) (hc : Cond.code Lib.objectInit ⟨#[0xb1]⟩ 1 none ∈ zt) (hd : 1 ≤ F.2.2.2.1) (hst : (st.map fun v => v.category).sum ≤ 8) (dg : decode cc pc = .ok (.invokespecial ix, 3)) (kk : zz K cc F kc ks (pc + 3) lv st μ) : zz K cc F kc ks pc lv (.ref a :: st) μ := by
  obtain ⟨p, l, e, s, m, args, below, meth, c, G⟩ := K
  obtain ⟨nL, own, rt0, d0, mc, ms, rv, μ'⟩ := F
  intro C H locs ls hR hS hlv
  obtain ⟨hx, hb, hml, hown, hts, hr, hlk, hK⟩ := id C
  refine W.objInit hx hb hown (hts _ hl) (hts _ hin) (hts _ hc) rfl (by rw [hml]; exact hlv.1) rfl dg hd (by show 2 * 0 + _ + 12 ≤ 41 * d0 + 32; have : 1 ≤ d0 := hd; omega) ?_
  exact kk C H locs ls hR hS hlv
theorem zr_new {ci : Nat} {q : vw_C} {ty : Nat → FieldType} (fs : List Value) (hq : zcOk ci q ty) (hl : Cond.classLink F.2.1 ix q.1 ∈ zt) (hi : Cond.instantiable q.1 q.2.2 ∈ zt) (hini : Cond.initialized q.1 ∈ zt) (hfs : ∀ j, j < q.2.2 → defaultValue (ty j) = vp_V fs j) (hm1 : kc + 1 ≤ F.2.2.2.2.1) (hm2 : ks + q.2.2 ≤ F.2.2.2.2.2.1) (dg : decode cc pc = .ok (.new ix, 3))
    (kk : zz K cc F (kc + 1) (ks + q.2.2) (pc + 3) lv (.ref μ.2.1 :: st) (zm_nw μ (.inr (ci, fs)))) : zz K cc F kc ks pc lv st μ := by
  obtain ⟨p, l, e, s, m, args, below, meth, c, G⟩ := K
  obtain ⟨nL, own, rt0, d0, mc, ms, rv, μ'⟩ := F
  intro C H locs ls hR hS hlv
  obtain ⟨hx, hb, hml, hown, hts, hr, hlk, hK⟩ := id C
  obtain ⟨qC, qT, qN⟩ := q
  have hKn := hK.1.1 ci _ hq.1
  refine W.newcK hx hb hown (hts _ hl) (hts _ hi) (hts _ hini) rfl dg hm1 hm2 hKn.2.1 hR.1 fun H1 kC hkC e1 z1 o1 => ?_
  rw [← hR.1] at e1 z1 o1
  exact kk C H1 locs ls (hR.nw rfl ⟨_, hq.1, (u_born ty hts hq.2.1 hKn hkC e1 hq.2.2.1).to hfs⟩ z1 o1) ⟨Nat.le_trans hS.1 (by omega), fun x h1 h2 => (o1 x (Nat.lt_of_lt_of_le h1 hS.1)).trans (hS.2.1 x h1 h2), hS.2.2⟩ hlv
theorem zr_newa {t N : Nat} {n : Int32} {atype : ArrayType} (ht : t < 3) (hty : newarray.typeOf atype = zty t) (ha : Cond.arrayClass (newarray.typeOf atype) ∈ zt) (hn : ¬ n < 0) (hN : n.toNatClampNeg = N) (hby : N * componentBytes (newarray.typeOf atype) ≤ 536870912) (hm1 : kc + 1 ≤ F.2.2.2.2.1) (hm2 : ks + N ≤ F.2.2.2.2.2.1) (dg : decode cc pc = .ok (.newarray atype, 2))
    (kk : zz K cc F (kc + 1) (ks + N) (pc + 2) lv (.ref μ.2.1 :: st) (zm_nw μ (.inl (t, N, .inl (fun _ => 0))))) : zz K cc F kc ks pc lv (.int n :: st) μ := by
  obtain ⟨p, l, e, s, m, args, below, meth, c, G⟩ := K
  obtain ⟨nL, own, rt0, d0, mc, ms, rv, μ'⟩ := F
  intro C H locs ls hR hS hlv
  obtain ⟨hx, hb, hml, hown, hts, hr, hlk, hK⟩ := id C
  refine va_newaK hx hb (hts _ ha) rfl dg rfl hn hN hby hm1 hm2 hR.1 fun H1 cA e1 z1 o1 hAr hNm => ?_
  rw [← hR.1] at e1 z1 o1
  have hra := (hK.2.1 t (by omega)).2
  rw [hty] at hNm e1
  have hcA : cA = G.2.1 t := by
    have h2 : s.vm.findClass ("[" ++ (zty t).toString) = some (G.2.1 t) := by
      rcases (show t = 0 ∨ t = 1 ∨ t = 2 by omega) with rfl | rfl | rfl <;> exact hra
    exact Option.some.inj (hNm.symm.trans h2)
  have hde : defaultValue (zty t) = .int 0 := by
    rcases (show t = 0 ∨ t = 1 ∨ t = 2 by omega) with rfl | rfl | rfl <;> rfl
  subst hcA
  exact kk C H1 locs ls (hR.nw (by simp [zrw]; omega) (by show H1[H.size]? = some (vp_cell _ _); rw [e1, hde]; rfl) z1 o1) ⟨Nat.le_trans hS.1 (by omega), fun x h1 h2 => (o1 x (Nat.lt_of_lt_of_le h1 hS.1)).trans (hS.2.1 x h1 h2), hS.2.2⟩ hlv
theorem zr_newq {t N : Nat} {n : Int32} (ht : t < 10) (hty : zty t = .object (zoc t)) (hl : Cond.classLink F.2.1 ix (zoc t) ∈ zt) (hn : ¬ n < 0) (hN : n.toNatClampNeg = N) (hby : N * 4 ≤ 536870912) (hm1 : kc + 1 ≤ F.2.2.2.2.1) (hm2 : ks + N ≤ F.2.2.2.2.2.1) (dg : decode cc pc = .ok (.anewarray ix, 3))
    (kk : zz K cc F (kc + 1) (ks + N) (pc + 3) lv (.ref μ.2.1 :: st) (zm_nw μ (.inl (t, N, .inr (.inr (.inr (.inr (fun _ => none)))))))) : zz K cc F kc ks pc lv (.int n :: st) μ := by
  obtain ⟨p, l, e, s, m, args, below, meth, c, G⟩ := K
  obtain ⟨nL, own, rt0, d0, mc, ms, rv, μ'⟩ := F
  intro C H locs ls hR hS hlv
  obtain ⟨hx, hb, hml, hown, hts, hr, hlk, hK⟩ := id C
  subst hN
  refine W.anew hx hb hown (hts _ hl) (va_AO.use (hK.2.2.1 t)) rfl dg rfl hn hby hm1 hm2 fun cA kA comp f1 f2 f3 f4 => ?_
  generalize hH1 : H.push ({ cls := cA, slots := Array.replicate n.toNatClampNeg .null, vm := .none } : Cell) = H1
  have z1 : H1.size = H.size + 1 := by rw [← hH1, Array.size_push]
  have e1 : H1[H.size]? = some (arrV cA n.toNatClampNeg (fun _ => .null)) := by rw [← hH1, Array.getElem?_push_size, ← arrV_new]
  have o1 : ∀ q : Nat, q < H.size → H1[q]? = H[q]? := fun q hq => by rw [← hH1, Array.getElem?_push, if_neg (Nat.ne_of_lt hq)]
  have hra := (hK.2.1 t (by omega)).2
  rw [hty] at hra
  obtain ⟨_, _, _, _, _, k4⟩ := hra
  have hcA : cA = G.2.1 t := Option.some.inj (f1.symm.trans k4)
  subst hcA
  have := kk C H1 locs ls (hR.nw (by simp [zrw, ht]) (by show H1[H.size]? = some (vp_cell _ _); rw [e1]; rfl) z1 o1) ⟨Nat.le_trans hS.1 (by omega), fun x h1 h2 => (o1 x (Nat.lt_of_lt_of_le h1 hS.1)).trans (hS.2.1 x h1 h2), hS.2.2⟩ hlv
  rw [← hR.1] at this
  exact this
theorem zr_mmax {x z : Int32} (hl : Cond.methodLink F.2.1 ix Lib.Math.max.name ∈ zt) (h2 : Cond.static Lib.Math.max.name ∈ zt) (h3 : Cond.initialized "java/lang/Math" ∈ zt) (h4 : Cond.code Lib.Math.max.name Lib.Math.max.code 2 (some .int) ∈ zt) (hd : 1 ≤ F.2.2.2.1) (hm1 : kc ≤ F.2.2.2.2.1) (hm2 : ks ≤ F.2.2.2.2.2.1) (hst : (st.map fun v => v.category).sum ≤ 8) (dg : decode cc pc = .ok (.invokestatic ix, 3)) (kk : zz K cc F kc ks (pc + 3) lv (.int (if x < z then z else x) :: st) μ) : zz K cc F kc ks pc lv (.int z :: .int x :: st) μ := by
  obtain ⟨p, l, e, s, m, args, below, meth, c, G⟩ := K
  obtain ⟨nL, own, rt0, d0, mc, ms, rv, μ'⟩ := F
  intro C H locs ls hR hS hlv
  obtain ⟨hx, hb, hml, hown, hts, hr, hlk, hK⟩ := id C
  exact va_mmax hx hb (by rw [hml]; exact hlv.1.symm) hown (hts _ hl) (hts _ h2) (hts _ h3) (hts _ h4) hd (by show _ ≤ 41 * d0 + 32; have : 1 ≤ d0 := hd; omega) hm1 hm2 dg (kk C H locs ls hR hS hlv)
theorem zr_mmin {x z : Int32} (hl : Cond.methodLink F.2.1 ix Lib.Math.min.name ∈ zt) (h2 : Cond.static Lib.Math.min.name ∈ zt) (h3 : Cond.initialized "java/lang/Math" ∈ zt) (h4 : Cond.code Lib.Math.min.name Lib.Math.min.code 2 (some .int) ∈ zt) (hd : 1 ≤ F.2.2.2.1) (hm1 : kc ≤ F.2.2.2.2.1) (hm2 : ks ≤ F.2.2.2.2.2.1) (hst : (st.map fun v => v.category).sum ≤ 8) (dg : decode cc pc = .ok (.invokestatic ix, 3)) (kk : zz K cc F kc ks (pc + 3) lv (.int (if z < x then z else x) :: st) μ) : zz K cc F kc ks pc lv (.int z :: .int x :: st) μ := by
  obtain ⟨p, l, e, s, m, args, below, meth, c, G⟩ := K
  obtain ⟨nL, own, rt0, d0, mc, ms, rv, μ'⟩ := F
  intro C H locs ls hR hS hlv
  obtain ⟨hx, hb, hml, hown, hts, hr, hlk, hK⟩ := id C
  exact va_mmin hx hb (by rw [hml]; exact hlv.1.symm) hown (hts _ hl) (hts _ h2) (hts _ h3) (hts _ h4) hd (by show _ ≤ 41 * d0 + 32; have : 1 ≤ d0 := hd; omega) hm1 hm2 dg (kk C H locs ls hR hS hlv)
theorem zr_mabs {x : Int32} (hl : Cond.methodLink F.2.1 ix Lib.Math.abs.name ∈ zt) (h2 : Cond.static Lib.Math.abs.name ∈ zt) (h3 : Cond.initialized "java/lang/Math" ∈ zt) (h4 : Cond.code Lib.Math.abs.name Lib.Math.abs.code 1 (some .int) ∈ zt) (hd : 1 ≤ F.2.2.2.1) (hm1 : kc ≤ F.2.2.2.2.1) (hm2 : ks ≤ F.2.2.2.2.2.1) (hst : (st.map fun v => v.category).sum ≤ 8) (dg : decode cc pc = .ok (.invokestatic ix, 3)) (kk : zz K cc F kc ks (pc + 3) lv (.int (if 0 ≤ x then x else 0 - x) :: st) μ) : zz K cc F kc ks pc lv (.int x :: st) μ := by
  obtain ⟨p, l, e, s, m, args, below, meth, c, G⟩ := K
  obtain ⟨nL, own, rt0, d0, mc, ms, rv, μ'⟩ := F
  intro C H locs ls hR hS hlv
  obtain ⟨hx, hb, hml, hown, hts, hr, hlk, hK⟩ := id C
  exact va_mabs hx hb (by rw [hml]; exact hlv.1.symm) hown (hts _ hl) (hts _ h2) (hts _ h3) (hts _ h4) hd (by show _ ≤ 41 * d0 + 32; have : 1 ≤ d0 := hd; omega) hm1 hm2 dg (kk C H locs ls hR hS hlv)
end
