/-! the memory's readings and writings, and the rules of the instructions that use them -/
def zm_up (μ : zM) (a : Nat) (e : zE) : zM := (fun q => if q = a then some e else μ.1 q, μ.2)
def zm_nw (μ : zM) (e : zE) : zM := (fun q => if q = μ.2.1 then some e else μ.1 q, μ.2.1 + 1, μ.2.2)
def zm_g (μ : zM) (ci a k : Nat) : Option Value := match μ.1 a with
  | some (.inr (c, fs)) => if c = ci then fs[k]? else none
  | _ => none
def zm_gI (μ : zM) (ci a k : Nat) : Option Int32 := match zm_g μ ci a k with
  | some (.int v) => some v
  | _ => none
def zm_gL (μ : zM) (ci a k : Nat) : Option Int64 := match zm_g μ ci a k with
  | some (.long v) => some v
  | _ => none
def zm_gR (μ : zM) (ci a k : Nat) : Option Nat := match zm_g μ ci a k with
  | some (.ref v) => some v
  | _ => none
def zm_p (μ : zM) (ci a k : Nat) (v : Value) : Option zM := match μ.1 a with
  | some (.inr (c, fs)) => if c = ci ∧ k < fs.length then some (zm_up μ a (.inr (c, fs.set k v))) else none
  | _ => none
def zm_ck (μ : zM) (ci a : Nat) : Bool := match μ.1 a with
  | some (.inr (c, _)) => c == ci
  | _ => false
def zm_len (μ : zM) (a : Nat) : Option Int32 := match μ.1 a with
  | some (.inl (t, n, _)) => if t < 12 then some (Int32.ofNat n) else none
  | _ => none
def zm_aI (μ : zM) (t a : Nat) (i : Int32) : Option Int32 := match μ.1 a with
  | some (.inl (u, n, .inl f)) => if u % 10 = t ∧ u < 12 ∧ ¬ (i < 0 ∨ n ≤ i.toNatClampNeg) then some (f i.toNatClampNeg) else none
  | _ => none
def zm_sI (μ : zM) (t a : Nat) (i v : Int32) : Option zM := match μ.1 a with
  | some (.inl (u, n, .inl f)) => if u = t ∧ ¬ (i < 0 ∨ n ≤ i.toNatClampNeg) then some (zm_up μ a (.inl (t, n, .inl (upd f i.toNatClampNeg v)))) else none
  | _ => none
def zm_aQ (μ : zM) (t a : Nat) (i : Int32) : Option (Option Nat) := match μ.1 a with
  | some (.inl (u, n, .inr (.inr (.inr (.inr f))))) => if u = t ∧ ¬ (i < 0 ∨ n ≤ i.toNatClampNeg) then some (f i.toNatClampNeg) else none
  | _ => none
def zm_sQ (μ : zM) (t ci a : Nat) (i : Int32) (v : Nat) : Option zM := match μ.1 a with
  | some (.inl (u, n, .inr (.inr (.inr (.inr f))))) => if u = t ∧ zm_ck μ ci v = true ∧ ¬ (i < 0 ∨ n ≤ i.toNatClampNeg) then some (zm_up μ a (.inl (t, n, .inr (.inr (.inr (.inr (va_up f i.toNatClampNeg (some v)))))))) else none
  | _ => none
theorem zm_g_some {μ : zM} {ci a k : Nat} {v : Value} (h : zm_g μ ci a k = some v) : ∃ fs, μ.1 a = some (.inr (ci, fs)) ∧ fs[k]? = some v := by
  unfold zm_g at h
  split at h
  · next c fs e =>
    split at h
    · next hc => subst hc; exact ⟨fs, e, h⟩
    · cases h
  · cases h
theorem zm_gI_g {μ : zM} {ci a k : Nat} {v : Int32} (h : zm_gI μ ci a k = some v) : zm_g μ ci a k = some (.int v) := by
  unfold zm_gI at h
  split at h
  · next e => cases h; exact e
  · cases h
theorem zm_gL_g {μ : zM} {ci a k : Nat} {v : Int64} (h : zm_gL μ ci a k = some v) : zm_g μ ci a k = some (.long v) := by
  unfold zm_gL at h
  split at h
  · next e => cases h; exact e
  · cases h
theorem zm_gR_g {μ : zM} {ci a k : Nat} {v : Nat} (h : zm_gR μ ci a k = some v) : zm_g μ ci a k = some (.ref v) := by
  unfold zm_gR at h
  split at h
  · next e => cases h; exact e
  · cases h
theorem zm_p_some {μ μ1 : zM} {ci a k : Nat} {v : Value} (h : zm_p μ ci a k v = some μ1) : ∃ fs, μ.1 a = some (.inr (ci, fs)) ∧ k < fs.length ∧ μ1 = zm_up μ a (.inr (ci, fs.set k v)) := by
  unfold zm_p at h
  split at h
  · next c fs e =>
    split at h
    · next hc => obtain ⟨rfl, hl⟩ := hc; cases h; exact ⟨fs, e, hl, rfl⟩
    · cases h
  · cases h
theorem zm_ck_some {μ : zM} {ci a : Nat} (h : zm_ck μ ci a = true) : ∃ fs, μ.1 a = some (.inr (ci, fs)) := by
  unfold zm_ck at h
  split at h
  · next c fs e => rw [beq_iff_eq] at h; subst h; exact ⟨fs, e⟩
  · cases h
theorem zm_len_some {μ : zM} {a : Nat} {v : Int32} (h : zm_len μ a = some v) : ∃ t x, μ.1 a = some (.inl (t, x)) ∧ t < 12 ∧ Int32.ofNat x.1 = v := by
  unfold zm_len at h
  split at h
  · next t n f e =>
    split at h
    · next ht => cases h; exact ⟨t, (n, f), e, ht, rfl⟩
    · cases h
  · cases h
theorem zm_aI_some {μ : zM} {t a : Nat} {i v : Int32} (h : zm_aI μ t a i = some v) : ∃ u n f, μ.1 a = some (.inl (u, n, .inl f)) ∧ u % 10 = t ∧ u < 12 ∧ vp_in i n ∧ f i.toNatClampNeg = v := by
  unfold zm_aI at h
  split at h
  · next u n f e =>
    split at h
    · next hc => obtain ⟨h1, h2, h3⟩ := hc; cases h; exact ⟨u, n, f, e, h1, h2, h3, rfl⟩
    · cases h
  · cases h
theorem zm_sI_some {μ μ1 : zM} {t a : Nat} {i v : Int32} (h : zm_sI μ t a i v = some μ1) : ∃ n f, μ.1 a = some (.inl (t, n, .inl f)) ∧ vp_in i n ∧ μ1 = zm_up μ a (.inl (t, n, .inl (upd f i.toNatClampNeg v))) := by
  unfold zm_sI at h
  split at h
  · next u n f e =>
    split at h
    · next hc => obtain ⟨rfl, h3⟩ := hc; cases h; exact ⟨n, f, e, h3, rfl⟩
    · cases h
  · cases h
theorem zm_aQ_some {μ : zM} {t a : Nat} {i : Int32} {v : Option Nat} (h : zm_aQ μ t a i = some v) : ∃ n f, μ.1 a = some (.inl (t, n, .inr (.inr (.inr (.inr f))))) ∧ vp_in i n ∧ f i.toNatClampNeg = v := by
  unfold zm_aQ at h
  split at h
  · next u n f e =>
    split at h
    · next hc => obtain ⟨rfl, h3⟩ := hc; cases h; exact ⟨n, f, e, h3, rfl⟩
    · cases h
  · cases h
theorem zm_sQ_some {μ μ1 : zM} {t ci a v : Nat} {i : Int32} (h : zm_sQ μ t ci a i v = some μ1) : ∃ n f, μ.1 a = some (.inl (t, n, .inr (.inr (.inr (.inr f))))) ∧ vp_in i n ∧ zm_ck μ ci v = true ∧ μ1 = zm_up μ a (.inl (t, n, .inr (.inr (.inr (.inr (va_up f i.toNatClampNeg (some v))))))) := by
  unfold zm_sQ at h
  split at h
  · next u n f e =>
    split at h
    · next hc => obtain ⟨rfl, h2, h3⟩ := hc; cases h; exact ⟨n, f, e, h3, h2, rfl⟩
    · cases h
  · cases h
theorem zR.at {G : zG} {μ : zM} {s : State} {H : Heap} (h : zR G μ s H) {a : Nat} {e : zE} (he : μ.1 a = some e) (hw : zrw e = true) : va_P G.1 zcl [(a, zcv G.2.1 e)] H := fun k q hk => by
  cases k with
  | zero => cases hk; exact ((h.2.2.1 a e he).1 hw).1
  | succ k => simp at hk
/-- a cell is written -/
theorem zR.up {G : zG} {μ : zM} {s : State} {H H1 : Heap} (h : zR G μ s H) {a : Nat} {e : zE} (ha : G.2.2.1 ≤ a) (hw : zrw e = true) (he : va_at G.1 zcl (a, zcv G.2.1 e) H1) (hz : H1.size = H.size) (oq : ∀ q : Nat, q ≠ a → H1[q]? = H[q]?) : zR G (zm_up μ a e) s H1 := by
  have hk : ∀ x : Nat, x < H.size → ¬ zA G x → H1[x]? = H[x]? := fun x _ hx => oq x (fun z => hx (by rw [z]; exact ha))
  refine ⟨hz.trans h.1, by rw [hz]; exact h.2.1, fun q e' hq => ?_, h.2.2.2.1, fun k hk' => (h.2.2.2.2.1 k hk').kept hk, h.2.2.2.2.2.1.kept hk, h.2.2.2.2.2.2.1.kept hk, fun i hi => ⟨(h.2.2.2.2.2.2.2 i hi).1.kept hk, (h.2.2.2.2.2.2.2 i hi).2.1.kept hk, (h.2.2.2.2.2.2.2 i hi).2.2.kept hk⟩⟩
  simp only [zm_up] at hq
  by_cases hqa : q = a
  · rw [if_pos hqa] at hq
    cases hq
    subst hqa
    exact ⟨fun _ => ⟨he, ha⟩, fun z => absurd (hw.symm.trans z) (by decide)⟩
  · rw [if_neg hqa] at hq
    exact ⟨fun z => ⟨((h.2.2.1 q e' hq).1 z).1.kept (oq q hqa), ((h.2.2.1 q e' hq).1 z).2⟩, fun z => ((h.2.2.1 q e' hq).2 z).kept hk⟩
theorem zro.lt {G : zG} {q : Nat} {e : zE} {U : State} {H : Heap} (h : zro G q e U H) : q < H.size := by
  unfold zro at h
  split at h
  · obtain ⟨cell, h1, -⟩ := h
    exact (Array.getElem?_eq_some_iff.mp h1).1
  · obtain ⟨cell, h1, -⟩ := h
    exact (Array.getElem?_eq_some_iff.mp h1).1
  · exact h.elim
/-- a cell is made -/
theorem zR.nw {G : zG} {μ : zM} {s : State} {H H1 : Heap} (h : zR G μ s H) {e : zE} (hw : zrw e = true) (he : va_at G.1 zcl (H.size, zcv G.2.1 e) H1) (hz : H1.size = H.size + 1) (oq : ∀ q : Nat, q < H.size → H1[q]? = H[q]?) : zR G (zm_nw μ e) s H1 := by
  have hk : ∀ x : Nat, x < H.size → ¬ zA G x → H1[x]? = H[x]? := fun x hx _ => oq x hx
  refine ⟨by rw [hz, h.1]; rfl, by rw [hz]; exact Nat.le_succ_of_le h.2.1, fun q e' hq => ?_, h.2.2.2.1, fun k hk' => (h.2.2.2.2.1 k hk').kept hk, h.2.2.2.2.2.1.kept hk, h.2.2.2.2.2.2.1.kept hk, fun i hi => ⟨(h.2.2.2.2.2.2.2 i hi).1.kept hk, (h.2.2.2.2.2.2.2 i hi).2.1.kept hk, (h.2.2.2.2.2.2.2 i hi).2.2.kept hk⟩⟩
  simp only [zm_nw] at hq
  by_cases hqa : q = μ.2.1
  · rw [if_pos hqa] at hq
    cases hq
    subst hqa
    rw [← h.1]
    exact ⟨fun _ => ⟨he, h.2.1⟩, fun z => absurd (hw.symm.trans z) (by decide)⟩
  · rw [if_neg hqa] at hq
    have h2 := h.2.2.1 q e' hq
    exact ⟨fun z => ⟨(h2.1 z).1.kept (oq q (h2.1 z).1.lt), (h2.1 z).2⟩, fun z => (h2.2 z).kept hk⟩
theorem zT_in {n : Nat} {i : Int32} {cell : Cell} (hn : n ≤ cell.slots.size) (h : vp_in i n) : ¬ (i < 0 ∨ cell.slots.size ≤ i.toNatClampNeg) := fun q => h (q.elim Or.inl (fun z => Or.inr (Nat.le_trans hn z)))
/-- a class by its number: its row, its fields' words, types, names -/
def zcOk (ci : Nat) (q : vw_C) (ty : Nat → FieldType) : Prop := zcl[ci]? = some q ∧ (∀ w ∈ u_ws q.1 q.2.1 q.2.2, w ∈ zt) ∧ (∀ k, k < q.2.2 → parseFieldDescriptor (q.2.1 k).2.2.1 = some (ty k)) ∧ ∀ a, a < q.2.2 → ∀ b, b < q.2.2 → a ≠ b → (q.2.1 a).2.1 ≠ (q.2.1 b).2.1
section
variable {K : zKT} {cc : ByteArray} {F : zFT} {kc ks pc : Nat} {lv : List (Nat × Value)} {st : List Value} {μ μ1 : zM}
theorem zr_get {ci a k ix : Nat} {q : vw_C} {ty : Nat → FieldType} {v : Value} (hv : zm_g μ ci a k = some v) (hq : zcOk ci q ty) (hk : k < q.2.2) (hl : Cond.fieldLink F.2.1 ix (q.2.1 k).1 (q.2.1 k).2.1 (q.2.1 k).2.2.1 ∈ zt) (dg : decode cc pc = .ok (.getfield ix, 3))
    (kk : zz K cc F kc ks (pc + 3) lv (v :: st) μ) : zz K cc F kc ks pc lv (.ref a :: st) μ := by
  obtain ⟨p, l, e, s, m, args, below, meth, c, G⟩ := K
  obtain ⟨nL, own, rt, d0, mc, ms, rv, μ'⟩ := F
  intro C H locs ls hR hS hlv
  obtain ⟨hx, hb, hml, hown, hts, hr, hlk, hK⟩ := id C
  obtain ⟨fs, h1, h2⟩ := zm_g_some hv
  obtain ⟨qC, qT, qN⟩ := q
  exact va_get (D := G.1) hx hb hts hq.2.1 hown hK.1 (hR.at h1 rfl) 0 rfl hq.1 k hk (hts _ hl) (fun _ h => h) h2 dg (kk C H locs ls hR hS hlv)
theorem zr_getN {ci a k ix : Nat} {q : vw_C} {ty : Nat → FieldType} {v : Value} {host : String} (hv : zm_g μ ci a k = some v) (hq : zcOk ci q ty) (hk : k < q.2.2) (hl : Cond.fieldLinkNest F.2.1 ix (q.2.1 k).1 (q.2.1 k).2.1 (q.2.1 k).2.2.1 host ∈ zn) (dg : decode cc pc = .ok (.getfield ix, 3))
    (kk : zz K cc F kc ks (pc + 3) lv (v :: st) μ) : zz K cc F kc ks pc lv (.ref a :: st) μ := by
  obtain ⟨p, l, e, s, m, args, below, meth, c, G⟩ := K
  obtain ⟨nL, own, rt, d0, mc, ms, rv, μ'⟩ := F
  intro C H locs ls hR hS hlv
  obtain ⟨hx, hb, hml, hown, hts, hr, hlk, hK⟩ := id C
  obtain ⟨fs, h1, h2⟩ := zm_g_some hv
  obtain ⟨qC, qT, qN⟩ := q
  exact va_getN (D := G.1) hx hb hts hq.2.1 hown hK.1 (hR.at h1 rfl) 0 rfl hq.1 k hk (va_Nw.use rfl (hK.2.2.2.1 _ hl)) (fun _ h => h) h2 dg (kk C H locs ls hR hS hlv)
theorem zr_put {ci a k ix : Nat} {q : vw_C} {ty : Nat → FieldType} {v : Value} (hv : zm_p μ ci a k v = some μ1) (hq : zcOk ci q ty) (hk : k < q.2.2) (hl : Cond.fieldLink F.2.1 ix (q.2.1 k).1 (q.2.1 k).2.1 (q.2.1 k).2.2.1 ∈ zt) (hfin : (q.2.1 k).2.2.2 = false) (hn : narrow (ty k) v = v) (hfit : fits (ty k) v = true) (dg : decode cc pc = .ok (.putfield ix, 3))
    (kk : zz K cc F kc ks (pc + 3) lv st μ1) : zz K cc F kc ks pc lv (v :: .ref a :: st) μ := by
  obtain ⟨p, l, e, s, m, args, below, meth, c, G⟩ := K
  obtain ⟨nL, own, rt, d0, mc, ms, rv, μ'⟩ := F
  intro C H locs ls hR hS hlv
  obtain ⟨hx, hb, hml, hown, hts, hr, hlk, hK⟩ := id C
  obtain ⟨fs, h1, hln, rfl⟩ := zm_p_some hv
  have hbase : G.2.2.1 ≤ a := ((hR.2.2.1 a _ h1).1 rfl).2
  obtain ⟨qC, qT, qN⟩ := q
  have hap := va_apart (own := own) hts hq.2.1 ty hq.2.2.1 hq.2.2.2 hK.1 hq.1
  obtain ⟨r, g1, cell, q1, q2, q3, q4⟩ := ((hR.2.2.1 a _ h1).1 rfl).1
  have hrr : r = (qC, qT, qN) := Option.some.inj (g1.symm.trans hq.1)
  subst hrr
  obtain ⟨hSl, hfc, kC, hkC, hkind⟩ := hK.1.1 ci _ hq.1
  obtain ⟨cf, kf, fi, f, hi, hsl⟩ := hSl k hk
  have hlay := hts _ (hq.2.1 _ (u_in_lay hk))
  unfold u_lay at hlay
  rw [if_neg (by rw [hfin]; decide)] at hlay
  have hst := (u_facts hfc hkC (u_lays hts hq.2.1 hk) hi).1
  have h6 := u_store hfc hkC hkind hlay hi (hq.2.2.1 k hk) hn hfit
  refine W.putK hx hb (f := f) ⟨hown, hts _ hl, ⟨_, _, _, hi⟩, hst⟩ (by rw [q2]; exact h6) q1 q3 (by rw [hsl]; exact k2_hasslot (q4 k hk)) rfl rfl dg fun H' e1 e2 e3 => ?_
  rw [hsl] at e1 ⊢
  exact kk C H' _ ls (hR.up hbase rfl ⟨_, hq.1, t_OB.to (V := updV (vp_V fs) k v) ⟨_, e1, q2, q3, t_set q4 hap hk v⟩ (fun j _ => vp_updV_set hln v j)⟩ e2 e3) (hS.put e2 e3 hbase) hlv
theorem zr_putF {ci a k ix : Nat} {q : vw_C} {ty : Nat → FieldType} {v : Value} (hv : zm_p μ ci a k v = some μ1) (hin2 : K.2.2.2.2.2.2.2.1.name = "<init>") (hown2 : (q.2.1 k).1 = F.2.1) (hq : zcOk ci q ty) (hk : k < q.2.2) (hl : Cond.fieldLink F.2.1 ix (q.2.1 k).1 (q.2.1 k).2.1 (q.2.1 k).2.2.1 ∈ zt) (hfin : (q.2.1 k).2.2.2 = true) (hn : narrow (ty k) v = v) (hfit : fits (ty k) v = true) (dg : decode cc pc = .ok (.putfield ix, 3))
    (kk : zz K cc F kc ks (pc + 3) lv st μ1) : zz K cc F kc ks pc lv (v :: .ref a :: st) μ := by
  obtain ⟨p, l, e, s, m, args, below, meth, c, G⟩ := K
  obtain ⟨nL, own, rt, d0, mc, ms, rv, μ'⟩ := F
  intro C H locs ls hR hS hlv
  obtain ⟨hx, hb, hml, hown, hts, hr, hlk, hK⟩ := id C
  obtain ⟨fs, h1, hln, rfl⟩ := zm_p_some hv
  have hbase : G.2.2.1 ≤ a := ((hR.2.2.1 a _ h1).1 rfl).2
  obtain ⟨qC, qT, qN⟩ := q
  have hap := va_apart (own := own) hts hq.2.1 ty hq.2.2.1 hq.2.2.2 hK.1 hq.1
  obtain ⟨r, g1, cell, q1, q2, q3, q4⟩ := ((hR.2.2.1 a _ h1).1 rfl).1
  have hrr : r = (qC, qT, qN) := Option.some.inj (g1.symm.trans hq.1)
  subst hrr
  obtain ⟨hSl, hfc, kC, hkC, hkind⟩ := hK.1.1 ci _ hq.1
  obtain ⟨cf, kf, fi, f, hi, hsl⟩ := hSl k hk
  have hlay := hts _ (hq.2.1 _ (u_in_lay hk))
  unfold u_lay at hlay
  rw [if_pos hfin] at hlay
  have hst := (u_facts hfc hkC (u_lays hts hq.2.1 hk) hi).1
  have hcf : m.cls = cf := by
    obtain ⟨_, _, c', _, _, _, -, -, hf', -, -, -, hown2', -⟩ := Cond.laysFinal_spec hlay
    have e1 : c' = cf := by have := hi.symm.trans hf'; simp at this; exact this.1.symm
    rw [show (qT k).1 = own from hown2] at hown2'
    rw [← e1]; exact Option.some.inj (hown.symm.trans hown2')
  have h6 := u_fits hfc hkC hkind (Or.inr hlay) hi (hq.2.2.1 k hk) hn hfit
  refine W.putFinK hx hb hown (hts _ hl) hi hst hcf hin2 (by rw [q2]; exact h6) q1 q3 (by rw [hsl]; exact k2_hasslot (q4 k hk)) rfl rfl dg fun H' e1 e2 e3 => ?_
  rw [hsl] at e1 ⊢
  exact kk C H' _ ls (hR.up hbase rfl ⟨_, hq.1, t_OB.to (V := updV (vp_V fs) k v) ⟨_, e1, q2, q3, t_set q4 hap hk v⟩ (fun j _ => vp_updV_set hln v j)⟩ e2 e3) (hS.put e2 e3 hbase) hlv
theorem zr_iald {a : Nat} {i v : Int32} (hv : zm_aI μ 0 a i = some v) (dg : decode cc pc = .ok (.iaload, 1)) (kk : zz K cc F kc ks (pc + 1) lv (.int v :: st) μ) : zz K cc F kc ks pc lv (.int i :: .ref a :: st) μ := by
  obtain ⟨p, l, e, s, m, args, below, meth, c, G⟩ := K
  obtain ⟨nL, own, rt, d0, mc, ms, rv, μ'⟩ := F
  intro C H locs ls hR hS hlv
  obtain ⟨hx, hb, hml, hown, hts, hr, hlk, hK⟩ := id C
  obtain ⟨u, n, f, h1, h2, h3, h4, rfl⟩ := zm_aI_some hv
  rcases (show u = 0 ∨ u = 10 by omega) with rfl | rfl
  · exact va_iald (D := G.1) hx hb (hK.arr h3) (hR.at h1 rfl) 0 0 rfl rfl h4 dg (kk C H locs ls hR hS hlv)
  · obtain ⟨cell, t1, t2, t3, t4, t5, t6, t7⟩ := (hR.2.2.1 a _ h1).2 rfl
    exact W.iald (v := .int (f i.toNatClampNeg)) hx hb t1 t2 t3 (zT_in t4 h4) (t6 _ (Nat.not_le.mp fun q => h4 (Or.inr q))) rfl rfl dg (kk C H locs ls hR hS hlv)
theorem zr_bald {a : Nat} {i v : Int32} (hv : zm_aI μ 1 a i = some v) (dg : decode cc pc = .ok (.baload, 1)) (kk : zz K cc F kc ks (pc + 1) lv (.int v :: st) μ) : zz K cc F kc ks pc lv (.int i :: .ref a :: st) μ := by
  obtain ⟨p, l, e, s, m, args, below, meth, c, G⟩ := K
  obtain ⟨nL, own, rt, d0, mc, ms, rv, μ'⟩ := F
  intro C H locs ls hR hS hlv
  obtain ⟨hx, hb, hml, hown, hts, hr, hlk, hK⟩ := id C
  obtain ⟨u, n, f, h1, h2, h3, h4, rfl⟩ := zm_aI_some hv
  rcases (show u = 1 ∨ u = 11 by omega) with rfl | rfl
  · exact va_bald (D := G.1) hx hb (hK.arr h3) (hR.at h1 rfl) 0 0 rfl rfl h4 dg (kk C H locs ls hR hS hlv)
  · obtain ⟨cell, t1, t2, t3, t4, t5, t6, t7⟩ := (hR.2.2.1 a _ h1).2 rfl
    exact W.bald (v := .int (f i.toNatClampNeg)) hx hb t1 t2 t3 (zT_in t4 h4) (t6 _ (Nat.not_le.mp fun q => h4 (Or.inr q))) rfl rfl dg (kk C H locs ls hR hS hlv)
theorem zr_zald {a : Nat} {i v : Int32} (hv : zm_aI μ 2 a i = some v) (dg : decode cc pc = .ok (.baload, 1)) (kk : zz K cc F kc ks (pc + 1) lv (.int v :: st) μ) : zz K cc F kc ks pc lv (.int i :: .ref a :: st) μ := by
  obtain ⟨p, l, e, s, m, args, below, meth, c, G⟩ := K
  obtain ⟨nL, own, rt, d0, mc, ms, rv, μ'⟩ := F
  intro C H locs ls hR hS hlv
  obtain ⟨hx, hb, hml, hown, hts, hr, hlk, hK⟩ := id C
  obtain ⟨u, n, f, h1, h2, h3, h4, rfl⟩ := zm_aI_some hv
  rcases (show u = 2 by omega) with rfl
  exact va_zald (D := G.1) hx hb (hK.arr h3) (hR.at h1 rfl) 0 0 rfl rfl h4 dg (kk C H locs ls hR hS hlv)
theorem zr_alen {a : Nat} {v : Int32} (hv : zm_len μ a = some v) (dg : decode cc pc = .ok (.arraylength, 1)) (kk : zz K cc F kc ks (pc + 1) lv (.int v :: st) μ) : zz K cc F kc ks pc lv (.ref a :: st) μ := by
  obtain ⟨p, l, e, s, m, args, below, meth, c, G⟩ := K
  obtain ⟨nL, own, rt, d0, mc, ms, rv, μ'⟩ := F
  intro C H locs ls hR hS hlv
  obtain ⟨hx, hb, hml, hown, hts, hr, hlk, hK⟩ := id C
  obtain ⟨t, x, h1, h2, h3⟩ := zm_len_some hv
  by_cases ht : t < 10
  · exact va_alen (D := G.1) hx hb (hK.arr h2) (hR.at h1 (by simp [zrw, ht])) 0 0 rfl rfl h3 dg (kk C H locs ls hR hS hlv)
  · have hz := (hR.2.2.1 a _ h1).2 (by simp [zrw]; omega)
    obtain ⟨n, f | f | f | f | f⟩ := x
    · rcases (show t = 10 ∨ t = 11 by omega) with rfl | rfl
      · obtain ⟨cell, t1, t2, t3, t4, t5, t6, t7⟩ := hz
        exact W.alen (n := v) hx hb t1 t2 (t5.trans h3) rfl rfl dg (kk C H locs ls hR hS hlv)
      · obtain ⟨cell, t1, t2, t3, t4, t5, t6, t7⟩ := hz
        exact W.alen (n := v) hx hb t1 t2 (t5.trans h3) rfl rfl dg (kk C H locs ls hR hS hlv)
    all_goals (rcases (show t = 10 ∨ t = 11 by omega) with rfl | rfl <;> exact hz.elim)
theorem zr_aald {a t : Nat} {i : Int32} {v : Option Nat} (hv : zm_aQ μ t a i = some v) (ht : t < 10) (hc : zty t = .object (zoc t)) (dg : decode cc pc = .ok (.aaload, 1)) (kk : zz K cc F kc ks (pc + 1) lv (va_rf v :: st) μ) : zz K cc F kc ks pc lv (.int i :: .ref a :: st) μ := by
  obtain ⟨p, l, e, s, m, args, below, meth, c, G⟩ := K
  obtain ⟨nL, own, rt, d0, mc, ms, rv, μ'⟩ := F
  intro C H locs ls hR hS hlv
  obtain ⟨hx, hb, hml, hown, hts, hr, hlk, hK⟩ := id C
  obtain ⟨n, f, h1, h2, rfl⟩ := zm_aQ_some hv
  exact va_aldq (D := G.1) (C := zoc t) hx hb (hK.arr (t := t) (by omega)) (hR.at h1 (by simp [zrw, ht])) 0 0 rfl (by rw [hc]; rfl) h2 dg (kk C H locs ls hR hS hlv)
theorem zr_iast {a : Nat} {i v : Int32} (hv : zm_sI μ 0 a i v = some μ1) (dg : decode cc pc = .ok (.iastore, 1)) (kk : zz K cc F kc ks (pc + 1) lv st μ1) : zz K cc F kc ks pc lv (.int v :: .int i :: .ref a :: st) μ := by
  obtain ⟨p, l, e, s, m, args, below, meth, c, G⟩ := K
  obtain ⟨nL, own, rt, d0, mc, ms, rv, μ'⟩ := F
  intro C H locs ls hR hS hlv
  obtain ⟨hx, hb, hml, hown, hts, hr, hlk, hK⟩ := id C
  obtain ⟨n, f, h1, h2, rfl⟩ := zm_sI_some hv
  have hbase : G.2.2.1 ≤ a := ((hR.2.2.1 a _ h1).1 rfl).2
  refine W.iast hx hb ((hR.2.2.1 a _ h1).1 rfl).1 ((hK.2.1 0 (by omega)).1 n (fun j => .int (f j))) (fun q => by cases q) (by show ¬ (i < 0 ∨ (arrV _ _ _).slots.size ≤ _); rw [arrV_size]; exact h2) rfl rfl dg fun H1 e z oq => ?_
  refine kk C H1 _ ls (hR.up hbase rfl ?_ z oq) (hS.put z oq hbase) hlv
  show H1[a]? = some (vp_cell _ _)
  rw [e]
  rw [vp_cell_i, vp_cell_i, arrV_store]
  congr 2
  funext q
  by_cases hq : q = i.toNatClampNeg
  · subst hq
    simp [updV, upd]
  · simp [updV, upd, hq]
theorem zr_bast {a : Nat} {i v : Int32} (hv : zm_sI μ 1 a i (vp_nar .byte v) = some μ1) (dg : decode cc pc = .ok (.bastore, 1)) (kk : zz K cc F kc ks (pc + 1) lv st μ1) : zz K cc F kc ks pc lv (.int v :: .int i :: .ref a :: st) μ := by
  obtain ⟨p, l, e, s, m, args, below, meth, c, G⟩ := K
  obtain ⟨nL, own, rt, d0, mc, ms, rv, μ'⟩ := F
  intro C H locs ls hR hS hlv
  obtain ⟨hx, hb, hml, hown, hts, hr, hlk, hK⟩ := id C
  obtain ⟨n, f, h1, h2, rfl⟩ := zm_sI_some hv
  have hbase : G.2.2.1 ≤ a := ((hR.2.2.1 a _ h1).1 rfl).2
  refine W.bast hx hb ((hR.2.2.1 a _ h1).1 rfl).1 ((hK.2.1 1 (by omega)).1 n (fun j => .int (f j))) (fun q => by cases q) (by show ¬ (i < 0 ∨ (arrV _ _ _).slots.size ≤ _); rw [arrV_size]; exact h2) rfl rfl dg fun H1 e z oq => ?_
  refine kk C H1 _ ls (hR.up hbase rfl ?_ z oq) (hS.put z oq hbase) hlv
  show H1[a]? = some (vp_cell _ _)
  rw [e]
  rw [vp_cell_i, vp_cell_i, arrV_store]
  congr 2
  funext q
  by_cases hq : q = i.toNatClampNeg
  · subst hq
    simp [updV, upd, vp_nar_byte]
    simp [narrow]
  · simp [updV, upd, hq]
theorem zr_zast {a : Nat} {i v : Int32} (hv : zm_sI μ 2 a i (vp_nar .boolean v) = some μ1) (dg : decode cc pc = .ok (.bastore, 1)) (kk : zz K cc F kc ks (pc + 1) lv st μ1) : zz K cc F kc ks pc lv (.int v :: .int i :: .ref a :: st) μ := by
  obtain ⟨p, l, e, s, m, args, below, meth, c, G⟩ := K
  obtain ⟨nL, own, rt, d0, mc, ms, rv, μ'⟩ := F
  intro C H locs ls hR hS hlv
  obtain ⟨hx, hb, hml, hown, hts, hr, hlk, hK⟩ := id C
  obtain ⟨n, f, h1, h2, rfl⟩ := zm_sI_some hv
  have hbase : G.2.2.1 ≤ a := ((hR.2.2.1 a _ h1).1 rfl).2
  refine W.zast hx hb ((hR.2.2.1 a _ h1).1 rfl).1 ((hK.2.1 2 (by omega)).1 n (fun j => .int (f j))) (fun q => by cases q) (by show ¬ (i < 0 ∨ (arrV _ _ _).slots.size ≤ _); rw [arrV_size]; exact h2) rfl rfl dg fun H1 e z oq => ?_
  refine kk C H1 _ ls (hR.up hbase rfl ?_ z oq) (hS.put z oq hbase) hlv
  show H1[a]? = some (vp_cell _ _)
  rw [e]
  rw [vp_cell_i, vp_cell_i, arrV_store]
  congr 2
  funext q
  by_cases hq : q = i.toNatClampNeg
  · subst hq
    simp [updV, upd, vp_nar]
    simp [narrow]
  · simp [updV, upd, hq]
theorem zr_aast {a t ci x : Nat} {i : Int32} {q : vw_C} {ty : Nat → FieldType} (hv : zm_sQ μ t ci a i x = some μ1) (ht : t < 10) (hc : zty t = .object q.1) (hq : zcOk ci q ty) (dg : decode cc pc = .ok (.aastore, 1)) (kk : zz K cc F kc ks (pc + 1) lv st μ1) : zz K cc F kc ks pc lv (.ref x :: .int i :: .ref a :: st) μ := by
  obtain ⟨p, l, e, s, m, args, below, meth, c, G⟩ := K
  obtain ⟨nL, own, rt, d0, mc, ms, rv, μ'⟩ := F
  intro C H locs ls hR hS hlv
  obtain ⟨hx, hb, hml, hown, hts, hr, hlk, hK⟩ := id C
  obtain ⟨n, f, h1, h2, h3, rfl⟩ := zm_sQ_some hv
  obtain ⟨vs, h4⟩ := zm_ck_some h3
  have hbase : G.2.2.1 ≤ a := ((hR.2.2.1 a _ h1).1 (by simp [zrw, ht])).2
  have hlt : i.toNatClampNeg < n := Nat.not_le.mp fun q => h2 (Or.inr q)
  have h0 : ¬ i < 0 := fun q => h2 (Or.inl q)
  obtain ⟨r', hr', cellV, g1, g2, g3, -⟩ := ((hR.2.2.1 x _ h4).1 rfl).1
  have hcls := (hK.1.1 ci q hq.1).2
  have hra := (hK.2.1 t (by omega)).2
  rw [hc] at hra
  obtain ⟨kA, comp, k1, k2, k3, -⟩ := hra
  have hcomp : comp = G.1.1 ci := Option.some.inj (k3.symm.trans hcls.1)
  subst hcomp
  obtain ⟨kC, hkC, -⟩ := hcls.2
  refine W.aast hx hb ((hR.2.2.1 a _ h1).1 (by simp [zrw, ht])).1 (fun q h => by cases h) (fun h => by cases h) k1 k2 rfl hkC ⟨h0, by show _ < (arrV _ _ _).slots.size; rw [arrV_size]; exact hlt⟩ g1 (fun q h => by rw [g3] at h; cases h) (by rw [g2]; exact hkC) (by rw [g2]; exact va_assign hcls) rfl rfl dg fun H1 e z oq => ?_
  refine kk C H1 _ ls (hR.up hbase (by simp [zrw, ht]) ?_ z oq) (hS.put z oq hbase) hlv
  show H1[a]? = some (vp_cell _ _)
  rw [e]
  rw [vp_cell_q, vp_cell_q, arrV_store]
  congr 2
  funext q
  by_cases hq : q = i.toNatClampNeg
  · subst hq
    simp [updV, va_up, va_rf]
  · simp [updV, va_up, hq]
/-- getstatic of a static row -/
theorem zr_gets {k ix : Nat} (hk : k < 5) (hl : Cond.fieldLink F.2.1 ix (zsn k).1 (zsn k).2 "[I" ∈ zt) (dg : decode cc pc = .ok (.getstatic ix, 3)) (kk : zz K cc F kc ks (pc + 3) lv (.ref (μ.2.2 k) :: st) μ) : zz K cc F kc ks pc lv st μ := by
  obtain ⟨p, l, e, s, m, args, below, meth, c, G⟩ := K
  obtain ⟨nL, own, rt, d0, mc, ms, rv, μ'⟩ := F
  intro C H locs ls hR hS hlv
  obtain ⟨hx, hb, hml, hown, hts, hr, hlk, hK⟩ := id C
  rw [show μ.2.2 k = G.2.2.2 k from by rw [hR.2.2.2.1]] at kk
  obtain ⟨cf, kf, fi, f, a, cell, h1, h2, h3, h4, h5, h6, h7, h8⟩ := hR.2.2.2.2.1 k hk
  exact W.gets hx hb hown (hts _ hl) h1 h2 h3 h4 h5 (fun e => by rw [e] at h6; cases h6) h7 rfl dg (kk C H locs ls hR hS hlv)
theorem zr_aret {nL : Nat} {own : String} {d0 mc ms : Nat} {v : Option Nat} {C : String} (dg : decode cc pc = .ok (.areturn, 1)) : zz K cc (nL, own, some (.object C), d0, mc, ms, some (va_rf v), μ) mc ms pc lv [va_rf v] μ := by
  obtain ⟨p, l, e, s, m, args, below, meth, c, G⟩ := K
  intro C H locs ls hR hS hl
  obtain ⟨hx, hb, hml, hown, hts, hr, hlk, hK⟩ := id C
  exact W.aret hx hb hr (Or.inl ⟨_, rfl⟩) (va_rf_or v) (fun t ht hW => ⟨rfl, by rw [ht]; exact hR.moved hW.alike, hS.F ht⟩) hS.2.2 dg hlk
end
