/-! the memory picture, the judgement zz of a walk in a frame, contracts zC -/
/-- the tables' words that hold in every callee -/
def zt : List Cond := lw_tbl.filter goodWord
theorem zt_mem {w : Cond} (h : w ∈ lw_tbl) (g : goodWord w = true) : w ∈ zt := List.mem_filter.mpr ⟨h, g⟩
theorem zt_at (i : Nat) {w : Cond} (h : (lw_tbl[i]? == some w && goodWord w) = true) : w ∈ zt := by
  rw [Bool.and_eq_true] at h
  exact zt_mem (List.mem_of_getElem? (i := i) (beq_iff_eq.mp h.1)) h.2
theorem zt_good {w : Cond} (h : w ∈ zt) : GoodIn zt (w :: zt) := fun v hv => by
  rcases List.mem_cons.mp hv with e | e
  · subst e; exact ⟨h, good_of_word (List.mem_filter.mp h).2⟩
  · exact ⟨e, good_of_word (List.mem_filter.mp e).2⟩
/-- words of the nest, and of arrays of objects: they go down with the states -/
def zn : List Cond := lw_tbl.filter (fun w => match w with | .methodLinkNest .. => true | .fieldLinkNest .. => true | .castable .. => true | _ => false)
abbrev zcl : List vw_C := [(RX0, TX0, 3), (RX1, TX1, 6), (RX2, TX2, 4), (RX3, TX3, 4), (RX4, TX4, 13), (RX5, TX5, 3), (RX6, TX6, 5), (RX7, TX7, 9), (RX8, TX8, 2), (RX9, TX9, 13), (RX9, TX9, 13), (RX11, TX11, 7), (RX12, TX12, 54)]
/-- a cell: an array by a tag of its kind (0 int, 1 byte, 2 boolean, 3.. arrays of objects; 10, 11: int, byte, that nobody writes), or an object by its class's number and its fields -/
abbrev zE : Type := (Nat × vp_A) ⊕ (Nat × List Value)
/-- the memory: cells, the next free address, the addresses of the static rows and texts -/
abbrev zM : Type := (Nat → Option zE) × Nat × (Nat → Nat)
def zoc (t : Nat) : String := match t with
  | 3 => "TwoEchoes$Told"
  | 4 => "TwoEchoes$Valley"
  | 5 => "TwoEchoes$Day"
  | 6 => "TwoEchoes$Lesson"
  | _ => "TwoEchoes$Sight"
def zty (t : Nat) : FieldType := match t with
  | 1 => .byte
  | 2 => .boolean
  | 3 => .object (zoc 3)
  | 4 => .object (zoc 4)
  | 5 => .object (zoc 5)
  | 6 => .object (zoc 6)
  | 7 => .object (zoc 7)
  | 11 => .byte
  | _ => .int
/-- the tables' numbers: classes and slots, array classes by tag, the first address that is ours, the addresses of static rows and texts -/
abbrev zG : Type := va_G × (Nat → ClassId) × Nat × (Nat → Nat)
def zcv (ts : Nat → ClassId) (e : zE) : va_E := match e with
  | .inl (t, a) => .inl (ts t, a)
  | .inr o => .inr o
def zrw (e : zE) : Bool := match e with
  | .inl (t, _) => decide (t < 10)
  | .inr _ => true
/-- the static rows: class, field -/
def zsn (k : Nat) : String × String := match k with
  | 0 => ("TwoEchoes", "RANGE")
  | 1 => ("TwoEchoes$Course", "ACT_OF_DRAW")
  | 2 => ("TwoEchoes$Reader", "FIRST_OF_SORT")
  | 3 => ("TwoEchoes$Reader", "GREATEST")
  | _ => ("TwoEchoes$Reader", "NUMBERS")
abbrev zA (G : zG) : Nat → Prop := fun q => G.2.2.1 ≤ q
/-- the texts of the Reader: place in its pool, text -/
def zsi (i : Nat) : Nat × String := match i with
  | 0 => (205, "wide") | 1 => (206, "should") | 2 => (207, "thought") | 3 => (208, "weight") | 4 => (209, "seller") | 5 => (211, "buyer") | 6 => (213, "preacher") | 7 => (215, "fog") | 8 => (217, "snow")
  | 9 => (219, "whisper") | 10 => (221, "say") | 11 => (223, "shout") | 12 => (225, "walk") | 13 => (227, "wait") | 14 => (229, "gave") | 15 => (231, "lies") | 16 => (232, "not") | _ => (234, "heard")
/-- a reference of the JDK's of which nothing is known -/
def zfm (sa : Nat → Nat) : Option Nat := if sa 60 = 0 then none else some (sa 60 - 1)
/-- cells that nobody writes: rows of ints, of bytes -/
def zro (G : zG) (q : Nat) (e : zE) (U : State) (H : Heap) : Prop := match e with
  | .inl (10, n, .inl f) => va_T .int q n (fun j => .int (f j)) (zA G) U H
  | .inl (11, n, .inl f) => va_T .byte q n (fun j => .int (f j)) (zA G) U H
  | _ => False
def zR (G : zG) (μ : zM) (U : State) (H : Heap) : Prop :=
  H.size = μ.2.1 ∧ G.2.2.1 ≤ H.size ∧ (∀ (q : Nat) (e : zE), μ.1 q = some e → (zrw e = true → va_at G.1 zcl (q, zcv G.2.1 e) H ∧ G.2.2.1 ≤ q) ∧ (zrw e = false → zro G q e U H)) ∧
  μ.2.2 = G.2.2.2 ∧ (∀ k : Nat, k < 5 → va_Z (zsn k).1 (zsn k).2 "[I" (.ref (G.2.2.2 k)) (zA G) U H) ∧
  va_Z "java/lang/String" "COMPACT_STRINGS" "Z" (.int 1) (zA G) U H ∧ va_Z "jdk/internal/util/Preconditions" "SIOOBE_FORMATTER" "Ljava/util/function/BiFunction;" (va_rf (zfm G.2.2.2)) (zA G) U H ∧
  ∀ i : Nat, i < 18 → va_O "java/lang/String" (G.2.2.2 (10 + i)) (zA G) U H ∧ va_OF "java/lang/String" "coder" "B" (.int 0) (G.2.2.2 (10 + i)) (zA G) U H ∧ va_OF "java/lang/String" "value" "[B" (.ref (G.2.2.2 (100 + i))) (G.2.2.2 (10 + i)) (zA G) U H
theorem zro.moved {G : zG} {q : Nat} {e : zE} {u U : State} {H : Heap} (hvm : u.vm.Alike U.vm) (h : zro G q e u H) : zro G q e U H := by
  unfold zro at h ⊢
  split at h
  · exact h.moved hvm
  · exact h.moved hvm
  · exact h.elim
theorem zro.kept {G : zG} {q : Nat} {e : zE} {U : State} {H H1 : Heap} (h : zro G q e U H) (hq : ∀ a : Nat, a < H.size → ¬ zA G a → H1[a]? = H[a]?) : zro G q e U H1 := by
  unfold zro at h ⊢
  split at h
  · exact h.kept hq
  · exact h.kept hq
  · exact h.elim
/-- what holds of the tables in every state below -/
def zK (G : zG) (U : State) : Prop := va_K G.1 zcl [] U ∧ (∀ t : Nat, t < 12 → ArrOfT U (G.2.1 t) (zty t) ∧ va_RA U (G.2.1 t) (zty t)) ∧ (∀ t : Nat, va_AO (zoc t) U) ∧ (∀ w ∈ zn, va_Nw w U) ∧ ∀ i : Nat, i < 18 → vk_R "TwoEchoes$Reader" (zsi i).1 (zsi i).2 (G.2.2.2 (10 + i)) U
theorem zK.arr {G : zG} {U : State} (h : zK G U) {t : Nat} (ht : t < 12) : va_K G.1 zcl [(G.2.1 t, zty t)] U := ⟨h.1.1, fun k q hk => by
  cases k with
  | zero => cases hk; exact h.2.1 t ht
  | succ k => simp at hk⟩
theorem zn_warm {w : Cond} (h : w ∈ zn) {s U : State} (hW : s.WarmedH U.vm) (hZ : va_Nw w s) : va_Nw w U := by
  have h2 := (List.mem_filter.mp h).2
  cases w <;> simp at h2
  all_goals first | exact va_Nw.warmM hW hZ | exact va_Nw.warmF hW hZ | exact va_Nw.warmC hW hZ
theorem zn_tab {w : Cond} (h : w ∈ zn) : w.onTables = true := by
  have h2 := (List.mem_filter.mp h).2
  cases w <;> simp at h2 <;> rfl
theorem zK.warm {G : zG} {s U : State} (hW : s.WarmedH U.vm) (h : zK G s) : zK G U := ⟨va_K.moved hW.alike h.1, fun t ht => ⟨arrOfT_moved hW.alike (h.2.1 t ht).1, (h.2.1 t ht).2.moved hW.alike⟩, fun t => (h.2.2.1 t).moved hW.alike, fun w hw => zn_warm hw hW (h.2.2.2.1 w hw), fun i hi => vk_R.warm hW (h.2.2.2.2 i hi)⟩
theorem zK.calling {G : zG} {U : State} {g : JFrame} {mk : MethodId} {a : Array Value} (h : zK G U) : zK G (U.calling g mk a) :=
  ⟨va_K.moved (u := U) (U := U.calling g mk a) (Vm.Alike.refl U.vm) h.1, fun t ht => ⟨arrOfT_moved (E := U.calling g mk a) (Vm.Alike.refl U.vm) (h.2.1 t ht).1, (h.2.1 t ht).2.moved (u := U) (U := U.calling g mk a) (Vm.Alike.refl U.vm)⟩, fun t => (h.2.2.1 t).moved (u := U) (U := U.calling g mk a) (Vm.Alike.refl U.vm), fun w hw => va_Nw.same (zn_tab hw) (u := U) (U := U.calling g mk a) rfl (h.2.2.2.1 w hw), fun i hi => vk_R.same (u := U) (U := U.calling g mk a) rfl (h.2.2.2.2 i hi)⟩
theorem zR.moved {G : zG} {μ : zM} {u U : State} {H : Heap} (hvm : u.vm.Alike U.vm) (h : zR G μ u H) : zR G μ U H := ⟨h.1, h.2.1, fun q e he => ⟨(h.2.2.1 q e he).1, fun hw => ((h.2.2.1 q e he).2 hw).moved hvm⟩, h.2.2.2.1, fun k hk => (h.2.2.2.2.1 k hk).moved hvm, h.2.2.2.2.2.1.moved hvm, h.2.2.2.2.2.2.1.moved hvm, fun i hi => ⟨(h.2.2.2.2.2.2.2 i hi).1.moved hvm, (h.2.2.2.2.2.2.2 i hi).2.1.moved hvm, (h.2.2.2.2.2.2.2 i hi).2.2.moved hvm⟩⟩
/-- the room of a frame with d frames above it -/
def zrm (d mc ms : Nat) : Room := { frames := d, cells := mc, slots := ms, locals := 41 * d + 32 }
/-- a method's CONTRACT at one call: from the memory μ it comes back with rv and the memory μ' -/
def zC (y : MethodName) (cc : ByteArray) (nL : Nat) (rt : Option FieldType) (d mc ms : Nat) (av : List Value) (μ : zM) (rv : Option Value) (μ' : zM) : Prop :=
  ∀ (l : Launch) (G : zG), Met l y (.code y cc nL rt :: zt) (zrm d mc ms) (va_Pc av (fun U => zR G μ U U.heap ∧ zK G U)) (fun _ st oc t => oc = .returned rv ∧ zR G μ' t t.heap ∧ va_F (zA G) st t) mc ms (zA G)
/-- a frame: the machine, and the tables' numbers -/
abbrev zKT : Type := Program × Launch × Env × State × MethodId × Array Value × List Frame × Method × Code × zG
/-- a method: locals, class, answer's type, depth, cells, slots; what it answers, and the memory behind it -/
abbrev zFT : Type := Nat × String × Option FieldType × Nat × Nat × Nat × Option Value × zM
def zOk (K : zKT) (cc : ByteArray) (F : zFT) : Prop := match K, F with
  | (p, _, _, s, m, args, _, meth, c, G), (nL, own, rt, _, _, _, _, _) =>
    p.tables.exec = Jvm.exec ∧ c.code = cc ∧ c.maxLocals = nL ∧ s.vm.findClass own = some m.cls ∧ (∀ w ∈ zt, w.before args s = true) ∧ meth.sig.returnType = rt ∧ meth.locks = false ∧ zK G s
def zz (K : zKT) (cc : ByteArray) (F : zFT) (kc ks pc : Nat) (lv : List (Nat × Value)) (st : List Value) (μ : zM) : Prop :=
  zOk K cc F → match K, F with
  | (p, l, e, s, m, args, below, meth, c, G), (nL, _, _, d, mc, ms, rv, μ') =>
    ∀ (H : Heap) (locs : List Loc) (ls : Array Slot), zR G μ s H → va_S (zA G) s.heap H locs → lv_has ls nL lv →
      W p l e (zrm d mc ms) s m args below meth c H locs kc ks (MQ below (fun _ st oc t => oc = .returned rv ∧ zR G μ' t t.heap ∧ va_F (zA G) st t) args s mc ms (zA G)) (F0 m pc ls st)
theorem zC.of {y : MethodName} {cc : ByteArray} {nL : Nat} {rt : Option FieldType} {d mc ms : Nat} {av : List Value} {μ : zM} {rv : Option Value} {μ' : zM} (hy : plainName y.cls = true) (hn : (lg_sl av).length ≤ nL)
    (h : ∀ K : zKT, (y.name = "<init>" → K.2.2.2.2.2.2.2.1.name = "<init>") → zz K cc (nL, y.cls, rt, d, mc, ms, rv, μ') 0 0 0 (lv_args 0 av) [] μ) : zC y cc nL rt d mc ms av μ rv μ' := by
  intro l G
  refine Met.ofW (cc := cc) (maxL := nL) (ret := rt) hy rfl ?_
  intro p e s m args below meth c s₁ B hml hv
  obtain ⟨rfl, hR, hK⟩ := hv
  have hts := atoms_spec (ws := .code y cc nL rt :: zt) B.pre
  have hown : s.vm.findClass y.cls = some m.cls := findClass_of_methodNamed B.named
  have hl := lv_entry av hn
  rw [lg_entry_eq]
  exact h (p, l, e, s, m, av.toArray, below, meth, c, G) (fun q => (name_of_methodNamed B.named B.method).1.trans q) ⟨B.exec, B.bytes, hml, hown, fun w hw => hts w (List.mem_cons_of_mem _ hw), B.returns, B.notSynchronized, hK⟩ s.heap [] _ hR va_S.rf hl
