/-! the start: what the Statement gives at the law's entry, as a memory -/
def zrow (k : Nat) : List Int32 := match k with
  | 0 => [6, 18, 99]
  | 1 => [0, 1, 2, 3, 3, 4]
  | 2 => [0, 9, 14, 16, 18]
  | 3 => [30, 0, 0, 7, 7, 0, 7, 9, 0, 7, 99, 0, 30, 99, 0, 30, 99, 0, 30, 99, 0, 99, 99, 0, 99, 99, 0, 5, 7, 0, 5, 7, 0, 5, 7, 0, 5, 30, 0, 60, 0, 0, 7, 7, 0, 9, 0, 0, 30, 99, 7, 30, 99, 7]
  | _ => [1, 2, 2, 2, 2, 2, 2, 2, 2, 2, 2, 2, 2, 1, 2, 1, 3, 3]
def ztext (i : Nat) : List Int32 := match i with
  | 0 => [119, 105, 100, 101]
  | 1 => [115, 104, 111, 117, 108, 100]
  | 2 => [116, 104, 111, 117, 103, 104, 116]
  | 3 => [119, 101, 105, 103, 104, 116]
  | 4 => [115, 101, 108, 108, 101, 114]
  | 5 => [98, 117, 121, 101, 114]
  | 6 => [112, 114, 101, 97, 99, 104, 101, 114]
  | 7 => [102, 111, 103]
  | 8 => [115, 110, 111, 119]
  | 9 => [119, 104, 105, 115, 112, 101, 114]
  | 10 => [115, 97, 121]
  | 11 => [115, 104, 111, 117, 116]
  | 12 => [119, 97, 108, 107]
  | 13 => [119, 97, 105, 116]
  | 14 => [103, 97, 118, 101]
  | 15 => [108, 105, 101, 115]
  | 16 => [110, 111, 116]
  | _ => [104, 101, 97, 114, 100]
/-- the memory at the start: the static rows, the rows of the texts -/
def zm0 (sa : Nat → Nat) (q : Nat) : Option zE := match (List.range 5).find? (fun k => sa k == q) with
  | some k => some (.inl (10, (zrow k).length, .inl (fun j => (zrow k).getD j 0)))
  | none => match (List.range 18).find? (fun i => sa (100 + i) == q) with
    | some i => some (.inl (11, (ztext i).length, .inl (fun j => (ztext i).getD j 0)))
    | none => none
/-- what is known of the addresses at the start -/
def zD (sa : Nat → Nat) (base : Nat) : Prop := (∀ k, k < 5 → zm0 sa (sa k) = some (.inl (10, (zrow k).length, .inl (fun j => (zrow k).getD j 0))) ∧ sa k < base) ∧
  (∀ i, i < 18 → zm0 sa (sa (100 + i)) = some (.inl (11, (ztext i).length, .inl (fun j => (ztext i).getD j 0))) ∧ sa (100 + i) < base) ∧ (∀ i j, i < 18 → j < 18 → sa (10 + i) = sa (10 + j) → i = j) ∧ ∀ q, base ≤ q → zm0 sa q = none
theorem zm0_some {sa : Nat → Nat} {q : Nat} {e : zE} (h : zm0 sa q = some e) : (∃ k, k < 5 ∧ sa k = q ∧ e = .inl (10, (zrow k).length, .inl (fun j => (zrow k).getD j 0))) ∨ ∃ i, i < 18 ∧ sa (100 + i) = q ∧ e = .inl (11, (ztext i).length, .inl (fun j => (ztext i).getD j 0)) := by
  unfold zm0 at h
  split at h
  · next k hk => cases h; exact Or.inl ⟨k, List.mem_range.mp (List.mem_of_find?_eq_some hk), (by have e := List.find?_some hk; exact beq_iff_eq.mp e), rfl⟩
  · split at h
    · next i hi => cases h; exact Or.inr ⟨i, List.mem_range.mp (List.mem_of_find?_eq_some hi), (by have e := List.find?_some hi; exact beq_iff_eq.mp e), rfl⟩
    · cases h
/-- two rows at one address are one row -/
theorem zT_one {ty ty' : FieldType} {t N N' : Nat} {f f' : Nat → Value} {A : Nat → Prop} {U : State} {H : Heap} (hN : N < 2 ^ 31) (hN' : N' < 2 ^ 31) (h : va_T ty t N f A U H) (h' : va_T ty' t N' f' A U H) : ty = ty' ∧ N = N' ∧ ∀ j, j < N → f j = f' j := by
  obtain ⟨cell, h1, ⟨-, k, hk, comp, hkind⟩, -, h4, h5, h6, -⟩ := h
  obtain ⟨cell', g1, ⟨-, k', gk, comp', gkind⟩, -, g4, g5, g6, -⟩ := h'
  cases h1.symm.trans g1
  cases hk.symm.trans gk
  have hc := hkind.symm.trans gkind
  injection hc with _ hty
  have hn : Int32.ofNat N = Int32.ofNat N' := h5.symm.trans g5
  have hNN : N = N' := by
    have a := congrArg Int32.toInt hn
    rw [show (Int32.ofNat N).toInt = (N : Int) from nI_toInt hN, show (Int32.ofNat N').toInt = (N' : Int) from nI_toInt hN'] at a
    omega
  subst hNN
  exact ⟨hty, rfl, fun j hj => Option.some.inj ((h6 j hj).symm.trans (g6 j hj))⟩

theorem zrow_ne : ∀ k, k < 5 → ∀ j, j < 5 → (zrow k).length = (zrow j).length → k = j := by decide +kernel
theorem ztext_ne : ∀ k, k < 18 → ∀ j, j < 18 → ztext k = ztext j → k = j := by decide +kernel
theorem zrow_lt : ∀ k, k < 5 → (zrow k).length < 2 ^ 31 := by decide +kernel
theorem ztext_lt : ∀ k, k < 18 → (ztext k).length < 2 ^ 31 := by decide +kernel
theorem zD_of {sa : Nat → Nat} {base : Nat} {A : Nat → Prop} {U : State} {H : Heap} (hA : ∀ a, ¬ A a → a < base) (h1 : ∀ k, k < 5 → va_T .int (sa k) (zrow k).length (fun j => .int ((zrow k).getD j 0)) A U H) (h2 : ∀ i, i < 18 → va_T .byte (sa (100 + i)) (ztext i).length (fun j => .int ((ztext i).getD j 0)) A U H) (h3 : ∀ i j, i < 18 → j < 18 → sa (10 + i) = sa (10 + j) → i = j) : zD sa base := by
  have l1 : ∀ k, k < 5 → sa k < base := fun k hk => by obtain ⟨_, _, _, _, _, _, _, h⟩ := h1 k hk; exact hA _ h
  have l2 : ∀ i, i < 18 → sa (100 + i) < base := fun i hi => by obtain ⟨_, _, _, _, _, _, _, h⟩ := h2 i hi; exact hA _ h
  have find1 : ∀ k, k < 5 → (List.range 5).find? (fun j => sa j == sa k) = some k := by
    intro k hk
    cases hq : (List.range 5).find? (fun j => sa j == sa k) with
    | none => exact absurd (List.find?_eq_none.mp hq k (List.mem_range.mpr hk)) (by simp)
    | some j =>
      have hj := List.mem_range.mp (List.mem_of_find?_eq_some hq)
      have e : sa j = sa k := (by have e := List.find?_some hq; exact beq_iff_eq.mp e)
      have h := h1 j hj
      rw [e] at h
      have := zT_one (zrow_lt j hj) (zrow_lt k hk) h (h1 k hk)
      rw [zrow_ne j hj k hk this.2.1]
  have none1 : ∀ i, i < 18 → (List.range 5).find? (fun j => sa j == sa (100 + i)) = none := by
    intro i hi
    cases hq : (List.range 5).find? (fun j => sa j == sa (100 + i)) with
    | none => rfl
    | some j =>
      have hj := List.mem_range.mp (List.mem_of_find?_eq_some hq)
      have e : sa j = sa (100 + i) := (by have e := List.find?_some hq; exact beq_iff_eq.mp e)
      have h := h1 j hj
      rw [e] at h
      have := (zT_one (zrow_lt j hj) (ztext_lt i hi) h (h2 i hi)).1
      cases this
  have find2 : ∀ i, i < 18 → (List.range 18).find? (fun j => sa (100 + j) == sa (100 + i)) = some i := by
    intro k hk
    cases hq : (List.range 18).find? (fun j => sa (100 + j) == sa (100 + k)) with
    | none => exact absurd (List.find?_eq_none.mp hq k (List.mem_range.mpr hk)) (by simp)
    | some j =>
      have hj := List.mem_range.mp (List.mem_of_find?_eq_some hq)
      have e : sa (100 + j) = sa (100 + k) := (by have e := List.find?_some hq; exact beq_iff_eq.mp e)
      have h := h2 j hj
      rw [e] at h
      obtain ⟨-, hn, he⟩ := zT_one (ztext_lt j hj) (ztext_lt k hk) h (h2 k hk)
      have : ztext j = ztext k := by
        refine List.ext_getElem hn (fun n g1 g2 => ?_)
        have := he n g1
        injection this with this
        rw [List.getD_eq_getElem?_getD, List.getD_eq_getElem?_getD, List.getElem?_eq_getElem g1, List.getElem?_eq_getElem g2] at this
        exact this
      rw [ztext_ne j hj k hk this]
  refine ⟨fun k hk => ⟨?_, l1 k hk⟩, fun i hi => ⟨?_, l2 i hi⟩, h3, fun q hq => ?_⟩
  · unfold zm0
    rw [find1 k hk]
  · unfold zm0
    rw [none1 i hi]
    show (match (List.range 18).find? (fun j => sa (100 + j) == sa (100 + i)) with | some i => _ | none => _) = _
    rw [find2 i hi]
  · cases he : zm0 sa q with
    | none => rfl
    | some e =>
      rcases zm0_some he with ⟨k, hk, e1, -⟩ | ⟨i, hi, e1, -⟩
      · exact absurd (l1 k hk) (by omega)
      · exact absurd (l2 i hi) (by omega)

theorem zt_all {args : Array Value} {s : State} (hts : ∀ w ∈ lw_tbl, w.before args s = true) : ∀ w ∈ zt, w.before args s = true := fun w hw => hts w (List.mem_filter.mp hw).1
theorem zin0 : Cond.instantiable RX0 3 ∈ zt := zt_at 468 (by decide +kernel)
theorem zin1 : Cond.instantiable RX1 6 ∈ zt := zt_at 414 (by decide +kernel)
theorem zin2 : Cond.instantiable RX2 4 ∈ zt := zt_at 240 (by decide +kernel)
theorem zin3 : Cond.instantiable RX3 4 ∈ zt := zt_at 266 (by decide +kernel)
theorem zin4 : Cond.instantiable RX4 13 ∈ zt := zt_at 354 (by decide +kernel)
theorem zin5 : Cond.instantiable RX5 3 ∈ zt := zt_at 439 (by decide +kernel)
theorem zin6 : Cond.instantiable RX6 5 ∈ zt := zt_at 288 (by decide +kernel)
theorem zin7 : Cond.instantiable RX7 9 ∈ zt := zt_at 159 (by decide +kernel)
theorem zin8 : Cond.instantiable RX8 2 ∈ zt := zt_at 455 (by decide +kernel)
theorem zin9 : Cond.instantiable RX9 13 ∈ zt := zt_at 166 (by decide +kernel)
theorem zin11 : Cond.instantiable RX11 7 ∈ zt := zt_at 151 (by decide +kernel)
theorem zin12 : Cond.instantiable RX12 54 ∈ zt := zt_at 1336 (by decide +kernel)
theorem zkn {args : Array Value} {s : State} (hts : ∀ w ∈ lw_tbl, w.before args s = true) {ci : Nat} {q : vw_C} {ty : Nat → FieldType} (h : zcOk ci q ty) (hi : Cond.instantiable q.1 q.2.2 ∈ zt) : ∃ (cC : ClassId) (iS : Nat → Nat), ∀ q', zcl[ci]? = some q' → u_Kn s q'.1 q'.2.1 q'.2.2 cC iS := by
  obtain ⟨cC, iS, h2⟩ := u_known (zt_all hts) h.2.1 (zt_all hts _ hi)
  exact ⟨cC, iS, fun q' hq => by rw [← Option.some.inj (h.1.symm.trans hq)]; exact h2⟩
theorem zkn_all {args : Array Value} {s : State} (hts : ∀ w ∈ lw_tbl, w.before args s = true) : ∀ c : Nat, ∃ (cC : ClassId) (iS : Nat → Nat), ∀ q, zcl[c]? = some q → u_Kn s q.1 q.2.1 q.2.2 cC iS := by
  intro c
  match c with
  | 0 => exact zkn hts zk0 zin0
  | 1 => exact zkn hts zk1 zin1
  | 2 => exact zkn hts zk2 zin2
  | 3 => exact zkn hts zk3 zin3
  | 4 => exact zkn hts zk4 zin4
  | 5 => exact zkn hts zk5 zin5
  | 6 => exact zkn hts zk6 zin6
  | 7 => exact zkn hts zk7 zin7
  | 8 => exact zkn hts zk8 zin8
  | 9 => exact zkn hts zk9 zin9
  | 11 => exact zkn hts zk11 zin11
  | 12 => exact zkn hts zk12 zin12
  | 10 =>
    obtain ⟨cC, iS, h⟩ := zkn hts zk9 zin9
    exact ⟨cC, iS, fun q hq => h q hq⟩
  | n + 13 => exact ⟨default, fun _ => 0, fun q hq => by simp [zcl] at hq⟩
theorem zac_int : Cond.arrayClass .int ∈ zt := zt_at 237 (by decide +kernel)
theorem zac_byte : Cond.arrayClass .byte ∈ zt := zt_at 236 (by decide +kernel)
theorem zac_boolean : Cond.arrayClass .boolean ∈ zt := zt_at 1504 (by decide +kernel)
theorem zao3 : Cond.arrayOver (.object (zoc 3)) ∈ lw_tbl := List.mem_of_getElem? (i := 352) (by decide +kernel)
theorem zao4 : Cond.arrayOver (.object (zoc 4)) ∈ lw_tbl := List.mem_of_getElem? (i := 165) (by decide +kernel)
theorem zao5 : Cond.arrayOver (.object (zoc 5)) ∈ lw_tbl := List.mem_of_getElem? (i := 239) (by decide +kernel)
theorem zao6 : Cond.arrayOver (.object (zoc 6)) ∈ lw_tbl := List.mem_of_getElem? (i := 265) (by decide +kernel)
theorem zao7 : Cond.arrayOver (.object (zoc 7)) ∈ lw_tbl := List.mem_of_getElem? (i := 287) (by decide +kernel)
theorem zar_p {args : Array Value} {s : State} {ty : FieldType} (h : (Cond.arrayClass ty).before args s = true) : ∃ cA, ArrOfT s cA ty ∧ s.vm.findClass ("[" ++ ty.toString) = some cA := by
  obtain ⟨cA, kA, comp, h1, h2, h3⟩ := Cond.arrayClass_spec h
  exact ⟨cA, fun n z => ⟨fun k h => (by cases h), kA, h2, comp, h3⟩, h1⟩
theorem zar_o {args : Array Value} {s : State} {C : String} (h : (Cond.arrayOver (.object C)).before args s = true) : ∃ cA, ArrOfT s cA (.object C) ∧ va_RA s cA (.object C) := by
  obtain ⟨comp, cA, kA, h1, -, h3, h4, h5⟩ := Cond.arrayOver_spec h
  exact ⟨cA, fun n z => ⟨fun k h => (by cases h), kA, h3, comp, h4⟩, kA, comp, h3, h4, h1, h5⟩
theorem zar_all {args : Array Value} {s : State} (hts : ∀ w ∈ lw_tbl, w.before args s = true) : ∀ t : Nat, ∃ cA, t < 12 → ArrOfT s cA (zty t) ∧ va_RA s cA (zty t) := by
  have hi := zar_p (zt_all hts _ zac_int)
  have hb := zar_p (zt_all hts _ zac_byte)
  have hz := zar_p (zt_all hts _ zac_boolean)
  intro t
  match t with
  | 0 => obtain ⟨c, h1, h2⟩ := hi; exact ⟨c, fun _ => ⟨h1, h2⟩⟩
  | 1 => obtain ⟨c, h1, h2⟩ := hb; exact ⟨c, fun _ => ⟨h1, h2⟩⟩
  | 2 => obtain ⟨c, h1, h2⟩ := hz; exact ⟨c, fun _ => ⟨h1, h2⟩⟩
  | 3 => obtain ⟨c, h1, h2⟩ := zar_o (hts _ zao3); exact ⟨c, fun _ => ⟨h1, h2⟩⟩
  | 4 => obtain ⟨c, h1, h2⟩ := zar_o (hts _ zao4); exact ⟨c, fun _ => ⟨h1, h2⟩⟩
  | 5 => obtain ⟨c, h1, h2⟩ := zar_o (hts _ zao5); exact ⟨c, fun _ => ⟨h1, h2⟩⟩
  | 6 => obtain ⟨c, h1, h2⟩ := zar_o (hts _ zao6); exact ⟨c, fun _ => ⟨h1, h2⟩⟩
  | 7 => obtain ⟨c, h1, h2⟩ := zar_o (hts _ zao7); exact ⟨c, fun _ => ⟨h1, h2⟩⟩
  | 8 => obtain ⟨c, h1, h2⟩ := hi; exact ⟨c, fun _ => ⟨h1, h2⟩⟩
  | 9 => obtain ⟨c, h1, h2⟩ := hi; exact ⟨c, fun _ => ⟨h1, h2⟩⟩
  | 10 => obtain ⟨c, h1, h2⟩ := hi; exact ⟨c, fun _ => ⟨h1, h2⟩⟩
  | 11 => obtain ⟨c, h1, h2⟩ := hb; exact ⟨c, fun _ => ⟨h1, h2⟩⟩
  | n + 12 => exact ⟨default, fun h => absurd h (by omega)⟩
theorem zao_all {args : Array Value} {s : State} (hts : ∀ w ∈ lw_tbl, w.before args s = true) : ∀ t : Nat, va_AO (zoc t) s := by
  intro t
  unfold zoc
  split
  · exact va_AO.of (hts _ zao3)
  · exact va_AO.of (hts _ zao4)
  · exact va_AO.of (hts _ zao5)
  · exact va_AO.of (hts _ zao6)
  · exact va_AO.of (hts _ zao7)

def ztm (k : Nat) : Term := .static (zsn k).1 (zsn k).2 "[I"
def zts (i : Nat) : Term := .string "TwoEchoes$Reader" (zsi i).1
abbrev znw : List Cond := flatC (Jvm.Cond.and given_1 narrow_1)
theorem zw_arr : ∀ k, k < 5 → Cond.arrayOf (ztm k) .int ∈ znw := by decide +kernel
theorem zw_len : ∀ k, k < 5 → Cond.eq (.length (ztm k)) (.int (Int32.ofNat (zrow k).length)) ∈ znw := by decide +kernel
theorem zw_el0 : ∀ j, j < (zrow 0).length → Cond.eq (.elem (ztm 0) (.int (Int32.ofNat j))) (.int ((zrow 0).getD j 0)) ∈ znw := by decide +kernel
theorem zw_el1 : ∀ j, j < (zrow 1).length → Cond.eq (.elem (ztm 1) (.int (Int32.ofNat j))) (.int ((zrow 1).getD j 0)) ∈ znw := by decide +kernel
theorem zw_el2 : ∀ j, j < (zrow 2).length → Cond.eq (.elem (ztm 2) (.int (Int32.ofNat j))) (.int ((zrow 2).getD j 0)) ∈ znw := by decide +kernel
theorem zw_el3 : ∀ j, j < (zrow 3).length → Cond.eq (.elem (ztm 3) (.int (Int32.ofNat j))) (.int ((zrow 3).getD j 0)) ∈ znw := by decide +kernel
theorem zw_el4 : ∀ j, j < (zrow 4).length → Cond.eq (.elem (ztm 4) (.int (Int32.ofNat j))) (.int ((zrow 4).getD j 0)) ∈ znw := by decide +kernel
theorem zw_el : ∀ k, k < 5 → ∀ j, j < (zrow k).length → Cond.eq (.elem (ztm k) (.int (Int32.ofNat j))) (.int ((zrow k).getD j 0)) ∈ znw := fun k hk => match k, hk with
  | 0, _ => zw_el0
  | 1, _ => zw_el1
  | 2, _ => zw_el2
  | 3, _ => zw_el3
  | 4, _ => zw_el4
  | n + 5, h => absurd h (by omega)
theorem zw_lay : ∀ k, k < 5 → Cond.laysStatic (zsn k).1 (zsn k).2 "[I" ∈ lw_tbl := by decide +kernel
theorem zw_ini : ∀ k, k < 5 → Cond.initialized (zsn k).1 ∈ lw_tbl := by decide +kernel
theorem zw_tex : ∀ i, i < 18 → Cond.exactly (zts i) "java/lang/String" ∈ znw := by decide +kernel
theorem zw_tco : ∀ i, i < 18 → Cond.eq (.field (zts i) "java/lang/String" "coder" "B") (.int 0) ∈ znw := by decide +kernel
theorem zw_tar : ∀ i, i < 18 → Cond.arrayOf (.field (zts i) "java/lang/String" "value" "[B") .byte ∈ znw := by decide +kernel
theorem zw_tle : ∀ i, i < 18 → Cond.eq (.length (.field (zts i) "java/lang/String" "value" "[B")) (.int (Int32.ofNat (ztext i).length)) ∈ znw := by decide +kernel
theorem zw_tel0 : ∀ j, j < (ztext 0).length → Cond.eq (.elem (.field (zts 0) "java/lang/String" "value" "[B") (.int (Int32.ofNat j))) (.int ((ztext 0).getD j 0)) ∈ znw := by decide +kernel
theorem zw_tel1 : ∀ j, j < (ztext 1).length → Cond.eq (.elem (.field (zts 1) "java/lang/String" "value" "[B") (.int (Int32.ofNat j))) (.int ((ztext 1).getD j 0)) ∈ znw := by decide +kernel
theorem zw_tel2 : ∀ j, j < (ztext 2).length → Cond.eq (.elem (.field (zts 2) "java/lang/String" "value" "[B") (.int (Int32.ofNat j))) (.int ((ztext 2).getD j 0)) ∈ znw := by decide +kernel
theorem zw_tel3 : ∀ j, j < (ztext 3).length → Cond.eq (.elem (.field (zts 3) "java/lang/String" "value" "[B") (.int (Int32.ofNat j))) (.int ((ztext 3).getD j 0)) ∈ znw := by decide +kernel
theorem zw_tel4 : ∀ j, j < (ztext 4).length → Cond.eq (.elem (.field (zts 4) "java/lang/String" "value" "[B") (.int (Int32.ofNat j))) (.int ((ztext 4).getD j 0)) ∈ znw := by decide +kernel
theorem zw_tel5 : ∀ j, j < (ztext 5).length → Cond.eq (.elem (.field (zts 5) "java/lang/String" "value" "[B") (.int (Int32.ofNat j))) (.int ((ztext 5).getD j 0)) ∈ znw := by decide +kernel
theorem zw_tel6 : ∀ j, j < (ztext 6).length → Cond.eq (.elem (.field (zts 6) "java/lang/String" "value" "[B") (.int (Int32.ofNat j))) (.int ((ztext 6).getD j 0)) ∈ znw := by decide +kernel
theorem zw_tel7 : ∀ j, j < (ztext 7).length → Cond.eq (.elem (.field (zts 7) "java/lang/String" "value" "[B") (.int (Int32.ofNat j))) (.int ((ztext 7).getD j 0)) ∈ znw := by decide +kernel
theorem zw_tel8 : ∀ j, j < (ztext 8).length → Cond.eq (.elem (.field (zts 8) "java/lang/String" "value" "[B") (.int (Int32.ofNat j))) (.int ((ztext 8).getD j 0)) ∈ znw := by decide +kernel
theorem zw_tel9 : ∀ j, j < (ztext 9).length → Cond.eq (.elem (.field (zts 9) "java/lang/String" "value" "[B") (.int (Int32.ofNat j))) (.int ((ztext 9).getD j 0)) ∈ znw := by decide +kernel
theorem zw_tel10 : ∀ j, j < (ztext 10).length → Cond.eq (.elem (.field (zts 10) "java/lang/String" "value" "[B") (.int (Int32.ofNat j))) (.int ((ztext 10).getD j 0)) ∈ znw := by decide +kernel
theorem zw_tel11 : ∀ j, j < (ztext 11).length → Cond.eq (.elem (.field (zts 11) "java/lang/String" "value" "[B") (.int (Int32.ofNat j))) (.int ((ztext 11).getD j 0)) ∈ znw := by decide +kernel
theorem zw_tel12 : ∀ j, j < (ztext 12).length → Cond.eq (.elem (.field (zts 12) "java/lang/String" "value" "[B") (.int (Int32.ofNat j))) (.int ((ztext 12).getD j 0)) ∈ znw := by decide +kernel
theorem zw_tel13 : ∀ j, j < (ztext 13).length → Cond.eq (.elem (.field (zts 13) "java/lang/String" "value" "[B") (.int (Int32.ofNat j))) (.int ((ztext 13).getD j 0)) ∈ znw := by decide +kernel
theorem zw_tel14 : ∀ j, j < (ztext 14).length → Cond.eq (.elem (.field (zts 14) "java/lang/String" "value" "[B") (.int (Int32.ofNat j))) (.int ((ztext 14).getD j 0)) ∈ znw := by decide +kernel
theorem zw_tel15 : ∀ j, j < (ztext 15).length → Cond.eq (.elem (.field (zts 15) "java/lang/String" "value" "[B") (.int (Int32.ofNat j))) (.int ((ztext 15).getD j 0)) ∈ znw := by decide +kernel
theorem zw_tel16 : ∀ j, j < (ztext 16).length → Cond.eq (.elem (.field (zts 16) "java/lang/String" "value" "[B") (.int (Int32.ofNat j))) (.int ((ztext 16).getD j 0)) ∈ znw := by decide +kernel
theorem zw_tel17 : ∀ j, j < (ztext 17).length → Cond.eq (.elem (.field (zts 17) "java/lang/String" "value" "[B") (.int (Int32.ofNat j))) (.int ((ztext 17).getD j 0)) ∈ znw := by decide +kernel
theorem zw_tel : ∀ i, i < 18 → ∀ j, j < (ztext i).length → Cond.eq (.elem (.field (zts i) "java/lang/String" "value" "[B") (.int (Int32.ofNat j))) (.int ((ztext i).getD j 0)) ∈ znw := fun i hi => match i, hi with
  | 0, _ => zw_tel0
  | 1, _ => zw_tel1
  | 2, _ => zw_tel2
  | 3, _ => zw_tel3
  | 4, _ => zw_tel4
  | 5, _ => zw_tel5
  | 6, _ => zw_tel6
  | 7, _ => zw_tel7
  | 8, _ => zw_tel8
  | 9, _ => zw_tel9
  | 10, _ => zw_tel10
  | 11, _ => zw_tel11
  | 12, _ => zw_tel12
  | 13, _ => zw_tel13
  | 14, _ => zw_tel14
  | 15, _ => zw_tel15
  | 16, _ => zw_tel16
  | 17, _ => zw_tel17
  | n + 18, h => absurd h (by omega)
theorem zw_tsr : ∀ i, i < 18 → Cond.stringRef "TwoEchoes$Reader" (zsi i).1 (zsi i).2 ∈ lw_tbl := by decide +kernel
set_option maxHeartbeats 4000000 in
/-- THE START: tables and memory -/
theorem zstart {b : Nat} {s : State} (hts : ∀ w ∈ lw_tbl, w.before #[Value.ref b] s = true) (hgv : (Jvm.Cond.and given_1 narrow_1).before #[Value.ref b] s = true) : ∃ (G : zG), G.2.2.1 = s.heap.size ∧ zD G.2.2.2 s.heap.size ∧ zK G s ∧ zR G (zm0 G.2.2.2, s.heap.size, G.2.2.2) s s.heap := by
  have hn : ∀ c ∈ znw, c.before #[Value.ref b] s = true := flat_of_before _ hgv
  have hA : ∀ a : Nat, a < s.heap.size → ¬ (fun q : Nat => s.heap.size ≤ q) a := fun a h => Nat.not_le.mpr h
  have hT : ∀ k : Nat, ∃ t : Nat, k < 5 → (ztm k).eval #[Value.ref b] s none [] s = some (.ref t) ∧ va_T .int t (zrow k).length (fun j => .int ((zrow k).getD j 0)) (fun q : Nat => s.heap.size ≤ q) s s.heap := by
    intro k
    by_cases hk : k < 5
    · obtain ⟨t, h1, h2⟩ := va_Tof (f := fun j => .int ((zrow k).getD j 0)) (A := fun q : Nat => s.heap.size ≤ q) (zrow_lt k hk) (hn _ (zw_arr k hk)) (va_eqt (hn _ (zw_len k hk))) (fun j hj => va_eqt (hn _ (zw_el k hk j hj))) hA
      exact ⟨t, fun _ => ⟨h1, h2⟩⟩
    · exact ⟨0, fun h => absurd h hk⟩
  have hS0 : ∀ i : Nat, ∃ q : Nat × Nat, i < 18 → (zts i).eval #[Value.ref b] s none [] s = some (.ref q.1) ∧ va_O "java/lang/String" q.1 (fun q : Nat => s.heap.size ≤ q) s s.heap ∧ va_OF "java/lang/String" "coder" "B" (.int 0) q.1 (fun q : Nat => s.heap.size ≤ q) s s.heap ∧ va_OF "java/lang/String" "value" "[B" (.ref q.2) q.1 (fun q : Nat => s.heap.size ≤ q) s s.heap ∧ va_T .byte q.2 (ztext i).length (fun j => .int ((ztext i).getD j 0)) (fun q : Nat => s.heap.size ≤ q) s s.heap := by
    intro i
    by_cases hi : i < 18
    · have z : ∀ k : Nat, k < 1 → k = 0 := fun k hk => by omega
      obtain ⟨adK, adV, hS, hev⟩ := vk_Sof (args := #[Value.ref b]) (s := s) (tm := fun _ => zts i) (N := 1) (len := [(ztext i).length]) (byt := [ztext i]) (A := fun q : Nat => s.heap.size ≤ q) (fun k hk => by rw [z k hk]; exact ztext_lt i hi) (fun k hk => hn _ (zw_tex i hi)) (fun k hk => hn _ (zw_tco i hi)) (fun k hk => hn _ (zw_tar i hi)) (fun k hk => by rw [z k hk]; exact hn _ (zw_tle i hi)) (fun k hk j hj => by rw [z k hk] at hj ⊢; exact hn _ (zw_tel i hi j hj)) (fun k j hk hj hne => absurd ((z k hk).trans (z j hj).symm) hne) hA
      exact ⟨(adK 0, adV 0), fun _ => ⟨hev 0 (by omega), (hS.1 0 (by omega)).1, (hS.1 0 (by omega)).2.1, (hS.1 0 (by omega)).2.2.1, (hS.1 0 (by omega)).2.2.2⟩⟩
    · exact ⟨(0, 0), fun h => absurd h hi⟩
  obtain ⟨ad, had⟩ : ∃ ad : Nat → Nat × Nat, ∀ i, i < 18 → (zts i).eval #[Value.ref b] s none [] s = some (.ref (ad i).1) ∧ va_O "java/lang/String" (ad i).1 (fun q : Nat => s.heap.size ≤ q) s s.heap ∧ va_OF "java/lang/String" "coder" "B" (.int 0) (ad i).1 (fun q : Nat => s.heap.size ≤ q) s s.heap ∧ va_OF "java/lang/String" "value" "[B" (.ref (ad i).2) (ad i).1 (fun q : Nat => s.heap.size ≤ q) s s.heap ∧ va_T .byte (ad i).2 (ztext i).length (fun j => .int ((ztext i).getD j 0)) (fun q : Nat => s.heap.size ≤ q) s s.heap := ⟨fun i => Classical.choose (hS0 i), fun i => Classical.choose_spec (hS0 i)⟩
  have hinj : ∀ i j, i < 18 → j < 18 → (ad i).1 = (ad j).1 → i = j := by
    intro i j hi hj e
    have h1 := (had i hi).2.2.2.1
    have h2 := (had j hj).2.2.2.1
    rw [e] at h1
    obtain ⟨_, _, _, f, cell, a1, -, a3, -, a5, -⟩ := h1
    obtain ⟨_, _, _, f', cell', b1, -, b3, -, b5, -⟩ := h2
    cases a1.symm.trans b1
    cases a3.symm.trans b3
    have hv := Option.some.inj (a5.symm.trans b5)
    injection hv with hv
    have h3 := (had i hi).2.2.2.2
    rw [hv] at h3
    obtain ⟨-, hn, he⟩ := zT_one (ztext_lt i hi) (ztext_lt j hj) h3 (had j hj).2.2.2.2
    have : ztext i = ztext j := by
      refine List.ext_getElem hn (fun n g1 g2 => ?_)
      have := he n g1
      injection this with this
      rw [List.getD_eq_getElem?_getD, List.getD_eq_getElem?_getD, List.getElem?_eq_getElem g1, List.getElem?_eq_getElem g2] at this
      exact this
    exact ztext_ne i hi j hj this
  obtain ⟨st, hst⟩ : ∃ st : Nat → Nat, ∀ k, k < 5 → (ztm k).eval #[Value.ref b] s none [] s = some (.ref (st k)) ∧ va_T .int (st k) (zrow k).length (fun j => .int ((zrow k).getD j 0)) (fun q : Nat => s.heap.size ≤ q) s s.heap := ⟨fun k => Classical.choose (hT k), fun k => Classical.choose_spec (hT k)⟩
  obtain ⟨fmv, hfv, hfr⟩ := Cond.isRef_spec (hn (Cond.isRef (.static "jdk/internal/util/Preconditions" "SIOOBE_FORMATTER" "Ljava/util/function/BiFunction;")) (by decide +kernel))
  obtain ⟨fm, hfm⟩ : ∃ fm : Nat, va_rf (if fm = 0 then none else some (fm - 1)) = fmv := by
    cases fmv with
    | null => exact ⟨0, rfl⟩
    | ref a => exact ⟨a + 1, by simp [va_rf]⟩
    | _ => simp [Value.isRef] at hfr
  obtain ⟨sa, sa1, sa2, sa3, sa4⟩ : ∃ sa : Nat → Nat, (∀ k, k < 5 → sa k = st k) ∧ (∀ i, i < 18 → sa (10 + i) = (ad i).1) ∧ (∀ i, i < 18 → sa (100 + i) = (ad i).2) ∧ sa 60 = fm := by
    refine ⟨fun n => if n < 5 then st n else if n < 30 then (ad (n - 10)).1 else if n = 60 then fm else (ad (n - 100)).2, fun k hk => by simp [hk], fun i hi => ?_, fun i hi => ?_, by simp⟩
    · simp only [show ¬ 10 + i < 5 by omega, if_false, show 10 + i < 30 by omega, if_true, show 10 + i - 10 = i by omega]
    · simp only [show ¬ 100 + i < 5 by omega, if_false, show ¬ 100 + i < 30 by omega, show ¬ 100 + i = 60 by omega, show 100 + i - 100 = i by omega]
  obtain ⟨dC, hdC⟩ : ∃ dC : Nat → ClassId, ∀ c, ∃ iS : Nat → Nat, ∀ q, zcl[c]? = some q → u_Kn s q.1 q.2.1 q.2.2 (dC c) iS := ⟨fun c => Classical.choose (zkn_all hts c), fun c => Classical.choose_spec (zkn_all hts c)⟩
  obtain ⟨dI, hdI⟩ : ∃ dI : Nat → Nat → Nat, ∀ c q, zcl[c]? = some q → u_Kn s q.1 q.2.1 q.2.2 (dC c) (dI c) := ⟨fun c => Classical.choose (hdC c), fun c => Classical.choose_spec (hdC c)⟩
  obtain ⟨ts, hts2⟩ : ∃ ts : Nat → ClassId, ∀ t, t < 12 → ArrOfT s (ts t) (zty t) ∧ va_RA s (ts t) (zty t) := ⟨fun t => Classical.choose (zar_all hts t), fun t => Classical.choose_spec (zar_all hts t)⟩
  have hT1 : ∀ k, k < 5 → va_T .int (sa k) (zrow k).length (fun j => .int ((zrow k).getD j 0)) (fun q : Nat => s.heap.size ≤ q) s s.heap := fun k hk => by rw [sa1 k hk]; exact (hst k hk).2
  have hT2 : ∀ i, i < 18 → va_T .byte (sa (100 + i)) (ztext i).length (fun j => .int ((ztext i).getD j 0)) (fun q : Nat => s.heap.size ≤ q) s s.heap := fun i hi => by
    rw [sa3 i hi]
    exact (had i hi).2.2.2.2
  refine ⟨((dC, dI), ts, s.heap.size, sa), rfl, zD_of (A := fun q : Nat => s.heap.size ≤ q) (fun a h => Nat.not_le.mp h) hT1 hT2 (fun i j hi hj e => hinj i j hi hj (by rw [← sa2 i hi, ← sa2 j hj]; exact e)), ⟨⟨hdI, fun k q h => by simp at h⟩, hts2, zao_all hts, fun w hw => va_Nw.of (zn_tab hw) (hts w (List.mem_filter.mp hw).1), fun i hi => ?_⟩, rfl, Nat.le_refl _, fun q e he => ⟨fun hw => ?_, fun _ => ?_⟩, rfl, fun k hk => ?_, ?_, ?_, fun i hi => ?_⟩
  · show vk_R _ _ _ (sa (10 + i)) s
    rw [sa2 i hi]
    exact vk_R.of (hts _ (zw_tsr i hi)) (had i hi).1
  · rcases zm0_some he with ⟨k, hk, e1, rfl⟩ | ⟨i, hi, e1, rfl⟩ <;> simp [zrw] at hw
  · rcases zm0_some he with ⟨k, hk, e1, rfl⟩ | ⟨i, hi, e1, rfl⟩
    · rw [← e1]; exact hT1 k hk
    · rw [← e1]; exact hT2 i hi
  · show va_Z _ _ _ (.ref (sa k)) _ s s.heap
    rw [sa1 k hk]
    exact va_Zof (hts _ (zw_lay k hk)) (hts _ (zw_ini k hk)) (hst k hk).1 hA
  · exact va_Zof (hts (Cond.laysStatic "java/lang/String" "COMPACT_STRINGS" "Z") (by decide +kernel)) (hts (Cond.initialized "java/lang/String") (by decide +kernel)) (va_eqi (hn _ (by decide +kernel))) hA
  · show va_Z _ _ _ (va_rf (zfm sa)) _ s s.heap
    rw [show va_rf (zfm sa) = fmv from by rw [← hfm, ← sa4]; rfl]
    exact va_Zof (hts (Cond.laysStatic "jdk/internal/util/Preconditions" "SIOOBE_FORMATTER" "Ljava/util/function/BiFunction;") (by decide +kernel)) (hts (Cond.initialized "jdk/internal/util/Preconditions") (by decide +kernel)) hfv hA
  · show va_O _ (sa (10 + i)) _ s s.heap ∧ va_OF _ _ _ _ (sa (10 + i)) _ s s.heap ∧ va_OF _ _ _ (.ref (sa (100 + i))) (sa (10 + i)) _ s s.heap
    rw [sa2 i hi, sa3 i hi]
    exact ⟨(had i hi).2.1, (had i hi).2.2.1, (had i hi).2.2.2.1⟩

