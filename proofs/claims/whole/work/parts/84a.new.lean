/-! new cells, one behind the other -/
def al (μ : zM) (L : List zE) : zM := (fun q => if q < μ.2.1 then μ.1 q else match L[q - μ.2.1]? with
  | some e => some e
  | none => μ.1 q, μ.2.1 + L.length, μ.2.2)
theorem al_lo {μ : zM} {L : List zE} {q : Nat} (h : q < μ.2.1) : (al μ L).1 q = μ.1 q := if_pos h
theorem al_in {μ : zM} {L : List zE} {i : Nat} {e : zE} (h : L[i]? = some e) : (al μ L).1 (μ.2.1 + i) = some e := by
  show (if μ.2.1 + i < μ.2.1 then μ.1 (μ.2.1 + i) else match L[μ.2.1 + i - μ.2.1]? with
  | some e => some e
  | none => μ.1 (μ.2.1 + i)) = _
  rw [if_neg (by omega), Nat.add_sub_cancel_left, h]
theorem al_hi {μ : zM} {L : List zE} {q : Nat} (h : μ.2.1 + L.length ≤ q) : (al μ L).1 q = μ.1 q := by
  show (if q < μ.2.1 then μ.1 q else match L[q - μ.2.1]? with
  | some e => some e
  | none => μ.1 q) = _
  rw [if_neg (by omega), List.getElem?_eq_none (by omega)]
theorem al_ext {μ μ' : zM} {L : List zE} (h1 : ∀ q, q < μ.2.1 → μ'.1 q = μ.1 q) (h2 : ∀ i e, L[i]? = some e → μ'.1 (μ.2.1 + i) = some e) (h3 : ∀ q, μ.2.1 + L.length ≤ q → μ'.1 q = μ.1 q) (h4 : μ'.2.1 = μ.2.1 + L.length) (h5 : μ'.2.2 = μ.2.2) : μ' = al μ L := by
  refine Prod.ext (funext fun q => ?_) (Prod.ext h4 h5)
  by_cases c : q < μ.2.1
  · rw [h1 q c, al_lo c]
  · by_cases c2 : μ.2.1 + L.length ≤ q
    · rw [h3 q c2, al_hi c2]
    · obtain ⟨i, rfl⟩ : ∃ i, q = μ.2.1 + i := ⟨q - μ.2.1, by omega⟩
      have hi : i < L.length := by omega
      rw [h2 i _ (List.getElem?_eq_getElem hi), al_in (List.getElem?_eq_getElem hi)]
theorem al_nw {μ : zM} {L : List zE} {e : zE} : zm_nw (al μ L) e = al μ (L ++ [e]) := by
  refine al_ext (fun q hq => ?_) (fun i e' he => ?_) (fun q hq => ?_) (by show μ.2.1 + L.length + 1 = _; rw [List.length_append]; rfl) rfl
  · show (if q = μ.2.1 + L.length then some e else (al μ L).1 q) = _
    rw [if_neg (by omega), al_lo hq]
  · show (if μ.2.1 + i = μ.2.1 + L.length then some e else (al μ L).1 (μ.2.1 + i)) = _
    by_cases c : i = L.length
    · subst c
      rw [if_pos rfl]
      rw [List.getElem?_append_right (Nat.le_refl _), Nat.sub_self] at he
      exact he
    · have hl : i < (L ++ [e]).length := (List.getElem?_eq_some_iff.mp he).1
      rw [List.length_append] at hl
      have hl : i < L.length + 1 := hl
      rw [if_neg (by omega)]
      rw [List.getElem?_append_left (by omega)] at he
      exact al_in he
  · rw [List.length_append] at hq
    have hq : μ.2.1 + (L.length + 1) ≤ q := hq
    show (if q = μ.2.1 + L.length then some e else (al μ L).1 q) = _
    rw [if_neg (by omega), al_hi (by omega)]
theorem al_1 {μ : zM} {e : zE} : zm_nw μ e = al μ [e] := by
  refine al_ext (fun q hq => if_neg (by omega)) (fun i e' he => ?_) (fun q hq => if_neg (by have : μ.2.1 + 1 ≤ q := hq; omega)) rfl rfl
  have hl : i < 1 := (List.getElem?_eq_some_iff.mp he).1
  obtain rfl : i = 0 := by omega
  exact (if_pos rfl).trans he
theorem al_t {μ : zM} {P Q : List zE} : al (al μ P) Q = al μ (P ++ Q) := by
  refine al_ext (fun q hq => ?_) (fun i e he => ?_) (fun q hq => ?_) (by show μ.2.1 + P.length + Q.length = _; rw [List.length_append]; omega) rfl
  · rw [al_lo (show q < (al μ P).2.1 from Nat.lt_of_lt_of_le hq (Nat.le_add_right _ _)), al_lo hq]
  · by_cases c : i < P.length
    · rw [List.getElem?_append_left c] at he
      rw [al_lo (show μ.2.1 + i < μ.2.1 + P.length by omega), al_in he]
    · rw [List.getElem?_append_right (by omega)] at he
      have := al_in (μ := al μ P) he
      rw [show (al μ P).2.1 + (i - P.length) = μ.2.1 + i by show μ.2.1 + P.length + (i - P.length) = _; omega] at this
      exact this
  · rw [List.length_append] at hq
    rw [al_hi (show μ.2.1 + P.length + Q.length ≤ q by omega), al_hi (by omega)]
theorem al_up {μ : zM} {L : List zE} {i : Nat} {e : zE} (hi : i < L.length) : zm_up (al μ L) (μ.2.1 + i) e = al μ (L.set i e) := by
  refine al_ext (fun q hq => ?_) (fun j e' he => ?_) (fun q hq => ?_) (by rw [List.length_set]; rfl) rfl
  · show (if q = μ.2.1 + i then some e else (al μ L).1 q) = _
    rw [if_neg (by omega), al_lo hq]
  · show (if μ.2.1 + j = μ.2.1 + i then some e else (al μ L).1 (μ.2.1 + j)) = _
    by_cases c : j = i
    · subst c
      rw [List.getElem?_set_self hi] at he
      rw [if_pos rfl]; exact he
    · rw [if_neg (by omega)]
      rw [List.getElem?_set_ne (fun z => c z.symm)] at he
      exact al_in he
  · rw [List.length_set] at hq
    show (if q = μ.2.1 + i then some e else (al μ L).1 q) = _
    rw [if_neg (by omega), al_hi hq]
def alP (L : List zE) (c i k : Nat) (v : Value) : Option (List zE) := match L[i]? with
  | some (.inr (c', fs)) => if c' = c ∧ k < fs.length then some (L.set i (.inr (c', fs.set k v))) else none
  | _ => none
def alK (L : List zE) (c i : Nat) : Bool := match L[i]? with
  | some (.inr (c', _)) => c' == c
  | _ => false
def alQ (L : List zE) (t c i k j : Nat) (v : Nat) : Option (List zE) := match L[i]? with
  | some (.inl (u, n, .inr (.inr (.inr (.inr f))))) => if u = t ∧ alK L c j = true ∧ k < n then some (L.set i (.inl (t, n, .inr (.inr (.inr (.inr (va_up f k (some v)))))))) else none
  | _ => none
def alG (L : List zE) (c i k : Nat) : Option Nat := match L[i]? with
  | some (.inr (c', fs)) => if c' = c then (match fs[k]? with
    | some (.ref v) => some v
    | _ => none) else none
  | _ => none
theorem st_nw {R : Type} {μ : zM} {L : List zE} {e : zE} {K : zM → Option R} {r : Option R} (hK : K (al μ (L ++ [e])) = r) : zb1 (some (zm_nw (al μ L) e)) K = r := by
  rw [al_nw, wb1]; exact hK
theorem st_p {R : Type} {μ : zM} {L L' : List zE} {c i k : Nat} {v : Value} {K : zM → Option R} {r : Option R} (h : alP L c i k v = some L') (hK : K (al μ L') = r) : zb1 (zm_p (al μ L) c (μ.2.1 + i) k v) K = r := by
  unfold alP at h
  split at h
  · next c' fs he =>
    split at h
    · next hc =>
      have hi : i < L.length := (List.getElem?_eq_some_iff.mp he).1
      have : zm_p (al μ L) c (μ.2.1 + i) k v = some (al μ L') := by
        unfold zm_p
        rw [al_in he]
        show (if c' = c ∧ k < fs.length then some (zm_up (al μ L) (μ.2.1 + i) (.inr (c', fs.set k v))) else none) = _
        rw [if_pos hc, al_up hi, Option.some.inj h]
      rw [this, wb1]; exact hK
    · cases h
  · cases h
theorem al_ck {μ : zM} {L : List zE} {c j : Nat} (h : alK L c j = true) : zm_ck (al μ L) c (μ.2.1 + j) = true := by
  unfold alK at h
  split at h
  · next c' fs he =>
    unfold zm_ck
    rw [al_in he]
    exact h
  · cases h
theorem st_q {R : Type} {μ : zM} {L L' : List zE} {t c i k j : Nat} {K : zM → Option R} {r : Option R} (hk : k < 2) (h : alQ L t c i k j (μ.2.1 + j) = some L') (hK : K (al μ L') = r) : zb1 (zm_sQ (al μ L) t c (μ.2.1 + i) (J k) (μ.2.1 + j)) K = r := by
  unfold alQ at h
  split at h
  · next u n f he =>
    split at h
    · next hc =>
      have hi : i < L.length := (List.getElem?_eq_some_iff.mp he).1
      have hkk : (J k).toNatClampNeg = k := by rcases (show k = 0 ∨ k = 1 by omega) with rfl | rfl <;> rfl
      have : zm_sQ (al μ L) t c (μ.2.1 + i) (J k) (μ.2.1 + j) = some (al μ L') := by
        unfold zm_sQ
        rw [al_in he]
        show (if u = t ∧ zm_ck (al μ L) c (μ.2.1 + j) = true ∧ ¬ (J k < 0 ∨ n ≤ (J k).toNatClampNeg) then some (zm_up (al μ L) (μ.2.1 + i) (.inl (t, n, .inr (.inr (.inr (.inr (va_up f (J k).toNatClampNeg (some (μ.2.1 + j))))))))) else none) = _
        rw [if_pos ⟨hc.1, al_ck hc.2.1, fun z => by
          rcases z with z | z
          · rw [show (0 : Int32) = J 0 from rfl, J_lt (by omega) (by omega)] at z; omega
          · rw [hkk] at z; have := hc.2.2; omega⟩, al_up hi, hkk, Option.some.inj h]
      rw [this, wb1]; exact hK
    · cases h
  · cases h
theorem st_g {R : Type} {μ : zM} {L : List zE} {c i k v : Nat} {K : Nat → Option R} {r : Option R} (h : alG L c i k = some v) (hK : K v = r) : zb1 (zm_gR (al μ L) c (μ.2.1 + i) k) K = r := by
  unfold alG at h
  split at h
  · next c' fs he =>
    split at h
    · next hc =>
      have : zm_gR (al μ L) c (μ.2.1 + i) k = some v := by
        unfold zm_gR zm_g
        rw [al_in he]
        show (match (if c' = c then fs[k]? else none) with
          | some (.ref v) => some v
          | _ => none) = _
        rw [if_pos hc]
        exact h
      rw [this, wb1]; exact hK
    · cases h
  · cases h
theorem st_f {R : Type} {f : zM → Nat → Option zM} {o : zE} {cs : Nat → List zE} (hf : ∀ μ : zM, f (al μ [o]) (μ.2.1 + 0) = some (al μ (cs μ.2.1))) {μ : zM} {L : List zE} {K : zM → Option R} {r : Option R} (hK : K (al μ (L ++ cs (μ.2.1 + L.length))) = r) : zb1 (f (al μ (L ++ [o])) (μ.2.1 + L.length)) K = r := by
  have := hf (al μ L)
  rw [← al_1, al_nw, al_t] at this
  rw [show f (al μ (L ++ [o])) (μ.2.1 + L.length) = some (al μ (L ++ cs (μ.2.1 + L.length))) from this, wb1]; exact hK
def o9 : zE := .inr (9, [.int 0, .null, .null, .null, .int 0, .null, .null, .null, .int 0, .null, .null, .null, .null])
def o2 : zE := .inr (2, [.int 0, .null, .null, .null])
def o3 : zE := .inr (3, [.int 0, .int 0, .null, .null])
def o6 : zE := .inr (6, [.int 0, .null, .null, .null, .null])
def o7 : zE := .inr (7, [.null, .int 0, .int 0, .int 0, .null, .null, .null, .null, .null])
def arz (n : Nat) : zE := .inl (0, n, .inl (fun _ => 0))
def cz9 (B : Nat) : List zE := [.inr (9, [.int 0, .ref (B + 1), .ref (B + 2), .ref (B + 3), .int 0, .ref (B + 4), .ref (B + 5), .ref (B + 6), .int 0, .ref (B + 7), .ref (B + 8), .ref (B + 9), .ref (B + 10)]), arz 8, arz 8, arz 8, arz 6, arz 6, arz 6, arz 4, arz 4, arz 4, arz 100]
def cz2 (B : Nat) : List zE := [.inr (2, [.int 0, .ref (B + 1), .ref (B + 2), .ref (B + 3)]), arz 40, arz 40, arz 40]
def cz3 (B : Nat) : List zE := [.inr (3, [.int 0, .int 0, .ref (B + 1), .ref (B + 2)]), arz 10, arz 10]
def cz6 (B : Nat) : List zE := [.inr (6, [.int 0, .ref (B + 1), .ref (B + 2), .ref (B + 3), .ref (B + 4)]), arz 8, arz 8, arz 8, arz 8]
theorem st_p0 {R : Type} {μ : zM} {L T : List zE} {c k : Nat} {fs fs' : List Value} {v : Value} {K : zM → Option R} {r : Option R} (hL : L = .inr (c, fs) :: T) (hk : Nat.ble (k + 1) fs.length = true) (hs : fs.set k v = fs') (hK : K (al μ (.inr (c, fs') :: T)) = r) : zb1 (zm_p (al μ L) c (μ.2.1 + 0) k v) K = r := by
  subst hL
  subst hs
  refine st_p (i := 0) (L' := .inr (c, fs.set k v) :: T) ?_ hK
  show (if c = c ∧ k < fs.length then some (.inr (c, fs.set k v) :: T) else none : Option (List zE)) = _
  rw [if_pos ⟨rfl, Nat.le_of_ble_eq_true hk⟩]
def vr0 (t : Nat) : zE := .inl (t, 2, .inr (.inr (.inr (.inr (fun _ => none)))))
theorem F9 (μ : zM) : fX9_init (al μ [o9]) (μ.2.1 + 0) = some (al μ (cz9 μ.2.1)) := by
  unfold fX9_init
  refine st_nw ?_
  refine st_p0 rfl rfl rfl ?_
  refine st_nw ?_
  refine st_p0 rfl rfl rfl ?_
  refine st_nw ?_
  refine st_p0 rfl rfl rfl ?_
  refine st_nw ?_
  refine st_p0 rfl rfl rfl ?_
  refine st_nw ?_
  refine st_p0 rfl rfl rfl ?_
  refine st_nw ?_
  refine st_p0 rfl rfl rfl ?_
  refine st_nw ?_
  refine st_p0 rfl rfl rfl ?_
  refine st_nw ?_
  refine st_p0 rfl rfl rfl ?_
  refine st_nw ?_
  refine st_p0 rfl rfl rfl ?_
  refine st_nw ?_
  refine st_p0 rfl rfl rfl ?_
  rfl
theorem F2 (μ : zM) : fX2_init (al μ [o2]) (μ.2.1 + 0) = some (al μ (cz2 μ.2.1)) := by
  unfold fX2_init
  refine st_nw ?_
  refine st_p0 rfl rfl rfl ?_
  refine st_nw ?_
  refine st_p0 rfl rfl rfl ?_
  refine st_nw ?_
  refine st_p0 rfl rfl rfl ?_
  rfl
theorem F3 (μ : zM) : fX3_init (al μ [o3]) (μ.2.1 + 0) = some (al μ (cz3 μ.2.1)) := by
  unfold fX3_init
  refine st_nw ?_
  refine st_p0 rfl rfl rfl ?_
  refine st_nw ?_
  refine st_p0 rfl rfl rfl ?_
  rfl
theorem F6 (μ : zM) : fX6_init (al μ [o6]) (μ.2.1 + 0) = some (al μ (cz6 μ.2.1)) := by
  unfold fX6_init
  refine st_nw ?_
  refine st_p0 rfl rfl rfl ?_
  refine st_nw ?_
  refine st_p0 rfl rfl rfl ?_
  refine st_nw ?_
  refine st_p0 rfl rfl rfl ?_
  refine st_nw ?_
  refine st_p0 rfl rfl rfl ?_
  rfl
def vr (t s B : Nat) : zE := .inl (t, 2, .inr (.inr (.inr (.inr (va_up (va_up (fun _ => none) 0 (some (B + 1))) 1 (some (B + 1 + s)))))))
theorem st_row {R : Type} {f : zM → Nat → Option zM} {o : zE} {cs : Nat → List zE} {t c s : Nat} (hf : ∀ μ : zM, f (al μ [o]) (μ.2.1 + 0) = some (al μ (cs μ.2.1))) (hc : ∀ B, ∃ fs T, cs B = .inr (c, fs) :: T) (hs : ∀ B, (cs B).length = s) {μ : zM} {L : List zE} {K : zM → Option R} {r : Option R} (hK : K (al μ (L ++ vr t s (μ.2.1 + L.length) :: (cs (μ.2.1 + (L.length + 1)) ++ cs (μ.2.1 + (L.length + 1 + s))))) = r) : (zb1 (some (zm_nw (al μ L) (vr0 t))) fun m15 => zb1 (some (zm_nw m15 o)) fun m17 => zb1 (f m17 m15.2.1) fun m20 => zb1 (zm_sQ m20 t c (al μ L).2.1 0 m15.2.1) fun m21 => zb1 (some (zm_nw m21 o)) fun m23 => zb1 (f m23 m21.2.1) fun m26 => zb1 (zm_sQ m26 t c (al μ L).2.1 1 m21.2.1) K) = r := by
  obtain ⟨fs, T, h1⟩ := hc (μ.2.1 + (L.length + 1))
  obtain ⟨fs', T', h2⟩ := hc (μ.2.1 + (L.length + 1 + s))
  have hs1 := hs (μ.2.1 + (L.length + 1))
  have e1 : (L ++ [vr0 t]).length = L.length + 1 := by rw [List.length_append]; rfl
  refine st_nw ?_
  refine st_nw ?_
  refine st_f hf ?_
  rw [e1]
  have e2 : L ++ [vr0 t] ++ cs (μ.2.1 + (L.length + 1)) = L ++ vr0 t :: cs (μ.2.1 + (L.length + 1)) := by rw [List.append_assoc]; rfl
  rw [e2]
  have g0 : ∀ (x : zE) (Z : List zE), (L ++ x :: Z)[L.length]? = some x := fun x Z => by rw [List.getElem?_append_right (Nat.le_refl _), Nat.sub_self]; rfl
  have g1 : ∀ (x y : zE) (Z : List zE), (L ++ x :: y :: Z)[L.length + 1]? = some y := fun x y Z => by rw [List.getElem?_append_right (show L.length ≤ L.length + 1 by omega), Nat.add_sub_cancel_left]; rfl
  have gs : ∀ (x y : zE) (Z : List zE), (L ++ x :: Z).set L.length y = L ++ y :: Z := fun x y Z => by rw [List.set_append_right _ _ (Nat.le_refl _), Nat.sub_self]; rfl
  obtain ⟨q1, hq1⟩ : ∃ q : zE, q = .inl (t, 2, .inr (.inr (.inr (.inr (va_up (fun _ => none) 0 (some (μ.2.1 + (L.length + 1)))))))) := ⟨_, rfl⟩
  have a1 : alQ (L ++ vr0 t :: cs (μ.2.1 + (L.length + 1))) t c L.length 0 (L.length + 1) (μ.2.1 + (L.length + 1)) = some (L ++ q1 :: cs (μ.2.1 + (L.length + 1))) := by
    unfold alQ
    rw [g0]
    show (if t = t ∧ alK (L ++ vr0 t :: cs (μ.2.1 + (L.length + 1))) c (L.length + 1) = true ∧ 0 < 2 then some ((L ++ vr0 t :: cs (μ.2.1 + (L.length + 1))).set L.length (.inl (t, 2, .inr (.inr (.inr (.inr (va_up (fun _ => none) 0 (some (μ.2.1 + (L.length + 1)))))))))) else none) = _
    rw [if_pos ⟨rfl, by unfold alK; rw [h1, g1]; exact beq_self_eq_true c, by omega⟩, gs, hq1]
  have a2 : zm_sQ (al μ (L ++ vr0 t :: cs (μ.2.1 + (L.length + 1)))) t c (al μ L).2.1 0 (al μ (L ++ [vr0 t])).2.1 = zm_sQ (al μ (L ++ vr0 t :: cs (μ.2.1 + (L.length + 1)))) t c (μ.2.1 + L.length) (J 0) (μ.2.1 + (L.length + 1)) := by
    show zm_sQ _ t c (μ.2.1 + L.length) 0 (μ.2.1 + (L ++ [vr0 t]).length) = _
    rw [e1]; rfl
  rw [a2]
  refine st_q (by omega) a1 ?_
  have e3 : (L ++ q1 :: cs (μ.2.1 + (L.length + 1))).length = L.length + 1 + s := by rw [List.length_append, List.length_cons, hs1]; omega
  refine st_nw ?_
  refine st_f hf ?_
  rw [e3]
  have e4 : L ++ q1 :: cs (μ.2.1 + (L.length + 1)) ++ cs (μ.2.1 + (L.length + 1 + s)) = L ++ q1 :: (cs (μ.2.1 + (L.length + 1)) ++ cs (μ.2.1 + (L.length + 1 + s))) := by rw [List.append_assoc]; rfl
  rw [e4]
  have g2 : ∀ (x : zE), (L ++ x :: (cs (μ.2.1 + (L.length + 1)) ++ cs (μ.2.1 + (L.length + 1 + s))))[L.length + 1 + s]? = some (.inr (c, fs')) := fun x => by
    rw [List.getElem?_append_right (by omega), show L.length + 1 + s - L.length = s + 1 by omega, List.getElem?_cons_succ, List.getElem?_append_right (by omega), hs1, Nat.sub_self, h2]; rfl
  have a3 : alQ (L ++ q1 :: (cs (μ.2.1 + (L.length + 1)) ++ cs (μ.2.1 + (L.length + 1 + s)))) t c L.length 1 (L.length + 1 + s) (μ.2.1 + (L.length + 1 + s)) = some (L ++ vr t s (μ.2.1 + L.length) :: (cs (μ.2.1 + (L.length + 1)) ++ cs (μ.2.1 + (L.length + 1 + s)))) := by
    unfold alQ
    rw [g0, hq1]
    show (if t = t ∧ alK (L ++ _ :: (cs (μ.2.1 + (L.length + 1)) ++ cs (μ.2.1 + (L.length + 1 + s)))) c (L.length + 1 + s) = true ∧ 1 < 2 then some ((L ++ _ :: (cs (μ.2.1 + (L.length + 1)) ++ cs (μ.2.1 + (L.length + 1 + s)))).set L.length (.inl (t, 2, .inr (.inr (.inr (.inr (va_up (va_up (fun _ => none) 0 (some (μ.2.1 + (L.length + 1)))) 1 (some (μ.2.1 + (L.length + 1 + s)))))))))) else none) = _
    rw [if_pos ⟨rfl, by unfold alK; rw [g2]; exact beq_self_eq_true c, by omega⟩, gs]
    unfold vr
    rw [show μ.2.1 + (L.length + 1 + s) = μ.2.1 + L.length + 1 + s by omega, show μ.2.1 + (L.length + 1) = μ.2.1 + L.length + 1 by omega]
  have a4 : zm_sQ (al μ (L ++ q1 :: (cs (μ.2.1 + (L.length + 1)) ++ cs (μ.2.1 + (L.length + 1 + s))))) t c (al μ L).2.1 1 (al μ (L ++ q1 :: cs (μ.2.1 + (L.length + 1)))).2.1 = zm_sQ (al μ (L ++ q1 :: (cs (μ.2.1 + (L.length + 1)) ++ cs (μ.2.1 + (L.length + 1 + s))))) t c (μ.2.1 + L.length) (J 1) (μ.2.1 + (L.length + 1 + s)) := by
    show zm_sQ _ t c (μ.2.1 + L.length) 1 (μ.2.1 + (L ++ q1 :: cs (μ.2.1 + (L.length + 1))).length) = _
    rw [e3]; rfl
  rw [a4]
  exact st_q (by omega) a3 hK
def cz7 (B : Nat) : List zE := [.inr (7, [.ref (B + 1), .int 0, .int 0, .int (-1), .ref (B + 2), .ref (B + 3), .ref (B + 26), .ref (B + 35), .ref (B + 42)]), .inl (1, 600, .inl (fun _ => 0)), arz 4, vr 4 11 (B + 3)] ++ cz9 (B + 4) ++ cz9 (B + 15) ++ [vr 5 4 (B + 26)] ++ cz2 (B + 27) ++ cz2 (B + 31) ++ [vr 6 3 (B + 35)] ++ cz3 (B + 36) ++ cz3 (B + 39) ++ [vr 7 5 (B + 42)] ++ cz6 (B + 43) ++ cz6 (B + 48)
theorem F7 (μ : zM) : fX7_init (al μ [o7]) (μ.2.1 + 0) = some (al μ (cz7 μ.2.1)) := by
  unfold fX7_init
  refine st_nw ?_
  refine st_p0 rfl rfl rfl ?_
  refine st_p0 rfl rfl rfl ?_
  refine st_p0 rfl rfl rfl ?_
  refine st_p0 rfl rfl rfl ?_
  refine st_nw ?_
  refine st_p0 rfl rfl rfl ?_
  refine st_row F9 (fun B => ⟨_, _, rfl⟩) (fun B => rfl) ?_
  refine st_p0 rfl rfl rfl ?_
  refine st_row F2 (fun B => ⟨_, _, rfl⟩) (fun B => rfl) ?_
  refine st_p0 rfl rfl rfl ?_
  refine st_row F3 (fun B => ⟨_, _, rfl⟩) (fun B => rfl) ?_
  refine st_p0 rfl rfl rfl ?_
  refine st_row F6 (fun B => ⟨_, _, rfl⟩) (fun B => rfl) ?_
  refine st_p0 rfl rfl rfl ?_
  rfl
