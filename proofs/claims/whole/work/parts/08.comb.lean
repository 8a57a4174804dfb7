/-! what the printed functions are made of -/
theorem zn_at (i : Nat) {w : Cond} (h : (lw_tbl[i]? == some w && (match w with | .methodLinkNest .. => true | .fieldLinkNest .. => true | .castable .. => true | _ => false)) = true) : w ∈ zn := by
  rw [Bool.and_eq_true] at h
  exact List.mem_filter.mpr ⟨List.mem_of_getElem? (i := i) (beq_iff_eq.mp h.1), h.2⟩
theorem zm_cl_at {μ μ1 : zM} {a N : Nat} (h : zm_cl μ a N = some μ1) : ∃ f, μ1.1 μ.2.1 = some (.inl (0, N, .inl f)) := by
  obtain ⟨f, -, rfl⟩ := zm_cl_some h
  exact ⟨f, by simp [zm_nw]⟩
/-- how often a loop may turn -/
theorem zfu_ex : ∃ n : Nat, 1000000 ≤ n := ⟨1000000, Nat.le_refl _⟩
noncomputable def zfu : Nat := Classical.choose zfu_ex
theorem zfu_ge : 1000000 ≤ zfu := Classical.choose_spec zfu_ex
def zb0 {R : Type} (a : Option Unit) (f : Option R) : Option R := match a with
  | some _ => f
  | none => none
theorem zb0_s {R : Type} {a : Option Unit} {f : Option R} {r : R} (h : zb0 a f = some r) : a = some () ∧ f = some r := by
  cases a with
  | none => cases h
  | some u => exact ⟨rfl, h⟩
def zni {R : Type} (c : Prop) [Decidable c] (f : Option R) : Option R := if c then none else f
theorem zni_s {R : Type} {c : Prop} [Decidable c] {f : Option R} {r : R} (h : zni c f = some r) : ¬ c ∧ f = some r := by
  unfold zni at h
  split at h
  · cases h
  · next hc => exact ⟨hc, h⟩
def zgd {R : Type} (b : Bool) (f : Option R) : Option R := match b with
  | true => f
  | false => none
theorem zgd_s {R : Type} {b : Bool} {f : Option R} {r : R} (h : zgd b f = some r) : b = true ∧ f = some r := by
  cases b with
  | false => cases h
  | true => exact ⟨rfl, h⟩
def zbz (v : Int32) : Option Int32 := if v &&& 1 = v then some v else none
theorem zbz_s {v r : Int32} (h : zbz v = some r) : narrow .boolean (.int v) = .int v ∧ r = v := by
  unfold zbz at h
  split at h
  · next hc => cases h; exact ⟨by show Value.int (v &&& 1) = _; rw [hc], rfl⟩
  · cases h
def znr (ty : FieldType) (v : Int32) : Option Int32 := match narrow ty (.int v) with
  | .int w => if w = v then some v else none
  | _ => none
theorem znr_s {ty : FieldType} {v r : Int32} (h : znr ty v = some r) : narrow ty (.int v) = .int v ∧ r = v := by
  unfold znr at h
  split at h
  · next w e =>
    split at h
    · next hc => cases h; subst hc; exact ⟨e, rfl⟩
    · cases h
  · cases h
def zmo {A R : Type} (o : Option A) (f : Option R) (g : A → Option R) : Option R := match o with
  | none => f
  | some a => g a
theorem zmo_n {A R : Type} {f : Option R} {g : A → Option R} {r : Option R} (h : zmo none f g = r) : f = r := h
theorem zmo_s {A R : Type} {f : Option R} {g : A → Option R} {r : Option R} {a : A} (h : zmo (some a) f g = r) : g a = r := h
theorem zdec (c : Prop) [Decidable c] : c ∨ ¬ c := Decidable.em c

def zb1 {A R : Type} (a : Option (A)) (f : A → Option R) : Option R := match a with
  | some x0 => f x0
  | none => none
theorem zb1_s {A R : Type} {a : Option (A)} {f : A → Option R} {r : R} (h : zb1 a f = some r) : ∃ x0, a = some x0 ∧ f x0 = some r := by
  cases a with
  | none => cases h
  | some u => exact ⟨u, rfl, h⟩
def zc1 {A R : Type} (a : Option (A)) (f : A → Option R) : Option R := match a with
  | some x0 => f x0
  | none => none
theorem zc1_s {A R : Type} {a : Option (A)} {f : A → Option R} {r : R} (h : zc1 a f = some r) : ∃ x0, a = some x0 ∧ f x0 = some r := by
  cases a with
  | none => cases h
  | some u => exact ⟨u, rfl, h⟩
def zf1 {A R : Type} (f : (A → Option R) → A → Option R) : Nat → A → Option R
  | 0, _ => none
  | n + 1, x0 => f (zf1 f n) x0
theorem zf1_s {A R : Type} {f : (A → Option R) → A → Option R} {n : Nat} {x0 : A} {r : Option R} (h : zf1 f (n + 1) x0 = r) : f (zf1 f n) x0 = r := h
def zb2 {A B R : Type} (a : Option (A × B)) (f : A → B → Option R) : Option R := match a with
  | some (x0, x1) => f x0 x1
  | none => none
theorem zb2_s {A B R : Type} {a : Option (A × B)} {f : A → B → Option R} {r : R} (h : zb2 a f = some r) : ∃ x0 x1, a = some (x0, x1) ∧ f x0 x1 = some r := by
  cases a with
  | none => cases h
  | some u => exact ⟨u.1, u.2, rfl, h⟩
def zc2 {A B R : Type} (a : Option (A × B)) (f : A → B → Option R) : Option R := match a with
  | some (x0, x1) => f x0 x1
  | none => none
theorem zc2_s {A B R : Type} {a : Option (A × B)} {f : A → B → Option R} {r : R} (h : zc2 a f = some r) : ∃ x0 x1, a = some (x0, x1) ∧ f x0 x1 = some r := by
  cases a with
  | none => cases h
  | some u => exact ⟨u.1, u.2, rfl, h⟩
def zf2 {A B R : Type} (f : (A → B → Option R) → A → B → Option R) : Nat → A → B → Option R
  | 0, _, _ => none
  | n + 1, x0, x1 => f (zf2 f n) x0 x1
theorem zf2_s {A B R : Type} {f : (A → B → Option R) → A → B → Option R} {n : Nat} {x0 : A} {x1 : B} {r : Option R} (h : zf2 f (n + 1) x0 x1 = r) : f (zf2 f n) x0 x1 = r := h
def zb3 {A B C R : Type} (a : Option (A × B × C)) (f : A → B → C → Option R) : Option R := match a with
  | some (x0, x1, x2) => f x0 x1 x2
  | none => none
theorem zb3_s {A B C R : Type} {a : Option (A × B × C)} {f : A → B → C → Option R} {r : R} (h : zb3 a f = some r) : ∃ x0 x1 x2, a = some (x0, x1, x2) ∧ f x0 x1 x2 = some r := by
  cases a with
  | none => cases h
  | some u => exact ⟨u.1, u.2.1, u.2.2, rfl, h⟩
def zc3 {A B C R : Type} (a : Option (A × B × C)) (f : A → B → C → Option R) : Option R := match a with
  | some (x0, x1, x2) => f x0 x1 x2
  | none => none
theorem zc3_s {A B C R : Type} {a : Option (A × B × C)} {f : A → B → C → Option R} {r : R} (h : zc3 a f = some r) : ∃ x0 x1 x2, a = some (x0, x1, x2) ∧ f x0 x1 x2 = some r := by
  cases a with
  | none => cases h
  | some u => exact ⟨u.1, u.2.1, u.2.2, rfl, h⟩
def zf3 {A B C R : Type} (f : (A → B → C → Option R) → A → B → C → Option R) : Nat → A → B → C → Option R
  | 0, _, _, _ => none
  | n + 1, x0, x1, x2 => f (zf3 f n) x0 x1 x2
theorem zf3_s {A B C R : Type} {f : (A → B → C → Option R) → A → B → C → Option R} {n : Nat} {x0 : A} {x1 : B} {x2 : C} {r : Option R} (h : zf3 f (n + 1) x0 x1 x2 = r) : f (zf3 f n) x0 x1 x2 = r := h
def zb4 {A B C D R : Type} (a : Option (A × B × C × D)) (f : A → B → C → D → Option R) : Option R := match a with
  | some (x0, x1, x2, x3) => f x0 x1 x2 x3
  | none => none
theorem zb4_s {A B C D R : Type} {a : Option (A × B × C × D)} {f : A → B → C → D → Option R} {r : R} (h : zb4 a f = some r) : ∃ x0 x1 x2 x3, a = some (x0, x1, x2, x3) ∧ f x0 x1 x2 x3 = some r := by
  cases a with
  | none => cases h
  | some u => exact ⟨u.1, u.2.1, u.2.2.1, u.2.2.2, rfl, h⟩
def zc4 {A B C D R : Type} (a : Option (A × B × C × D)) (f : A → B → C → D → Option R) : Option R := match a with
  | some (x0, x1, x2, x3) => f x0 x1 x2 x3
  | none => none
theorem zc4_s {A B C D R : Type} {a : Option (A × B × C × D)} {f : A → B → C → D → Option R} {r : R} (h : zc4 a f = some r) : ∃ x0 x1 x2 x3, a = some (x0, x1, x2, x3) ∧ f x0 x1 x2 x3 = some r := by
  cases a with
  | none => cases h
  | some u => exact ⟨u.1, u.2.1, u.2.2.1, u.2.2.2, rfl, h⟩
def zf4 {A B C D R : Type} (f : (A → B → C → D → Option R) → A → B → C → D → Option R) : Nat → A → B → C → D → Option R
  | 0, _, _, _, _ => none
  | n + 1, x0, x1, x2, x3 => f (zf4 f n) x0 x1 x2 x3
theorem zf4_s {A B C D R : Type} {f : (A → B → C → D → Option R) → A → B → C → D → Option R} {n : Nat} {x0 : A} {x1 : B} {x2 : C} {x3 : D} {r : Option R} (h : zf4 f (n + 1) x0 x1 x2 x3 = r) : f (zf4 f n) x0 x1 x2 x3 = r := h
def zb5 {A B C D E R : Type} (a : Option (A × B × C × D × E)) (f : A → B → C → D → E → Option R) : Option R := match a with
  | some (x0, x1, x2, x3, x4) => f x0 x1 x2 x3 x4
  | none => none
theorem zb5_s {A B C D E R : Type} {a : Option (A × B × C × D × E)} {f : A → B → C → D → E → Option R} {r : R} (h : zb5 a f = some r) : ∃ x0 x1 x2 x3 x4, a = some (x0, x1, x2, x3, x4) ∧ f x0 x1 x2 x3 x4 = some r := by
  cases a with
  | none => cases h
  | some u => exact ⟨u.1, u.2.1, u.2.2.1, u.2.2.2.1, u.2.2.2.2, rfl, h⟩
def zc5 {A B C D E R : Type} (a : Option (A × B × C × D × E)) (f : A → B → C → D → E → Option R) : Option R := match a with
  | some (x0, x1, x2, x3, x4) => f x0 x1 x2 x3 x4
  | none => none
theorem zc5_s {A B C D E R : Type} {a : Option (A × B × C × D × E)} {f : A → B → C → D → E → Option R} {r : R} (h : zc5 a f = some r) : ∃ x0 x1 x2 x3 x4, a = some (x0, x1, x2, x3, x4) ∧ f x0 x1 x2 x3 x4 = some r := by
  cases a with
  | none => cases h
  | some u => exact ⟨u.1, u.2.1, u.2.2.1, u.2.2.2.1, u.2.2.2.2, rfl, h⟩
def zf5 {A B C D E R : Type} (f : (A → B → C → D → E → Option R) → A → B → C → D → E → Option R) : Nat → A → B → C → D → E → Option R
  | 0, _, _, _, _, _ => none
  | n + 1, x0, x1, x2, x3, x4 => f (zf5 f n) x0 x1 x2 x3 x4
theorem zf5_s {A B C D E R : Type} {f : (A → B → C → D → E → Option R) → A → B → C → D → E → Option R} {n : Nat} {x0 : A} {x1 : B} {x2 : C} {x3 : D} {x4 : E} {r : Option R} (h : zf5 f (n + 1) x0 x1 x2 x3 x4 = r) : f (zf5 f n) x0 x1 x2 x3 x4 = r := h
def zb6 {A B C D E F R : Type} (a : Option (A × B × C × D × E × F)) (f : A → B → C → D → E → F → Option R) : Option R := match a with
  | some (x0, x1, x2, x3, x4, x5) => f x0 x1 x2 x3 x4 x5
  | none => none
theorem zb6_s {A B C D E F R : Type} {a : Option (A × B × C × D × E × F)} {f : A → B → C → D → E → F → Option R} {r : R} (h : zb6 a f = some r) : ∃ x0 x1 x2 x3 x4 x5, a = some (x0, x1, x2, x3, x4, x5) ∧ f x0 x1 x2 x3 x4 x5 = some r := by
  cases a with
  | none => cases h
  | some u => exact ⟨u.1, u.2.1, u.2.2.1, u.2.2.2.1, u.2.2.2.2.1, u.2.2.2.2.2, rfl, h⟩
def zc6 {A B C D E F R : Type} (a : Option (A × B × C × D × E × F)) (f : A → B → C → D → E → F → Option R) : Option R := match a with
  | some (x0, x1, x2, x3, x4, x5) => f x0 x1 x2 x3 x4 x5
  | none => none
theorem zc6_s {A B C D E F R : Type} {a : Option (A × B × C × D × E × F)} {f : A → B → C → D → E → F → Option R} {r : R} (h : zc6 a f = some r) : ∃ x0 x1 x2 x3 x4 x5, a = some (x0, x1, x2, x3, x4, x5) ∧ f x0 x1 x2 x3 x4 x5 = some r := by
  cases a with
  | none => cases h
  | some u => exact ⟨u.1, u.2.1, u.2.2.1, u.2.2.2.1, u.2.2.2.2.1, u.2.2.2.2.2, rfl, h⟩
def zf6 {A B C D E F R : Type} (f : (A → B → C → D → E → F → Option R) → A → B → C → D → E → F → Option R) : Nat → A → B → C → D → E → F → Option R
  | 0, _, _, _, _, _, _ => none
  | n + 1, x0, x1, x2, x3, x4, x5 => f (zf6 f n) x0 x1 x2 x3 x4 x5
theorem zf6_s {A B C D E F R : Type} {f : (A → B → C → D → E → F → Option R) → A → B → C → D → E → F → Option R} {n : Nat} {x0 : A} {x1 : B} {x2 : C} {x3 : D} {x4 : E} {x5 : F} {r : Option R} (h : zf6 f (n + 1) x0 x1 x2 x3 x4 x5 = r) : f (zf6 f n) x0 x1 x2 x3 x4 x5 = r := h
def zb7 {A B C D E F G R : Type} (a : Option (A × B × C × D × E × F × G)) (f : A → B → C → D → E → F → G → Option R) : Option R := match a with
  | some (x0, x1, x2, x3, x4, x5, x6) => f x0 x1 x2 x3 x4 x5 x6
  | none => none
theorem zb7_s {A B C D E F G R : Type} {a : Option (A × B × C × D × E × F × G)} {f : A → B → C → D → E → F → G → Option R} {r : R} (h : zb7 a f = some r) : ∃ x0 x1 x2 x3 x4 x5 x6, a = some (x0, x1, x2, x3, x4, x5, x6) ∧ f x0 x1 x2 x3 x4 x5 x6 = some r := by
  cases a with
  | none => cases h
  | some u => exact ⟨u.1, u.2.1, u.2.2.1, u.2.2.2.1, u.2.2.2.2.1, u.2.2.2.2.2.1, u.2.2.2.2.2.2, rfl, h⟩
def zc7 {A B C D E F G R : Type} (a : Option (A × B × C × D × E × F × G)) (f : A → B → C → D → E → F → G → Option R) : Option R := match a with
  | some (x0, x1, x2, x3, x4, x5, x6) => f x0 x1 x2 x3 x4 x5 x6
  | none => none
theorem zc7_s {A B C D E F G R : Type} {a : Option (A × B × C × D × E × F × G)} {f : A → B → C → D → E → F → G → Option R} {r : R} (h : zc7 a f = some r) : ∃ x0 x1 x2 x3 x4 x5 x6, a = some (x0, x1, x2, x3, x4, x5, x6) ∧ f x0 x1 x2 x3 x4 x5 x6 = some r := by
  cases a with
  | none => cases h
  | some u => exact ⟨u.1, u.2.1, u.2.2.1, u.2.2.2.1, u.2.2.2.2.1, u.2.2.2.2.2.1, u.2.2.2.2.2.2, rfl, h⟩
def zf7 {A B C D E F G R : Type} (f : (A → B → C → D → E → F → G → Option R) → A → B → C → D → E → F → G → Option R) : Nat → A → B → C → D → E → F → G → Option R
  | 0, _, _, _, _, _, _, _ => none
  | n + 1, x0, x1, x2, x3, x4, x5, x6 => f (zf7 f n) x0 x1 x2 x3 x4 x5 x6
theorem zf7_s {A B C D E F G R : Type} {f : (A → B → C → D → E → F → G → Option R) → A → B → C → D → E → F → G → Option R} {n : Nat} {x0 : A} {x1 : B} {x2 : C} {x3 : D} {x4 : E} {x5 : F} {x6 : G} {r : Option R} (h : zf7 f (n + 1) x0 x1 x2 x3 x4 x5 x6 = r) : f (zf7 f n) x0 x1 x2 x3 x4 x5 x6 = r := h
def zb8 {A B C D E F G H R : Type} (a : Option (A × B × C × D × E × F × G × H)) (f : A → B → C → D → E → F → G → H → Option R) : Option R := match a with
  | some (x0, x1, x2, x3, x4, x5, x6, x7) => f x0 x1 x2 x3 x4 x5 x6 x7
  | none => none
theorem zb8_s {A B C D E F G H R : Type} {a : Option (A × B × C × D × E × F × G × H)} {f : A → B → C → D → E → F → G → H → Option R} {r : R} (h : zb8 a f = some r) : ∃ x0 x1 x2 x3 x4 x5 x6 x7, a = some (x0, x1, x2, x3, x4, x5, x6, x7) ∧ f x0 x1 x2 x3 x4 x5 x6 x7 = some r := by
  cases a with
  | none => cases h
  | some u => exact ⟨u.1, u.2.1, u.2.2.1, u.2.2.2.1, u.2.2.2.2.1, u.2.2.2.2.2.1, u.2.2.2.2.2.2.1, u.2.2.2.2.2.2.2, rfl, h⟩
def zc8 {A B C D E F G H R : Type} (a : Option (A × B × C × D × E × F × G × H)) (f : A → B → C → D → E → F → G → H → Option R) : Option R := match a with
  | some (x0, x1, x2, x3, x4, x5, x6, x7) => f x0 x1 x2 x3 x4 x5 x6 x7
  | none => none
theorem zc8_s {A B C D E F G H R : Type} {a : Option (A × B × C × D × E × F × G × H)} {f : A → B → C → D → E → F → G → H → Option R} {r : R} (h : zc8 a f = some r) : ∃ x0 x1 x2 x3 x4 x5 x6 x7, a = some (x0, x1, x2, x3, x4, x5, x6, x7) ∧ f x0 x1 x2 x3 x4 x5 x6 x7 = some r := by
  cases a with
  | none => cases h
  | some u => exact ⟨u.1, u.2.1, u.2.2.1, u.2.2.2.1, u.2.2.2.2.1, u.2.2.2.2.2.1, u.2.2.2.2.2.2.1, u.2.2.2.2.2.2.2, rfl, h⟩
def zf8 {A B C D E F G H R : Type} (f : (A → B → C → D → E → F → G → H → Option R) → A → B → C → D → E → F → G → H → Option R) : Nat → A → B → C → D → E → F → G → H → Option R
  | 0, _, _, _, _, _, _, _, _ => none
  | n + 1, x0, x1, x2, x3, x4, x5, x6, x7 => f (zf8 f n) x0 x1 x2 x3 x4 x5 x6 x7
theorem zf8_s {A B C D E F G H R : Type} {f : (A → B → C → D → E → F → G → H → Option R) → A → B → C → D → E → F → G → H → Option R} {n : Nat} {x0 : A} {x1 : B} {x2 : C} {x3 : D} {x4 : E} {x5 : F} {x6 : G} {x7 : H} {r : Option R} (h : zf8 f (n + 1) x0 x1 x2 x3 x4 x5 x6 x7 = r) : f (zf8 f n) x0 x1 x2 x3 x4 x5 x6 x7 = r := h
def zb9 {A B C D E F G H I R : Type} (a : Option (A × B × C × D × E × F × G × H × I)) (f : A → B → C → D → E → F → G → H → I → Option R) : Option R := match a with
  | some (x0, x1, x2, x3, x4, x5, x6, x7, x8) => f x0 x1 x2 x3 x4 x5 x6 x7 x8
  | none => none
theorem zb9_s {A B C D E F G H I R : Type} {a : Option (A × B × C × D × E × F × G × H × I)} {f : A → B → C → D → E → F → G → H → I → Option R} {r : R} (h : zb9 a f = some r) : ∃ x0 x1 x2 x3 x4 x5 x6 x7 x8, a = some (x0, x1, x2, x3, x4, x5, x6, x7, x8) ∧ f x0 x1 x2 x3 x4 x5 x6 x7 x8 = some r := by
  cases a with
  | none => cases h
  | some u => exact ⟨u.1, u.2.1, u.2.2.1, u.2.2.2.1, u.2.2.2.2.1, u.2.2.2.2.2.1, u.2.2.2.2.2.2.1, u.2.2.2.2.2.2.2.1, u.2.2.2.2.2.2.2.2, rfl, h⟩
def zc9 {A B C D E F G H I R : Type} (a : Option (A × B × C × D × E × F × G × H × I)) (f : A → B → C → D → E → F → G → H → I → Option R) : Option R := match a with
  | some (x0, x1, x2, x3, x4, x5, x6, x7, x8) => f x0 x1 x2 x3 x4 x5 x6 x7 x8
  | none => none
theorem zc9_s {A B C D E F G H I R : Type} {a : Option (A × B × C × D × E × F × G × H × I)} {f : A → B → C → D → E → F → G → H → I → Option R} {r : R} (h : zc9 a f = some r) : ∃ x0 x1 x2 x3 x4 x5 x6 x7 x8, a = some (x0, x1, x2, x3, x4, x5, x6, x7, x8) ∧ f x0 x1 x2 x3 x4 x5 x6 x7 x8 = some r := by
  cases a with
  | none => cases h
  | some u => exact ⟨u.1, u.2.1, u.2.2.1, u.2.2.2.1, u.2.2.2.2.1, u.2.2.2.2.2.1, u.2.2.2.2.2.2.1, u.2.2.2.2.2.2.2.1, u.2.2.2.2.2.2.2.2, rfl, h⟩
def zf9 {A B C D E F G H I R : Type} (f : (A → B → C → D → E → F → G → H → I → Option R) → A → B → C → D → E → F → G → H → I → Option R) : Nat → A → B → C → D → E → F → G → H → I → Option R
  | 0, _, _, _, _, _, _, _, _, _ => none
  | n + 1, x0, x1, x2, x3, x4, x5, x6, x7, x8 => f (zf9 f n) x0 x1 x2 x3 x4 x5 x6 x7 x8
theorem zf9_s {A B C D E F G H I R : Type} {f : (A → B → C → D → E → F → G → H → I → Option R) → A → B → C → D → E → F → G → H → I → Option R} {n : Nat} {x0 : A} {x1 : B} {x2 : C} {x3 : D} {x4 : E} {x5 : F} {x6 : G} {x7 : H} {x8 : I} {r : Option R} (h : zf9 f (n + 1) x0 x1 x2 x3 x4 x5 x6 x7 x8 = r) : f (zf9 f n) x0 x1 x2 x3 x4 x5 x6 x7 x8 = r := h
def zb10 {A B C D E F G H I J R : Type} (a : Option (A × B × C × D × E × F × G × H × I × J)) (f : A → B → C → D → E → F → G → H → I → J → Option R) : Option R := match a with
  | some (x0, x1, x2, x3, x4, x5, x6, x7, x8, x9) => f x0 x1 x2 x3 x4 x5 x6 x7 x8 x9
  | none => none
theorem zb10_s {A B C D E F G H I J R : Type} {a : Option (A × B × C × D × E × F × G × H × I × J)} {f : A → B → C → D → E → F → G → H → I → J → Option R} {r : R} (h : zb10 a f = some r) : ∃ x0 x1 x2 x3 x4 x5 x6 x7 x8 x9, a = some (x0, x1, x2, x3, x4, x5, x6, x7, x8, x9) ∧ f x0 x1 x2 x3 x4 x5 x6 x7 x8 x9 = some r := by
  cases a with
  | none => cases h
  | some u => exact ⟨u.1, u.2.1, u.2.2.1, u.2.2.2.1, u.2.2.2.2.1, u.2.2.2.2.2.1, u.2.2.2.2.2.2.1, u.2.2.2.2.2.2.2.1, u.2.2.2.2.2.2.2.2.1, u.2.2.2.2.2.2.2.2.2, rfl, h⟩
def zc10 {A B C D E F G H I J R : Type} (a : Option (A × B × C × D × E × F × G × H × I × J)) (f : A → B → C → D → E → F → G → H → I → J → Option R) : Option R := match a with
  | some (x0, x1, x2, x3, x4, x5, x6, x7, x8, x9) => f x0 x1 x2 x3 x4 x5 x6 x7 x8 x9
  | none => none
theorem zc10_s {A B C D E F G H I J R : Type} {a : Option (A × B × C × D × E × F × G × H × I × J)} {f : A → B → C → D → E → F → G → H → I → J → Option R} {r : R} (h : zc10 a f = some r) : ∃ x0 x1 x2 x3 x4 x5 x6 x7 x8 x9, a = some (x0, x1, x2, x3, x4, x5, x6, x7, x8, x9) ∧ f x0 x1 x2 x3 x4 x5 x6 x7 x8 x9 = some r := by
  cases a with
  | none => cases h
  | some u => exact ⟨u.1, u.2.1, u.2.2.1, u.2.2.2.1, u.2.2.2.2.1, u.2.2.2.2.2.1, u.2.2.2.2.2.2.1, u.2.2.2.2.2.2.2.1, u.2.2.2.2.2.2.2.2.1, u.2.2.2.2.2.2.2.2.2, rfl, h⟩
def zf10 {A B C D E F G H I J R : Type} (f : (A → B → C → D → E → F → G → H → I → J → Option R) → A → B → C → D → E → F → G → H → I → J → Option R) : Nat → A → B → C → D → E → F → G → H → I → J → Option R
  | 0, _, _, _, _, _, _, _, _, _, _ => none
  | n + 1, x0, x1, x2, x3, x4, x5, x6, x7, x8, x9 => f (zf10 f n) x0 x1 x2 x3 x4 x5 x6 x7 x8 x9
theorem zf10_s {A B C D E F G H I J R : Type} {f : (A → B → C → D → E → F → G → H → I → J → Option R) → A → B → C → D → E → F → G → H → I → J → Option R} {n : Nat} {x0 : A} {x1 : B} {x2 : C} {x3 : D} {x4 : E} {x5 : F} {x6 : G} {x7 : H} {x8 : I} {x9 : J} {r : Option R} (h : zf10 f (n + 1) x0 x1 x2 x3 x4 x5 x6 x7 x8 x9 = r) : f (zf10 f n) x0 x1 x2 x3 x4 x5 x6 x7 x8 x9 = r := h
theorem zk0 : zcOk 0 (RX0, TX0, 3) tyX0 := ⟨rfl, by decide +kernel, tyX0_ok, nmX0⟩
theorem zk1 : zcOk 1 (RX1, TX1, 6) tyX1 := ⟨rfl, by decide +kernel, tyX1_ok, nmX1⟩
theorem zk2 : zcOk 2 (RX2, TX2, 4) tyX2 := ⟨rfl, by decide +kernel, tyX2_ok, nmX2⟩
theorem zk3 : zcOk 3 (RX3, TX3, 4) tyX3 := ⟨rfl, by decide +kernel, tyX3_ok, nmX3⟩
theorem zk4 : zcOk 4 (RX4, TX4, 13) tyX4 := ⟨rfl, by decide +kernel, tyX4_ok, nmX4⟩
theorem zk5 : zcOk 5 (RX5, TX5, 3) tyX5 := ⟨rfl, by decide +kernel, tyX5_ok, nmX5⟩
theorem zk6 : zcOk 6 (RX6, TX6, 5) tyX6 := ⟨rfl, by decide +kernel, tyX6_ok, nmX6⟩
theorem zk7 : zcOk 7 (RX7, TX7, 9) tyX7 := ⟨rfl, by decide +kernel, tyX7_ok, nmX7⟩
theorem zk8 : zcOk 8 (RX8, TX8, 2) tyX8 := ⟨rfl, by decide +kernel, tyX8_ok, nmX8⟩
theorem zk9 : zcOk 9 (RX9, TX9, 13) tyX9 := ⟨rfl, by decide +kernel, tyX9_ok, nmX9⟩
theorem zk11 : zcOk 11 (RX11, TX11, 7) tyX11 := ⟨rfl, by decide +kernel, tyX11_ok, nmX11⟩
theorem zk12 : zcOk 12 (RX12, TX12, 54) tyX12 := ⟨rfl, by decide +kernel, tyX12_ok, nmX12⟩
