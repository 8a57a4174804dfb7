/-! the reference's object as a state of functions: int fields, long fields, arrays -/
abbrev zMS : Type := (Nat → Int32) × (Nat → Int64) × (Nat → Nat → Int32)
def zsI (M : zMS) (k : Nat) (v : Int32) : zMS := (fun j => if j = k then v else M.1 j, M.2)
def zsL (M : zMS) (k : Nat) (v : Int64) : zMS := (M.1, fun j => if j = k then v else M.2.1 j, M.2.2)
def zsA (M : zMS) (k : Nat) (g : Nat → Int32) : zMS := (M.1, M.2.1, fun j => if j = k then g else M.2.2 j)
def zag (n : Nat) (f : Nat → Int32) (i : Int32) : Option Int32 := if i < 0 ∨ n ≤ i.toNatClampNeg then none else some (f i.toNatClampNeg)
def zas (n : Nat) (f : Nat → Int32) (i v : Int32) : Option (Nat → Int32) := if i < 0 ∨ n ≤ i.toNatClampNeg then none else some (upd f i.toNatClampNeg v)
def zq2 {A S T : Type} (L : S → T) (p : A × S) : A × T := (p.1, L p.2)
def zq3 {A B S T : Type} (L : S → T) (p : A × B × S) : A × B × T := (p.1, p.2.1, L p.2.2)
def zq4 {A B C S T : Type} (L : S → T) (p : A × B × C × S) : A × B × C × T := (p.1, p.2.1, p.2.2.1, L p.2.2.2)
def zq5 {A B C D S T : Type} (L : S → T) (p : A × B × C × D × S) : A × B × C × D × T := (p.1, p.2.1, p.2.2.1, p.2.2.2.1, L p.2.2.2.2)
theorem zq2_k {A S T : Type} {L : S → T} {a : A} {s : S} : zq2 L (a, s) = (a, L s) := rfl
theorem zq3_k {A B S T : Type} {L : S → T} {a : A} {b : B} {s : S} : zq3 L (a, b, s) = (a, b, L s) := rfl
theorem zq4_k {A B C S T : Type} {L : S → T} {a : A} {b : B} {c : C} {s : S} : zq4 L (a, b, c, s) = (a, b, c, L s) := rfl
theorem zq5_k {A B C D S T : Type} {L : S → T} {a : A} {b : B} {c : C} {d : D} {s : S} : zq5 L (a, b, c, d, s) = (a, b, c, d, L s) := rfl
theorem zmap_ite {A B : Type} {c : Prop} [Decidable c] {f : A → B} {a b : Option A} : Option.map f (if c then a else b) = if c then Option.map f a else Option.map f b := by split <;> rfl
theorem zmap_some {A B : Type} {f : A → B} {a : A} : Option.map f (some a) = some (f a) := rfl
theorem zmap_none {A B : Type} {f : A → B} : Option.map f none = none := rfl
theorem zgd_t {R : Type} {f : Option R} : zgd true f = f := rfl
theorem zmap_zb0 {R T : Type} {f : R → T} {a : Option Unit} {g : Option R} : Option.map f (zb0 a g) = zb0 a (Option.map f g) := by cases a <;> rfl
theorem zmap_zni {R T : Type} {c : Prop} [Decidable c] {f : R → T} {g : Option R} : Option.map f (zni c g) = zni c (Option.map f g) := by unfold zni; split <;> rfl
theorem zzb1_some {A R : Type} {x0 : A} {f : A → Option R} : zb1 (some x0) f = f x0 := rfl
theorem zzb1_q {S T R : Type} {L : S → T} {a : Option S} {f : T → Option R} : zb1 (Option.map L a) f = zb1 a (fun x => f (L x)) := by cases a <;> rfl
theorem zzc1_some {A R : Type} {x0 : A} {f : A → Option R} : zc1 (some x0) f = f x0 := rfl
theorem zzc1_q {S T R : Type} {L : S → T} {a : Option S} {f : T → Option R} : zc1 (Option.map L a) f = zc1 a (fun x => f (L x)) := by cases a <;> rfl
theorem zmap_zb1 {A R U : Type} {a : Option (A)} {f : A → Option R} {h : R → U} : Option.map h (zb1 a f) = zb1 a (fun x0 => Option.map h (f x0)) := by cases a <;> rfl
theorem zmap_zc1 {A R U : Type} {a : Option (A)} {f : A → Option R} {h : R → U} : Option.map h (zc1 a f) = zc1 a (fun x0 => Option.map h (f x0)) := by cases a <;> rfl
theorem zzc1_ite {A R : Type} {c : Prop} [Decidable c] {a b : Option (A)} {f : A → Option R} : zc1 (if c then a else b) f = if c then zc1 a f else zc1 b f := by split <;> rfl
theorem zzc1_zb1 {A K0 R : Type} {a : Option (K0)} {k : K0 → Option (A)} {f : A → Option R} : zc1 (zb1 a k) f = zb1 a (fun y0 => zc1 (k y0) f) := by cases a <;> rfl
theorem zzc1_zb2 {A K0 K1 R : Type} {a : Option (K0 × K1)} {k : K0 → K1 → Option (A)} {f : A → Option R} : zc1 (zb2 a k) f = zb2 a (fun y0 y1 => zc1 (k y0 y1) f) := by cases a <;> rfl
theorem zzc1_zb3 {A K0 K1 K2 R : Type} {a : Option (K0 × K1 × K2)} {k : K0 → K1 → K2 → Option (A)} {f : A → Option R} : zc1 (zb3 a k) f = zb3 a (fun y0 y1 y2 => zc1 (k y0 y1 y2) f) := by cases a <;> rfl
theorem zzc1_zb4 {A K0 K1 K2 K3 R : Type} {a : Option (K0 × K1 × K2 × K3)} {k : K0 → K1 → K2 → K3 → Option (A)} {f : A → Option R} : zc1 (zb4 a k) f = zb4 a (fun y0 y1 y2 y3 => zc1 (k y0 y1 y2 y3) f) := by cases a <;> rfl
theorem zzc1_zb5 {A K0 K1 K2 K3 K4 R : Type} {a : Option (K0 × K1 × K2 × K3 × K4)} {k : K0 → K1 → K2 → K3 → K4 → Option (A)} {f : A → Option R} : zc1 (zb5 a k) f = zb5 a (fun y0 y1 y2 y3 y4 => zc1 (k y0 y1 y2 y3 y4) f) := by cases a <;> rfl
theorem zzc1_zb6 {A K0 K1 K2 K3 K4 K5 R : Type} {a : Option (K0 × K1 × K2 × K3 × K4 × K5)} {k : K0 → K1 → K2 → K3 → K4 → K5 → Option (A)} {f : A → Option R} : zc1 (zb6 a k) f = zb6 a (fun y0 y1 y2 y3 y4 y5 => zc1 (k y0 y1 y2 y3 y4 y5) f) := by cases a <;> rfl
theorem zzc1_zb0 {A R : Type} {a : Option Unit} {k : Option (A)} {f : A → Option R} : zc1 (zb0 a k) f = zb0 a (zc1 k f) := by cases a <;> rfl
theorem zf1_m { S T R U : Type} {L : S → T} {φ : R → U} {f : (T → Option U) → T → Option U} {g : (S → Option R) → S → Option R} (h : ∀ (F : T → Option U) (G : S → Option R), (∀  (y : S), F  (L y) = Option.map φ (G  y)) → ∀  (y : S), f F  (L y) = Option.map φ (g G  y)) : ∀ (n : Nat)  (y : S), zf1 f n  (L y) = Option.map φ (zf1 g n  y)
  | 0, _ => rfl
  | n + 1, y => h _ _ (zf1_m h n) y
theorem zf1_p {A R U : Type} {φ : R → U} {f : (A → Option U) → A → Option U} {g : (A → Option R) → A → Option R} (h : ∀ (F : A → Option U) (G : A → Option R), (∀ (x0 : A), F x0 = Option.map φ (G x0)) → ∀ (x0 : A), f F x0 = Option.map φ (g G x0)) : ∀ (n : Nat) (x0 : A), zf1 f n x0 = Option.map φ (zf1 g n x0)
  | 0, _ => rfl
  | n + 1, x0 => h _ _ (zf1_p h n) x0
theorem zf1_c {A R : Type} {f g : (A → Option R) → A → Option R} (h : ∀ (F G : A → Option R), (∀ (x0 : A), F x0 = G x0) → ∀ (x0 : A), f F x0 = g G x0) : ∀ (n : Nat) (x0 : A), zf1 f n x0 = zf1 g n x0
  | 0, _ => rfl
  | n + 1, x0 => h _ _ (zf1_c h n) x0
theorem zzb2_some {A B R : Type} {x0 : A} {x1 : B} {f : A → B → Option R} : zb2 (some (x0, x1)) f = f x0 x1 := rfl
theorem zzb2_q {A S T R : Type} {L : S → T} {a : Option (A × S)} {f : A → T → Option R} : zb2 (Option.map (zq2 L) a) f = zb2 a (fun x0 x1 => f x0 (L x1)) := by cases a <;> rfl
theorem zzc2_some {A B R : Type} {x0 : A} {x1 : B} {f : A → B → Option R} : zc2 (some (x0, x1)) f = f x0 x1 := rfl
theorem zzc2_q {A S T R : Type} {L : S → T} {a : Option (A × S)} {f : A → T → Option R} : zc2 (Option.map (zq2 L) a) f = zc2 a (fun x0 x1 => f x0 (L x1)) := by cases a <;> rfl
theorem zmap_zb2 {A B R U : Type} {a : Option (A × B)} {f : A → B → Option R} {h : R → U} : Option.map h (zb2 a f) = zb2 a (fun x0 x1 => Option.map h (f x0 x1)) := by cases a <;> rfl
theorem zmap_zc2 {A B R U : Type} {a : Option (A × B)} {f : A → B → Option R} {h : R → U} : Option.map h (zc2 a f) = zc2 a (fun x0 x1 => Option.map h (f x0 x1)) := by cases a <;> rfl
theorem zzc2_ite {A B R : Type} {c : Prop} [Decidable c] {a b : Option (A × B)} {f : A → B → Option R} : zc2 (if c then a else b) f = if c then zc2 a f else zc2 b f := by split <;> rfl
theorem zzc2_zb1 {A B K0 R : Type} {a : Option (K0)} {k : K0 → Option (A × B)} {f : A → B → Option R} : zc2 (zb1 a k) f = zb1 a (fun y0 => zc2 (k y0) f) := by cases a <;> rfl
theorem zzc2_zb2 {A B K0 K1 R : Type} {a : Option (K0 × K1)} {k : K0 → K1 → Option (A × B)} {f : A → B → Option R} : zc2 (zb2 a k) f = zb2 a (fun y0 y1 => zc2 (k y0 y1) f) := by cases a <;> rfl
theorem zzc2_zb3 {A B K0 K1 K2 R : Type} {a : Option (K0 × K1 × K2)} {k : K0 → K1 → K2 → Option (A × B)} {f : A → B → Option R} : zc2 (zb3 a k) f = zb3 a (fun y0 y1 y2 => zc2 (k y0 y1 y2) f) := by cases a <;> rfl
theorem zzc2_zb4 {A B K0 K1 K2 K3 R : Type} {a : Option (K0 × K1 × K2 × K3)} {k : K0 → K1 → K2 → K3 → Option (A × B)} {f : A → B → Option R} : zc2 (zb4 a k) f = zb4 a (fun y0 y1 y2 y3 => zc2 (k y0 y1 y2 y3) f) := by cases a <;> rfl
theorem zzc2_zb5 {A B K0 K1 K2 K3 K4 R : Type} {a : Option (K0 × K1 × K2 × K3 × K4)} {k : K0 → K1 → K2 → K3 → K4 → Option (A × B)} {f : A → B → Option R} : zc2 (zb5 a k) f = zb5 a (fun y0 y1 y2 y3 y4 => zc2 (k y0 y1 y2 y3 y4) f) := by cases a <;> rfl
theorem zzc2_zb6 {A B K0 K1 K2 K3 K4 K5 R : Type} {a : Option (K0 × K1 × K2 × K3 × K4 × K5)} {k : K0 → K1 → K2 → K3 → K4 → K5 → Option (A × B)} {f : A → B → Option R} : zc2 (zb6 a k) f = zb6 a (fun y0 y1 y2 y3 y4 y5 => zc2 (k y0 y1 y2 y3 y4 y5) f) := by cases a <;> rfl
theorem zzc2_zb0 {A B R : Type} {a : Option Unit} {k : Option (A × B)} {f : A → B → Option R} : zc2 (zb0 a k) f = zb0 a (zc2 k f) := by cases a <;> rfl
theorem zf2_m {A S T R U : Type} {L : S → T} {φ : R → U} {f : (A → T → Option U) → A → T → Option U} {g : (A → S → Option R) → A → S → Option R} (h : ∀ (F : A → T → Option U) (G : A → S → Option R), (∀ (a0 : A) (y : S), F a0 (L y) = Option.map φ (G a0 y)) → ∀ (a0 : A) (y : S), f F a0 (L y) = Option.map φ (g G a0 y)) : ∀ (n : Nat) (a0 : A) (y : S), zf2 f n a0 (L y) = Option.map φ (zf2 g n a0 y)
  | 0, _, _ => rfl
  | n + 1, a0, y => h _ _ (zf2_m h n) a0 y
theorem zf2_p {A B R U : Type} {φ : R → U} {f : (A → B → Option U) → A → B → Option U} {g : (A → B → Option R) → A → B → Option R} (h : ∀ (F : A → B → Option U) (G : A → B → Option R), (∀ (x0 : A) (x1 : B), F x0 x1 = Option.map φ (G x0 x1)) → ∀ (x0 : A) (x1 : B), f F x0 x1 = Option.map φ (g G x0 x1)) : ∀ (n : Nat) (x0 : A) (x1 : B), zf2 f n x0 x1 = Option.map φ (zf2 g n x0 x1)
  | 0, _, _ => rfl
  | n + 1, x0, x1 => h _ _ (zf2_p h n) x0 x1
theorem zf2_c {A B R : Type} {f g : (A → B → Option R) → A → B → Option R} (h : ∀ (F G : A → B → Option R), (∀ (x0 : A) (x1 : B), F x0 x1 = G x0 x1) → ∀ (x0 : A) (x1 : B), f F x0 x1 = g G x0 x1) : ∀ (n : Nat) (x0 : A) (x1 : B), zf2 f n x0 x1 = zf2 g n x0 x1
  | 0, _, _ => rfl
  | n + 1, x0, x1 => h _ _ (zf2_c h n) x0 x1
theorem zzb3_some {A B C R : Type} {x0 : A} {x1 : B} {x2 : C} {f : A → B → C → Option R} : zb3 (some (x0, x1, x2)) f = f x0 x1 x2 := rfl
theorem zzb3_q {A B S T R : Type} {L : S → T} {a : Option (A × B × S)} {f : A → B → T → Option R} : zb3 (Option.map (zq3 L) a) f = zb3 a (fun x0 x1 x2 => f x0 x1 (L x2)) := by cases a <;> rfl
theorem zzc3_some {A B C R : Type} {x0 : A} {x1 : B} {x2 : C} {f : A → B → C → Option R} : zc3 (some (x0, x1, x2)) f = f x0 x1 x2 := rfl
theorem zzc3_q {A B S T R : Type} {L : S → T} {a : Option (A × B × S)} {f : A → B → T → Option R} : zc3 (Option.map (zq3 L) a) f = zc3 a (fun x0 x1 x2 => f x0 x1 (L x2)) := by cases a <;> rfl
theorem zmap_zb3 {A B C R U : Type} {a : Option (A × B × C)} {f : A → B → C → Option R} {h : R → U} : Option.map h (zb3 a f) = zb3 a (fun x0 x1 x2 => Option.map h (f x0 x1 x2)) := by cases a <;> rfl
theorem zmap_zc3 {A B C R U : Type} {a : Option (A × B × C)} {f : A → B → C → Option R} {h : R → U} : Option.map h (zc3 a f) = zc3 a (fun x0 x1 x2 => Option.map h (f x0 x1 x2)) := by cases a <;> rfl
theorem zzc3_ite {A B C R : Type} {c : Prop} [Decidable c] {a b : Option (A × B × C)} {f : A → B → C → Option R} : zc3 (if c then a else b) f = if c then zc3 a f else zc3 b f := by split <;> rfl
theorem zzc3_zb1 {A B C K0 R : Type} {a : Option (K0)} {k : K0 → Option (A × B × C)} {f : A → B → C → Option R} : zc3 (zb1 a k) f = zb1 a (fun y0 => zc3 (k y0) f) := by cases a <;> rfl
theorem zzc3_zb2 {A B C K0 K1 R : Type} {a : Option (K0 × K1)} {k : K0 → K1 → Option (A × B × C)} {f : A → B → C → Option R} : zc3 (zb2 a k) f = zb2 a (fun y0 y1 => zc3 (k y0 y1) f) := by cases a <;> rfl
theorem zzc3_zb3 {A B C K0 K1 K2 R : Type} {a : Option (K0 × K1 × K2)} {k : K0 → K1 → K2 → Option (A × B × C)} {f : A → B → C → Option R} : zc3 (zb3 a k) f = zb3 a (fun y0 y1 y2 => zc3 (k y0 y1 y2) f) := by cases a <;> rfl
theorem zzc3_zb4 {A B C K0 K1 K2 K3 R : Type} {a : Option (K0 × K1 × K2 × K3)} {k : K0 → K1 → K2 → K3 → Option (A × B × C)} {f : A → B → C → Option R} : zc3 (zb4 a k) f = zb4 a (fun y0 y1 y2 y3 => zc3 (k y0 y1 y2 y3) f) := by cases a <;> rfl
theorem zzc3_zb5 {A B C K0 K1 K2 K3 K4 R : Type} {a : Option (K0 × K1 × K2 × K3 × K4)} {k : K0 → K1 → K2 → K3 → K4 → Option (A × B × C)} {f : A → B → C → Option R} : zc3 (zb5 a k) f = zb5 a (fun y0 y1 y2 y3 y4 => zc3 (k y0 y1 y2 y3 y4) f) := by cases a <;> rfl
theorem zzc3_zb6 {A B C K0 K1 K2 K3 K4 K5 R : Type} {a : Option (K0 × K1 × K2 × K3 × K4 × K5)} {k : K0 → K1 → K2 → K3 → K4 → K5 → Option (A × B × C)} {f : A → B → C → Option R} : zc3 (zb6 a k) f = zb6 a (fun y0 y1 y2 y3 y4 y5 => zc3 (k y0 y1 y2 y3 y4 y5) f) := by cases a <;> rfl
theorem zzc3_zb0 {A B C R : Type} {a : Option Unit} {k : Option (A × B × C)} {f : A → B → C → Option R} : zc3 (zb0 a k) f = zb0 a (zc3 k f) := by cases a <;> rfl
theorem zf3_m {A B S T R U : Type} {L : S → T} {φ : R → U} {f : (A → B → T → Option U) → A → B → T → Option U} {g : (A → B → S → Option R) → A → B → S → Option R} (h : ∀ (F : A → B → T → Option U) (G : A → B → S → Option R), (∀ (a0 : A) (a1 : B) (y : S), F a0 a1 (L y) = Option.map φ (G a0 a1 y)) → ∀ (a0 : A) (a1 : B) (y : S), f F a0 a1 (L y) = Option.map φ (g G a0 a1 y)) : ∀ (n : Nat) (a0 : A) (a1 : B) (y : S), zf3 f n a0 a1 (L y) = Option.map φ (zf3 g n a0 a1 y)
  | 0, _, _, _ => rfl
  | n + 1, a0, a1, y => h _ _ (zf3_m h n) a0 a1 y
theorem zf3_p {A B C R U : Type} {φ : R → U} {f : (A → B → C → Option U) → A → B → C → Option U} {g : (A → B → C → Option R) → A → B → C → Option R} (h : ∀ (F : A → B → C → Option U) (G : A → B → C → Option R), (∀ (x0 : A) (x1 : B) (x2 : C), F x0 x1 x2 = Option.map φ (G x0 x1 x2)) → ∀ (x0 : A) (x1 : B) (x2 : C), f F x0 x1 x2 = Option.map φ (g G x0 x1 x2)) : ∀ (n : Nat) (x0 : A) (x1 : B) (x2 : C), zf3 f n x0 x1 x2 = Option.map φ (zf3 g n x0 x1 x2)
  | 0, _, _, _ => rfl
  | n + 1, x0, x1, x2 => h _ _ (zf3_p h n) x0 x1 x2
theorem zf3_c {A B C R : Type} {f g : (A → B → C → Option R) → A → B → C → Option R} (h : ∀ (F G : A → B → C → Option R), (∀ (x0 : A) (x1 : B) (x2 : C), F x0 x1 x2 = G x0 x1 x2) → ∀ (x0 : A) (x1 : B) (x2 : C), f F x0 x1 x2 = g G x0 x1 x2) : ∀ (n : Nat) (x0 : A) (x1 : B) (x2 : C), zf3 f n x0 x1 x2 = zf3 g n x0 x1 x2
  | 0, _, _, _ => rfl
  | n + 1, x0, x1, x2 => h _ _ (zf3_c h n) x0 x1 x2
theorem zzb4_some {A B C D R : Type} {x0 : A} {x1 : B} {x2 : C} {x3 : D} {f : A → B → C → D → Option R} : zb4 (some (x0, x1, x2, x3)) f = f x0 x1 x2 x3 := rfl
theorem zzb4_q {A B C S T R : Type} {L : S → T} {a : Option (A × B × C × S)} {f : A → B → C → T → Option R} : zb4 (Option.map (zq4 L) a) f = zb4 a (fun x0 x1 x2 x3 => f x0 x1 x2 (L x3)) := by cases a <;> rfl
theorem zzc4_some {A B C D R : Type} {x0 : A} {x1 : B} {x2 : C} {x3 : D} {f : A → B → C → D → Option R} : zc4 (some (x0, x1, x2, x3)) f = f x0 x1 x2 x3 := rfl
theorem zzc4_q {A B C S T R : Type} {L : S → T} {a : Option (A × B × C × S)} {f : A → B → C → T → Option R} : zc4 (Option.map (zq4 L) a) f = zc4 a (fun x0 x1 x2 x3 => f x0 x1 x2 (L x3)) := by cases a <;> rfl
theorem zmap_zb4 {A B C D R U : Type} {a : Option (A × B × C × D)} {f : A → B → C → D → Option R} {h : R → U} : Option.map h (zb4 a f) = zb4 a (fun x0 x1 x2 x3 => Option.map h (f x0 x1 x2 x3)) := by cases a <;> rfl
theorem zmap_zc4 {A B C D R U : Type} {a : Option (A × B × C × D)} {f : A → B → C → D → Option R} {h : R → U} : Option.map h (zc4 a f) = zc4 a (fun x0 x1 x2 x3 => Option.map h (f x0 x1 x2 x3)) := by cases a <;> rfl
theorem zzc4_ite {A B C D R : Type} {c : Prop} [Decidable c] {a b : Option (A × B × C × D)} {f : A → B → C → D → Option R} : zc4 (if c then a else b) f = if c then zc4 a f else zc4 b f := by split <;> rfl
theorem zzc4_zb1 {A B C D K0 R : Type} {a : Option (K0)} {k : K0 → Option (A × B × C × D)} {f : A → B → C → D → Option R} : zc4 (zb1 a k) f = zb1 a (fun y0 => zc4 (k y0) f) := by cases a <;> rfl
theorem zzc4_zb2 {A B C D K0 K1 R : Type} {a : Option (K0 × K1)} {k : K0 → K1 → Option (A × B × C × D)} {f : A → B → C → D → Option R} : zc4 (zb2 a k) f = zb2 a (fun y0 y1 => zc4 (k y0 y1) f) := by cases a <;> rfl
theorem zzc4_zb3 {A B C D K0 K1 K2 R : Type} {a : Option (K0 × K1 × K2)} {k : K0 → K1 → K2 → Option (A × B × C × D)} {f : A → B → C → D → Option R} : zc4 (zb3 a k) f = zb3 a (fun y0 y1 y2 => zc4 (k y0 y1 y2) f) := by cases a <;> rfl
theorem zzc4_zb4 {A B C D K0 K1 K2 K3 R : Type} {a : Option (K0 × K1 × K2 × K3)} {k : K0 → K1 → K2 → K3 → Option (A × B × C × D)} {f : A → B → C → D → Option R} : zc4 (zb4 a k) f = zb4 a (fun y0 y1 y2 y3 => zc4 (k y0 y1 y2 y3) f) := by cases a <;> rfl
theorem zzc4_zb5 {A B C D K0 K1 K2 K3 K4 R : Type} {a : Option (K0 × K1 × K2 × K3 × K4)} {k : K0 → K1 → K2 → K3 → K4 → Option (A × B × C × D)} {f : A → B → C → D → Option R} : zc4 (zb5 a k) f = zb5 a (fun y0 y1 y2 y3 y4 => zc4 (k y0 y1 y2 y3 y4) f) := by cases a <;> rfl
theorem zzc4_zb6 {A B C D K0 K1 K2 K3 K4 K5 R : Type} {a : Option (K0 × K1 × K2 × K3 × K4 × K5)} {k : K0 → K1 → K2 → K3 → K4 → K5 → Option (A × B × C × D)} {f : A → B → C → D → Option R} : zc4 (zb6 a k) f = zb6 a (fun y0 y1 y2 y3 y4 y5 => zc4 (k y0 y1 y2 y3 y4 y5) f) := by cases a <;> rfl
theorem zzc4_zb0 {A B C D R : Type} {a : Option Unit} {k : Option (A × B × C × D)} {f : A → B → C → D → Option R} : zc4 (zb0 a k) f = zb0 a (zc4 k f) := by cases a <;> rfl
theorem zf4_m {A B C S T R U : Type} {L : S → T} {φ : R → U} {f : (A → B → C → T → Option U) → A → B → C → T → Option U} {g : (A → B → C → S → Option R) → A → B → C → S → Option R} (h : ∀ (F : A → B → C → T → Option U) (G : A → B → C → S → Option R), (∀ (a0 : A) (a1 : B) (a2 : C) (y : S), F a0 a1 a2 (L y) = Option.map φ (G a0 a1 a2 y)) → ∀ (a0 : A) (a1 : B) (a2 : C) (y : S), f F a0 a1 a2 (L y) = Option.map φ (g G a0 a1 a2 y)) : ∀ (n : Nat) (a0 : A) (a1 : B) (a2 : C) (y : S), zf4 f n a0 a1 a2 (L y) = Option.map φ (zf4 g n a0 a1 a2 y)
  | 0, _, _, _, _ => rfl
  | n + 1, a0, a1, a2, y => h _ _ (zf4_m h n) a0 a1 a2 y
theorem zf4_p {A B C D R U : Type} {φ : R → U} {f : (A → B → C → D → Option U) → A → B → C → D → Option U} {g : (A → B → C → D → Option R) → A → B → C → D → Option R} (h : ∀ (F : A → B → C → D → Option U) (G : A → B → C → D → Option R), (∀ (x0 : A) (x1 : B) (x2 : C) (x3 : D), F x0 x1 x2 x3 = Option.map φ (G x0 x1 x2 x3)) → ∀ (x0 : A) (x1 : B) (x2 : C) (x3 : D), f F x0 x1 x2 x3 = Option.map φ (g G x0 x1 x2 x3)) : ∀ (n : Nat) (x0 : A) (x1 : B) (x2 : C) (x3 : D), zf4 f n x0 x1 x2 x3 = Option.map φ (zf4 g n x0 x1 x2 x3)
  | 0, _, _, _, _ => rfl
  | n + 1, x0, x1, x2, x3 => h _ _ (zf4_p h n) x0 x1 x2 x3
theorem zf4_c {A B C D R : Type} {f g : (A → B → C → D → Option R) → A → B → C → D → Option R} (h : ∀ (F G : A → B → C → D → Option R), (∀ (x0 : A) (x1 : B) (x2 : C) (x3 : D), F x0 x1 x2 x3 = G x0 x1 x2 x3) → ∀ (x0 : A) (x1 : B) (x2 : C) (x3 : D), f F x0 x1 x2 x3 = g G x0 x1 x2 x3) : ∀ (n : Nat) (x0 : A) (x1 : B) (x2 : C) (x3 : D), zf4 f n x0 x1 x2 x3 = zf4 g n x0 x1 x2 x3
  | 0, _, _, _, _ => rfl
  | n + 1, x0, x1, x2, x3 => h _ _ (zf4_c h n) x0 x1 x2 x3
theorem zzb5_some {A B C D E R : Type} {x0 : A} {x1 : B} {x2 : C} {x3 : D} {x4 : E} {f : A → B → C → D → E → Option R} : zb5 (some (x0, x1, x2, x3, x4)) f = f x0 x1 x2 x3 x4 := rfl
theorem zzb5_q {A B C D S T R : Type} {L : S → T} {a : Option (A × B × C × D × S)} {f : A → B → C → D → T → Option R} : zb5 (Option.map (zq5 L) a) f = zb5 a (fun x0 x1 x2 x3 x4 => f x0 x1 x2 x3 (L x4)) := by cases a <;> rfl
theorem zzc5_some {A B C D E R : Type} {x0 : A} {x1 : B} {x2 : C} {x3 : D} {x4 : E} {f : A → B → C → D → E → Option R} : zc5 (some (x0, x1, x2, x3, x4)) f = f x0 x1 x2 x3 x4 := rfl
theorem zzc5_q {A B C D S T R : Type} {L : S → T} {a : Option (A × B × C × D × S)} {f : A → B → C → D → T → Option R} : zc5 (Option.map (zq5 L) a) f = zc5 a (fun x0 x1 x2 x3 x4 => f x0 x1 x2 x3 (L x4)) := by cases a <;> rfl
theorem zmap_zb5 {A B C D E R U : Type} {a : Option (A × B × C × D × E)} {f : A → B → C → D → E → Option R} {h : R → U} : Option.map h (zb5 a f) = zb5 a (fun x0 x1 x2 x3 x4 => Option.map h (f x0 x1 x2 x3 x4)) := by cases a <;> rfl
theorem zmap_zc5 {A B C D E R U : Type} {a : Option (A × B × C × D × E)} {f : A → B → C → D → E → Option R} {h : R → U} : Option.map h (zc5 a f) = zc5 a (fun x0 x1 x2 x3 x4 => Option.map h (f x0 x1 x2 x3 x4)) := by cases a <;> rfl
theorem zzc5_ite {A B C D E R : Type} {c : Prop} [Decidable c] {a b : Option (A × B × C × D × E)} {f : A → B → C → D → E → Option R} : zc5 (if c then a else b) f = if c then zc5 a f else zc5 b f := by split <;> rfl
theorem zzc5_zb1 {A B C D E K0 R : Type} {a : Option (K0)} {k : K0 → Option (A × B × C × D × E)} {f : A → B → C → D → E → Option R} : zc5 (zb1 a k) f = zb1 a (fun y0 => zc5 (k y0) f) := by cases a <;> rfl
theorem zzc5_zb2 {A B C D E K0 K1 R : Type} {a : Option (K0 × K1)} {k : K0 → K1 → Option (A × B × C × D × E)} {f : A → B → C → D → E → Option R} : zc5 (zb2 a k) f = zb2 a (fun y0 y1 => zc5 (k y0 y1) f) := by cases a <;> rfl
theorem zzc5_zb3 {A B C D E K0 K1 K2 R : Type} {a : Option (K0 × K1 × K2)} {k : K0 → K1 → K2 → Option (A × B × C × D × E)} {f : A → B → C → D → E → Option R} : zc5 (zb3 a k) f = zb3 a (fun y0 y1 y2 => zc5 (k y0 y1 y2) f) := by cases a <;> rfl
theorem zzc5_zb4 {A B C D E K0 K1 K2 K3 R : Type} {a : Option (K0 × K1 × K2 × K3)} {k : K0 → K1 → K2 → K3 → Option (A × B × C × D × E)} {f : A → B → C → D → E → Option R} : zc5 (zb4 a k) f = zb4 a (fun y0 y1 y2 y3 => zc5 (k y0 y1 y2 y3) f) := by cases a <;> rfl
theorem zzc5_zb5 {A B C D E K0 K1 K2 K3 K4 R : Type} {a : Option (K0 × K1 × K2 × K3 × K4)} {k : K0 → K1 → K2 → K3 → K4 → Option (A × B × C × D × E)} {f : A → B → C → D → E → Option R} : zc5 (zb5 a k) f = zb5 a (fun y0 y1 y2 y3 y4 => zc5 (k y0 y1 y2 y3 y4) f) := by cases a <;> rfl
theorem zzc5_zb6 {A B C D E K0 K1 K2 K3 K4 K5 R : Type} {a : Option (K0 × K1 × K2 × K3 × K4 × K5)} {k : K0 → K1 → K2 → K3 → K4 → K5 → Option (A × B × C × D × E)} {f : A → B → C → D → E → Option R} : zc5 (zb6 a k) f = zb6 a (fun y0 y1 y2 y3 y4 y5 => zc5 (k y0 y1 y2 y3 y4 y5) f) := by cases a <;> rfl
theorem zzc5_zb0 {A B C D E R : Type} {a : Option Unit} {k : Option (A × B × C × D × E)} {f : A → B → C → D → E → Option R} : zc5 (zb0 a k) f = zb0 a (zc5 k f) := by cases a <;> rfl
theorem zf5_m {A B C D S T R U : Type} {L : S → T} {φ : R → U} {f : (A → B → C → D → T → Option U) → A → B → C → D → T → Option U} {g : (A → B → C → D → S → Option R) → A → B → C → D → S → Option R} (h : ∀ (F : A → B → C → D → T → Option U) (G : A → B → C → D → S → Option R), (∀ (a0 : A) (a1 : B) (a2 : C) (a3 : D) (y : S), F a0 a1 a2 a3 (L y) = Option.map φ (G a0 a1 a2 a3 y)) → ∀ (a0 : A) (a1 : B) (a2 : C) (a3 : D) (y : S), f F a0 a1 a2 a3 (L y) = Option.map φ (g G a0 a1 a2 a3 y)) : ∀ (n : Nat) (a0 : A) (a1 : B) (a2 : C) (a3 : D) (y : S), zf5 f n a0 a1 a2 a3 (L y) = Option.map φ (zf5 g n a0 a1 a2 a3 y)
  | 0, _, _, _, _, _ => rfl
  | n + 1, a0, a1, a2, a3, y => h _ _ (zf5_m h n) a0 a1 a2 a3 y
theorem zf5_p {A B C D E R U : Type} {φ : R → U} {f : (A → B → C → D → E → Option U) → A → B → C → D → E → Option U} {g : (A → B → C → D → E → Option R) → A → B → C → D → E → Option R} (h : ∀ (F : A → B → C → D → E → Option U) (G : A → B → C → D → E → Option R), (∀ (x0 : A) (x1 : B) (x2 : C) (x3 : D) (x4 : E), F x0 x1 x2 x3 x4 = Option.map φ (G x0 x1 x2 x3 x4)) → ∀ (x0 : A) (x1 : B) (x2 : C) (x3 : D) (x4 : E), f F x0 x1 x2 x3 x4 = Option.map φ (g G x0 x1 x2 x3 x4)) : ∀ (n : Nat) (x0 : A) (x1 : B) (x2 : C) (x3 : D) (x4 : E), zf5 f n x0 x1 x2 x3 x4 = Option.map φ (zf5 g n x0 x1 x2 x3 x4)
  | 0, _, _, _, _, _ => rfl
  | n + 1, x0, x1, x2, x3, x4 => h _ _ (zf5_p h n) x0 x1 x2 x3 x4
theorem zf5_c {A B C D E R : Type} {f g : (A → B → C → D → E → Option R) → A → B → C → D → E → Option R} (h : ∀ (F G : A → B → C → D → E → Option R), (∀ (x0 : A) (x1 : B) (x2 : C) (x3 : D) (x4 : E), F x0 x1 x2 x3 x4 = G x0 x1 x2 x3 x4) → ∀ (x0 : A) (x1 : B) (x2 : C) (x3 : D) (x4 : E), f F x0 x1 x2 x3 x4 = g G x0 x1 x2 x3 x4) : ∀ (n : Nat) (x0 : A) (x1 : B) (x2 : C) (x3 : D) (x4 : E), zf5 f n x0 x1 x2 x3 x4 = zf5 g n x0 x1 x2 x3 x4
  | 0, _, _, _, _, _ => rfl
  | n + 1, x0, x1, x2, x3, x4 => h _ _ (zf5_c h n) x0 x1 x2 x3 x4
theorem zzb6_some {A B C D E H R : Type} {x0 : A} {x1 : B} {x2 : C} {x3 : D} {x4 : E} {x5 : H} {f : A → B → C → D → E → H → Option R} : zb6 (some (x0, x1, x2, x3, x4, x5)) f = f x0 x1 x2 x3 x4 x5 := rfl
theorem zzc6_some {A B C D E H R : Type} {x0 : A} {x1 : B} {x2 : C} {x3 : D} {x4 : E} {x5 : H} {f : A → B → C → D → E → H → Option R} : zc6 (some (x0, x1, x2, x3, x4, x5)) f = f x0 x1 x2 x3 x4 x5 := rfl
theorem zmap_zb6 {A B C D E H R U : Type} {a : Option (A × B × C × D × E × H)} {f : A → B → C → D → E → H → Option R} {h : R → U} : Option.map h (zb6 a f) = zb6 a (fun x0 x1 x2 x3 x4 x5 => Option.map h (f x0 x1 x2 x3 x4 x5)) := by cases a <;> rfl
theorem zmap_zc6 {A B C D E H R U : Type} {a : Option (A × B × C × D × E × H)} {f : A → B → C → D → E → H → Option R} {h : R → U} : Option.map h (zc6 a f) = zc6 a (fun x0 x1 x2 x3 x4 x5 => Option.map h (f x0 x1 x2 x3 x4 x5)) := by cases a <;> rfl
theorem zzc6_ite {A B C D E H R : Type} {c : Prop} [Decidable c] {a b : Option (A × B × C × D × E × H)} {f : A → B → C → D → E → H → Option R} : zc6 (if c then a else b) f = if c then zc6 a f else zc6 b f := by split <;> rfl
theorem zzc6_zb1 {A B C D E H K0 R : Type} {a : Option (K0)} {k : K0 → Option (A × B × C × D × E × H)} {f : A → B → C → D → E → H → Option R} : zc6 (zb1 a k) f = zb1 a (fun y0 => zc6 (k y0) f) := by cases a <;> rfl
theorem zzc6_zb2 {A B C D E H K0 K1 R : Type} {a : Option (K0 × K1)} {k : K0 → K1 → Option (A × B × C × D × E × H)} {f : A → B → C → D → E → H → Option R} : zc6 (zb2 a k) f = zb2 a (fun y0 y1 => zc6 (k y0 y1) f) := by cases a <;> rfl
theorem zzc6_zb3 {A B C D E H K0 K1 K2 R : Type} {a : Option (K0 × K1 × K2)} {k : K0 → K1 → K2 → Option (A × B × C × D × E × H)} {f : A → B → C → D → E → H → Option R} : zc6 (zb3 a k) f = zb3 a (fun y0 y1 y2 => zc6 (k y0 y1 y2) f) := by cases a <;> rfl
theorem zzc6_zb4 {A B C D E H K0 K1 K2 K3 R : Type} {a : Option (K0 × K1 × K2 × K3)} {k : K0 → K1 → K2 → K3 → Option (A × B × C × D × E × H)} {f : A → B → C → D → E → H → Option R} : zc6 (zb4 a k) f = zb4 a (fun y0 y1 y2 y3 => zc6 (k y0 y1 y2 y3) f) := by cases a <;> rfl
theorem zzc6_zb5 {A B C D E H K0 K1 K2 K3 K4 R : Type} {a : Option (K0 × K1 × K2 × K3 × K4)} {k : K0 → K1 → K2 → K3 → K4 → Option (A × B × C × D × E × H)} {f : A → B → C → D → E → H → Option R} : zc6 (zb5 a k) f = zb5 a (fun y0 y1 y2 y3 y4 => zc6 (k y0 y1 y2 y3 y4) f) := by cases a <;> rfl
theorem zzc6_zb6 {A B C D E H K0 K1 K2 K3 K4 K5 R : Type} {a : Option (K0 × K1 × K2 × K3 × K4 × K5)} {k : K0 → K1 → K2 → K3 → K4 → K5 → Option (A × B × C × D × E × H)} {f : A → B → C → D → E → H → Option R} : zc6 (zb6 a k) f = zb6 a (fun y0 y1 y2 y3 y4 y5 => zc6 (k y0 y1 y2 y3 y4 y5) f) := by cases a <;> rfl
theorem zzc6_zb0 {A B C D E H R : Type} {a : Option Unit} {k : Option (A × B × C × D × E × H)} {f : A → B → C → D → E → H → Option R} : zc6 (zb0 a k) f = zb0 a (zc6 k f) := by cases a <;> rfl
theorem zf6_m {A B C D E S T R U : Type} {L : S → T} {φ : R → U} {f : (A → B → C → D → E → T → Option U) → A → B → C → D → E → T → Option U} {g : (A → B → C → D → E → S → Option R) → A → B → C → D → E → S → Option R} (h : ∀ (F : A → B → C → D → E → T → Option U) (G : A → B → C → D → E → S → Option R), (∀ (a0 : A) (a1 : B) (a2 : C) (a3 : D) (a4 : E) (y : S), F a0 a1 a2 a3 a4 (L y) = Option.map φ (G a0 a1 a2 a3 a4 y)) → ∀ (a0 : A) (a1 : B) (a2 : C) (a3 : D) (a4 : E) (y : S), f F a0 a1 a2 a3 a4 (L y) = Option.map φ (g G a0 a1 a2 a3 a4 y)) : ∀ (n : Nat) (a0 : A) (a1 : B) (a2 : C) (a3 : D) (a4 : E) (y : S), zf6 f n a0 a1 a2 a3 a4 (L y) = Option.map φ (zf6 g n a0 a1 a2 a3 a4 y)
  | 0, _, _, _, _, _, _ => rfl
  | n + 1, a0, a1, a2, a3, a4, y => h _ _ (zf6_m h n) a0 a1 a2 a3 a4 y
theorem zf6_p {A B C D E H R U : Type} {φ : R → U} {f : (A → B → C → D → E → H → Option U) → A → B → C → D → E → H → Option U} {g : (A → B → C → D → E → H → Option R) → A → B → C → D → E → H → Option R} (h : ∀ (F : A → B → C → D → E → H → Option U) (G : A → B → C → D → E → H → Option R), (∀ (x0 : A) (x1 : B) (x2 : C) (x3 : D) (x4 : E) (x5 : H), F x0 x1 x2 x3 x4 x5 = Option.map φ (G x0 x1 x2 x3 x4 x5)) → ∀ (x0 : A) (x1 : B) (x2 : C) (x3 : D) (x4 : E) (x5 : H), f F x0 x1 x2 x3 x4 x5 = Option.map φ (g G x0 x1 x2 x3 x4 x5)) : ∀ (n : Nat) (x0 : A) (x1 : B) (x2 : C) (x3 : D) (x4 : E) (x5 : H), zf6 f n x0 x1 x2 x3 x4 x5 = Option.map φ (zf6 g n x0 x1 x2 x3 x4 x5)
  | 0, _, _, _, _, _, _ => rfl
  | n + 1, x0, x1, x2, x3, x4, x5 => h _ _ (zf6_p h n) x0 x1 x2 x3 x4 x5
theorem zf6_c {A B C D E H R : Type} {f g : (A → B → C → D → E → H → Option R) → A → B → C → D → E → H → Option R} (h : ∀ (F G : A → B → C → D → E → H → Option R), (∀ (x0 : A) (x1 : B) (x2 : C) (x3 : D) (x4 : E) (x5 : H), F x0 x1 x2 x3 x4 x5 = G x0 x1 x2 x3 x4 x5) → ∀ (x0 : A) (x1 : B) (x2 : C) (x3 : D) (x4 : E) (x5 : H), f F x0 x1 x2 x3 x4 x5 = g G x0 x1 x2 x3 x4 x5) : ∀ (n : Nat) (x0 : A) (x1 : B) (x2 : C) (x3 : D) (x4 : E) (x5 : H), zf6 f n x0 x1 x2 x3 x4 x5 = zf6 g n x0 x1 x2 x3 x4 x5
  | 0, _, _, _, _, _, _ => rfl
  | n + 1, x0, x1, x2, x3, x4, x5 => h _ _ (zf6_c h n) x0 x1 x2 x3 x4 x5
