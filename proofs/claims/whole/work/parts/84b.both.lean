/-! the two new objects -/
theorem st_fl {R : Type} {f : zM → Nat → Option zM} {o : zE} {cs : Nat → List zE} {n : Nat} (hf : ∀ μ : zM, f (al μ [o]) (μ.2.1 + 0) = some (al μ (cs μ.2.1))) {μ : zM} {L : List zE} {K : zM → Option R} {r : Option R} (hn : L.length = n) (hK : K (al μ (L ++ cs (μ.2.1 + n))) = r) : zb1 (f (al μ (L ++ [o])) (μ.2.1 + L.length)) K = r := by
  subst hn
  exact st_f hf hK
theorem st_pr {R : Type} {μ : zM} {L T : List zE} {c k a a' : Nat} {fs fs' : List Value} {K : zM → Option R} {r : Option R} (hL : L = .inr (c, fs) :: T) (hk : Nat.ble (k + 1) fs.length = true) (ha : a = a') (hs : fs.set k (.ref a') = fs') (hK : K (al μ (.inr (c, fs') :: T)) = r) : zb1 (zm_p (al μ L) c (μ.2.1 + 0) k (.ref a)) K = r := by
  subst ha
  exact st_p0 hL hk hs hK
def o4 : zE := .inr (4, [.null, .null, .null, .null, .int 0, .int 0, .null, .int 0, .int 0, .int 0, .int 0, .null, .null])
def o1 : zE := .inr (1, [.int 0, .int 0, .int 0, .null, .null, .null])
def o5 : zE := .inr (5, [.null, .null, .int 0])
def o8 : zE := .inr (8, [.null, .null])
def o0 : zE := .inr (0, [.null, .null, .null])
def o11 : zE := .inr (11, [.null, .null, .null, .null, .null, .null, .null])
def cz4 (B x : Nat) : List zE := [.inr (4, [.ref (B + 1), .ref (B + 12), .ref (B + 16), .ref (B + 19), .int 0, .int (-1), .ref x, .int 0, .int 0, .int 0, .int 0, .ref (B + 24), .ref (B + 25)])] ++ cz9 (B + 1) ++ cz2 (B + 12) ++ cz3 (B + 16) ++ cz6 (B + 19) ++ [arz 3, arz 3]
def cz1 (B : Nat) : List zE := [.inr (1, [.int 0, .int 0, .int 0, .ref (B + 1), .ref (B + 2), .ref (B + 3)]), arz 6, arz 600, arz 600]
def cz5 (B : Nat) : List zE := [.inr (5, [.ref (B + 1), .ref (B + 2), .int 0]), arz 3100, arz 10]
def cz8 (B : Nat) : List zE := [.inr (8, [.ref (B + 1), .ref (B + 2)]), arz 100, arz 100]
def cz0 (B : Nat) : List zE := [.inr (0, [.ref (B + 1), .ref (B + 2), .ref (B + 3)]), arz 6, arz 6, arz 6]
theorem F4 (μ : zM) (x : Nat) : fX4_init (al μ [o4]) (μ.2.1 + 0) x = some (al μ (cz4 μ.2.1 x)) := by
  unfold fX4_init
  refine st_nw ?_
  refine st_fl (n := 1) F9 rfl ?_
  refine st_p0 (fs' := [.ref (μ.2.1 + 1), .null, .null, .null, .int 0, .int 0, .null, .int 0, .int 0, .int 0, .int 0, .null, .null]) rfl rfl rfl ?_
  refine st_nw ?_
  refine st_fl (n := 12) F2 rfl ?_
  refine st_p0 (fs' := [.ref (μ.2.1 + 1), .ref (μ.2.1 + 12), .null, .null, .int 0, .int 0, .null, .int 0, .int 0, .int 0, .int 0, .null, .null]) rfl rfl rfl ?_
  refine st_nw ?_
  refine st_fl (n := 16) F3 rfl ?_
  refine st_p0 (fs' := [.ref (μ.2.1 + 1), .ref (μ.2.1 + 12), .ref (μ.2.1 + 16), .null, .int 0, .int 0, .null, .int 0, .int 0, .int 0, .int 0, .null, .null]) rfl rfl rfl ?_
  refine st_nw ?_
  refine st_fl (n := 19) F6 rfl ?_
  refine st_p0 (fs' := [.ref (μ.2.1 + 1), .ref (μ.2.1 + 12), .ref (μ.2.1 + 16), .ref (μ.2.1 + 19), .int 0, .int 0, .null, .int 0, .int 0, .int 0, .int 0, .null, .null]) rfl rfl rfl ?_
  refine st_p0 (fs' := [.ref (μ.2.1 + 1), .ref (μ.2.1 + 12), .ref (μ.2.1 + 16), .ref (μ.2.1 + 19), .int 0, .int 0, .null, .int 0, .int 0, .int 0, .int 0, .null, .null]) rfl rfl rfl ?_
  refine st_p0 (fs' := [.ref (μ.2.1 + 1), .ref (μ.2.1 + 12), .ref (μ.2.1 + 16), .ref (μ.2.1 + 19), .int 0, .int (-1), .null, .int 0, .int 0, .int 0, .int 0, .null, .null]) rfl rfl rfl ?_
  refine st_p0 (fs' := [.ref (μ.2.1 + 1), .ref (μ.2.1 + 12), .ref (μ.2.1 + 16), .ref (μ.2.1 + 19), .int 0, .int (-1), .null, .int 0, .int 0, .int 0, .int 0, .null, .null]) rfl rfl rfl ?_
  refine st_p0 (fs' := [.ref (μ.2.1 + 1), .ref (μ.2.1 + 12), .ref (μ.2.1 + 16), .ref (μ.2.1 + 19), .int 0, .int (-1), .null, .int 0, .int 0, .int 0, .int 0, .null, .null]) rfl rfl rfl ?_
  refine st_p0 (fs' := [.ref (μ.2.1 + 1), .ref (μ.2.1 + 12), .ref (μ.2.1 + 16), .ref (μ.2.1 + 19), .int 0, .int (-1), .null, .int 0, .int 0, .int 0, .int 0, .null, .null]) rfl rfl rfl ?_
  refine st_p0 (fs' := [.ref (μ.2.1 + 1), .ref (μ.2.1 + 12), .ref (μ.2.1 + 16), .ref (μ.2.1 + 19), .int 0, .int (-1), .null, .int 0, .int 0, .int 0, .int 0, .null, .null]) rfl rfl rfl ?_
  refine st_nw ?_
  refine st_p0 (fs' := [.ref (μ.2.1 + 1), .ref (μ.2.1 + 12), .ref (μ.2.1 + 16), .ref (μ.2.1 + 19), .int 0, .int (-1), .null, .int 0, .int 0, .int 0, .int 0, .ref (μ.2.1 + 24), .null]) rfl rfl rfl ?_
  refine st_nw ?_
  refine st_p0 (fs' := [.ref (μ.2.1 + 1), .ref (μ.2.1 + 12), .ref (μ.2.1 + 16), .ref (μ.2.1 + 19), .int 0, .int (-1), .null, .int 0, .int 0, .int 0, .int 0, .ref (μ.2.1 + 24), .ref (μ.2.1 + 25)]) rfl rfl rfl ?_
  refine st_p0 (fs' := [.ref (μ.2.1 + 1), .ref (μ.2.1 + 12), .ref (μ.2.1 + 16), .ref (μ.2.1 + 19), .int 0, .int (-1), .ref x, .int 0, .int 0, .int 0, .int 0, .ref (μ.2.1 + 24), .ref (μ.2.1 + 25)]) rfl rfl rfl ?_
  rfl
theorem F1 (μ : zM) : fX1_init (al μ [o1]) (μ.2.1 + 0) = some (al μ (cz1 μ.2.1)) := by
  unfold fX1_init
  refine st_p0 rfl rfl rfl ?_
  refine st_p0 rfl rfl rfl ?_
  refine st_p0 rfl rfl rfl ?_
  refine st_nw ?_
  refine st_p0 rfl rfl rfl ?_
  refine st_nw ?_
  refine st_p0 rfl rfl rfl ?_
  refine st_nw ?_
  refine st_p0 rfl rfl rfl ?_
  rfl
theorem F5 (μ : zM) : fX5_init (al μ [o5]) (μ.2.1 + 0) = some (al μ (cz5 μ.2.1)) := by
  unfold fX5_init
  refine st_nw ?_
  refine st_p0 rfl rfl rfl ?_
  refine st_nw ?_
  refine st_p0 rfl rfl rfl ?_
  refine st_p0 rfl rfl rfl ?_
  rfl
theorem F8 (μ : zM) : fX8_init (al μ [o8]) (μ.2.1 + 0) = some (al μ (cz8 μ.2.1)) := by
  unfold fX8_init
  refine st_nw ?_
  refine st_p0 rfl rfl rfl ?_
  refine st_nw ?_
  refine st_p0 rfl rfl rfl ?_
  rfl
theorem F0z (μ : zM) : fX0_init (al μ [o0]) (μ.2.1 + 0) = some (al μ (cz0 μ.2.1)) := by
  unfold fX0_init
  refine st_nw ?_
  refine st_p0 rfl rfl rfl ?_
  refine st_nw ?_
  refine st_p0 rfl rfl rfl ?_
  refine st_nw ?_
  refine st_p0 rfl rfl rfl ?_
  rfl
theorem cz7_l {B : Nat} : (cz7 B).length = 53 := rfl
theorem cz4_l {B x : Nat} : (cz4 B x).length = 26 := rfl
theorem cz1_l {B : Nat} : (cz1 B).length = 4 := rfl
theorem cz5_l {B : Nat} : (cz5 B).length = 3 := rfl
theorem cz8_l {B : Nat} : (cz8 B).length = 3 := rfl
theorem cz0_l {B : Nat} : (cz0 B).length = 4 := rfl
def cz11 (B : Nat) : List zE := .inr (11, [.ref (B + 1), .ref (B + 54), .ref (B + 55), .ref (B + 81), .ref (B + 85), .ref (B + 88), .ref (B + 91)]) :: (cz7 (B + 1) ++ [.inl (3, 3, .inr (.inr (.inr (.inr (fun _ => none)))))] ++ cz4 (B + 55) (B + 2) ++ cz1 (B + 81) ++ cz5 (B + 85) ++ cz8 (B + 88) ++ cz0 (B + 91))
theorem F11 (μ : zM) : fX11_init (al μ [o11]) (μ.2.1 + 0) = some (al μ (cz11 μ.2.1)) := by
  unfold fX11_init
  refine st_nw ?_
  refine st_fl (n := 1) F7 rfl ?_
  refine st_pr (T := cz7 (μ.2.1 + 1)) (a' := μ.2.1 + 1) (fs' := [.ref (μ.2.1 + 1), .null, .null, .null, .null, .null, .null]) rfl rfl rfl rfl ?_
  refine st_nw ?_
  refine st_pr (T := cz7 (μ.2.1 + 1) ++ [.inl (3, 3, .inr (.inr (.inr (.inr (fun _ => none)))))]) (a' := μ.2.1 + 54) (fs' := [.ref (μ.2.1 + 1), .ref (μ.2.1 + 54), .null, .null, .null, .null, .null]) rfl rfl (by show μ.2.1 + List.length _ = _; simp only [List.length_append, List.length_cons, List.length_nil, cz7_l, cz4_l, cz1_l, cz5_l, cz8_l, cz0_l]) rfl ?_
  refine st_nw ?_
  refine st_g (i := 0) rfl ?_
  refine st_g (i := 1) rfl ?_
  refine st_fl (f := fun m a => fX4_init m a (μ.2.1 + 2)) (cs := fun B => cz4 B (μ.2.1 + 2)) (n := 55) (fun ν => F4 ν _) (by simp only [List.length_append, List.length_cons, List.length_nil, cz7_l, cz4_l, cz1_l, cz5_l, cz8_l, cz0_l]) ?_
  refine st_pr (T := cz7 (μ.2.1 + 1) ++ [.inl (3, 3, .inr (.inr (.inr (.inr (fun _ => none)))))] ++ cz4 (μ.2.1 + 55) (μ.2.1 + 2)) (a' := μ.2.1 + 55) (fs' := [.ref (μ.2.1 + 1), .ref (μ.2.1 + 54), .ref (μ.2.1 + 55), .null, .null, .null, .null]) rfl rfl (by show μ.2.1 + List.length _ = _; simp only [List.length_append, List.length_cons, List.length_nil, cz7_l, cz4_l, cz1_l, cz5_l, cz8_l, cz0_l]) rfl ?_
  refine st_nw ?_
  refine st_fl (n := 81) F1 (by simp only [List.length_append, List.length_cons, List.length_nil, cz7_l, cz4_l, cz1_l, cz5_l, cz8_l, cz0_l]) ?_
  refine st_pr (T := cz7 (μ.2.1 + 1) ++ [.inl (3, 3, .inr (.inr (.inr (.inr (fun _ => none)))))] ++ cz4 (μ.2.1 + 55) (μ.2.1 + 2) ++ cz1 (μ.2.1 + 81)) (a' := μ.2.1 + 81) (fs' := [.ref (μ.2.1 + 1), .ref (μ.2.1 + 54), .ref (μ.2.1 + 55), .ref (μ.2.1 + 81), .null, .null, .null]) rfl rfl (by show μ.2.1 + List.length _ = _; simp only [List.length_append, List.length_cons, List.length_nil, cz7_l, cz4_l, cz1_l, cz5_l, cz8_l, cz0_l]) rfl ?_
  refine st_nw ?_
  refine st_fl (n := 85) F5 (by simp only [List.length_append, List.length_cons, List.length_nil, cz7_l, cz4_l, cz1_l, cz5_l, cz8_l, cz0_l]) ?_
  refine st_pr (T := cz7 (μ.2.1 + 1) ++ [.inl (3, 3, .inr (.inr (.inr (.inr (fun _ => none)))))] ++ cz4 (μ.2.1 + 55) (μ.2.1 + 2) ++ cz1 (μ.2.1 + 81) ++ cz5 (μ.2.1 + 85)) (a' := μ.2.1 + 85) (fs' := [.ref (μ.2.1 + 1), .ref (μ.2.1 + 54), .ref (μ.2.1 + 55), .ref (μ.2.1 + 81), .ref (μ.2.1 + 85), .null, .null]) rfl rfl (by show μ.2.1 + List.length _ = _; simp only [List.length_append, List.length_cons, List.length_nil, cz7_l, cz4_l, cz1_l, cz5_l, cz8_l, cz0_l]) rfl ?_
  refine st_nw ?_
  refine st_fl (n := 88) F8 (by simp only [List.length_append, List.length_cons, List.length_nil, cz7_l, cz4_l, cz1_l, cz5_l, cz8_l, cz0_l]) ?_
  refine st_pr (T := cz7 (μ.2.1 + 1) ++ [.inl (3, 3, .inr (.inr (.inr (.inr (fun _ => none)))))] ++ cz4 (μ.2.1 + 55) (μ.2.1 + 2) ++ cz1 (μ.2.1 + 81) ++ cz5 (μ.2.1 + 85) ++ cz8 (μ.2.1 + 88)) (a' := μ.2.1 + 88) (fs' := [.ref (μ.2.1 + 1), .ref (μ.2.1 + 54), .ref (μ.2.1 + 55), .ref (μ.2.1 + 81), .ref (μ.2.1 + 85), .ref (μ.2.1 + 88), .null]) rfl rfl (by show μ.2.1 + List.length _ = _; simp only [List.length_append, List.length_cons, List.length_nil, cz7_l, cz4_l, cz1_l, cz5_l, cz8_l, cz0_l]) rfl ?_
  refine st_nw ?_
  refine st_fl (n := 91) F0z (by simp only [List.length_append, List.length_cons, List.length_nil, cz7_l, cz4_l, cz1_l, cz5_l, cz8_l, cz0_l]) ?_
  refine st_pr (T := cz7 (μ.2.1 + 1) ++ [.inl (3, 3, .inr (.inr (.inr (.inr (fun _ => none)))))] ++ cz4 (μ.2.1 + 55) (μ.2.1 + 2) ++ cz1 (μ.2.1 + 81) ++ cz5 (μ.2.1 + 85) ++ cz8 (μ.2.1 + 88) ++ cz0 (μ.2.1 + 91)) (a' := μ.2.1 + 91) (fs' := [.ref (μ.2.1 + 1), .ref (μ.2.1 + 54), .ref (μ.2.1 + 55), .ref (μ.2.1 + 81), .ref (μ.2.1 + 85), .ref (μ.2.1 + 88), .ref (μ.2.1 + 91)]) rfl rfl (by show μ.2.1 + List.length _ = _; simp only [List.length_append, List.length_cons, List.length_nil, cz7_l, cz4_l, cz1_l, cz5_l, cz8_l, cz0_l]) rfl ?_
  rfl
def o12 : zE := .inr (12, [.int 0, .null, .null, .null, .null, .null, .null, .null, .null, .null, .int 0, .int 0, .int 0, .int 0, .int 0, .long 0, .int 0, .int 0, .int 0, .null, .null, .int 0, .int 0, .int 0, .int 0, .int 0, .int 0, .null, .null, .int 0, .int 0, .null, .null, .null, .int 0, .int 0, .int 0, .null, .null, .int 0, .int 0, .null, .null, .null, .int 0, .null, .int 0, .null, .int 0, .int 0, .null, .null, .null, .null])
def cz12 (B : Nat) : List zE := [.inr (12, [.int 0, .ref (B + 1), .ref (B + 2), .ref (B + 3), .ref (B + 4), .ref (B + 5), .ref (B + 6), .ref (B + 7), .ref (B + 8), .ref (B + 9), .int 0, .int 0, .int 0, .int 0, .int 0, .long 0, .int 0, .int 0, .int 0, .ref (B + 10), .ref (B + 11), .int 0, .int 0, .int 0, .int 0, .int 0, .int 0, .ref (B + 12), .ref (B + 13), .int 0, .int 0, .ref (B + 14), .ref (B + 15), .ref (B + 16), .int 0, .int 0, .int 0, .ref (B + 17), .ref (B + 18), .int 0, .int 0, .ref (B + 19), .ref (B + 20), .ref (B + 21), .int 0, .ref (B + 22), .int 0, .ref (B + 23), .int 0, .int 0, .ref (B + 24), .ref (B + 25), .ref (B + 26), .ref (B + 27)]), .inl (1, 2400, .inl (fun _ => 0)), arz 4, arz 4, .inl (0, 4, .inl (upd (fun _ => 0) 0 (-1))), arz 16, arz 456, arz 968, arz 176, arz 264, arz 121, arz 4, arz 600, arz 300, arz 6, arz 6, arz 6, arz 6, arz 6, arz 100, arz 100, arz 1161, arz 8, arz 3100, arz 6, arz 6, arz 6, .inl (2, 3, .inl (fun _ => 0))]
theorem st_s {R : Type} {μ : zM} {L : List zE} {i n : Nat} {f : Nat → Int32} {v : Int32} {K : zM → Option R} {r : Option R} (h : L[i]? = some (.inl (0, n, .inl f))) (hn : 0 < n) (hK : K (al μ (L.set i (.inl (0, n, .inl (upd f 0 v))))) = r) : zb1 (zm_sI (al μ L) 0 (μ.2.1 + i) 0 v) K = r := by
  have hi : i < L.length := (List.getElem?_eq_some_iff.mp h).1
  have : zm_sI (al μ L) 0 (μ.2.1 + i) 0 v = some (al μ (L.set i (.inl (0, n, .inl (upd f 0 v))))) := by
    unfold zm_sI
    rw [al_in h]
    show (if 0 = 0 ∧ ¬ ((0 : Int32) < 0 ∨ n ≤ (0 : Int32).toNatClampNeg) then some (zm_up (al μ L) (μ.2.1 + i) (.inl (0, n, .inl (upd f (0 : Int32).toNatClampNeg v)))) else none) = _
    rw [if_pos ⟨rfl, fun z => by
      rcases z with z | z
      · exact absurd z (by decide)
      · have : (0 : Int32).toNatClampNeg = 0 := rfl
        omega⟩, al_up hi]; rfl
  rw [this, wb1]; exact hK
theorem F12 (μ : zM) : fX12_init (al μ [o12]) (μ.2.1 + 0) = some (al μ (cz12 μ.2.1)) := by
  unfold fX12_init
  refine st_nw ?_
  refine st_p0 (fs' := [.int 0, .ref (μ.2.1 + 1), .null, .null, .null, .null, .null, .null, .null, .null, .int 0, .int 0, .int 0, .int 0, .int 0, .long 0, .int 0, .int 0, .int 0, .null, .null, .int 0, .int 0, .int 0, .int 0, .int 0, .int 0, .null, .null, .int 0, .int 0, .null, .null, .null, .int 0, .int 0, .int 0, .null, .null, .int 0, .int 0, .null, .null, .null, .int 0, .null, .int 0, .null, .int 0, .int 0, .null, .null, .null, .null]) rfl rfl rfl ?_
  refine st_nw ?_
  refine st_p0 (fs' := [.int 0, .ref (μ.2.1 + 1), .ref (μ.2.1 + 2), .null, .null, .null, .null, .null, .null, .null, .int 0, .int 0, .int 0, .int 0, .int 0, .long 0, .int 0, .int 0, .int 0, .null, .null, .int 0, .int 0, .int 0, .int 0, .int 0, .int 0, .null, .null, .int 0, .int 0, .null, .null, .null, .int 0, .int 0, .int 0, .null, .null, .int 0, .int 0, .null, .null, .null, .int 0, .null, .int 0, .null, .int 0, .int 0, .null, .null, .null, .null]) rfl rfl rfl ?_
  refine st_nw ?_
  refine st_p0 (fs' := [.int 0, .ref (μ.2.1 + 1), .ref (μ.2.1 + 2), .ref (μ.2.1 + 3), .null, .null, .null, .null, .null, .null, .int 0, .int 0, .int 0, .int 0, .int 0, .long 0, .int 0, .int 0, .int 0, .null, .null, .int 0, .int 0, .int 0, .int 0, .int 0, .int 0, .null, .null, .int 0, .int 0, .null, .null, .null, .int 0, .int 0, .int 0, .null, .null, .int 0, .int 0, .null, .null, .null, .int 0, .null, .int 0, .null, .int 0, .int 0, .null, .null, .null, .null]) rfl rfl rfl ?_
  refine st_nw ?_
  refine st_p0 (fs' := [.int 0, .ref (μ.2.1 + 1), .ref (μ.2.1 + 2), .ref (μ.2.1 + 3), .ref (μ.2.1 + 4), .null, .null, .null, .null, .null, .int 0, .int 0, .int 0, .int 0, .int 0, .long 0, .int 0, .int 0, .int 0, .null, .null, .int 0, .int 0, .int 0, .int 0, .int 0, .int 0, .null, .null, .int 0, .int 0, .null, .null, .null, .int 0, .int 0, .int 0, .null, .null, .int 0, .int 0, .null, .null, .null, .int 0, .null, .int 0, .null, .int 0, .int 0, .null, .null, .null, .null]) rfl rfl rfl ?_
  refine st_nw ?_
  refine st_p0 (fs' := [.int 0, .ref (μ.2.1 + 1), .ref (μ.2.1 + 2), .ref (μ.2.1 + 3), .ref (μ.2.1 + 4), .ref (μ.2.1 + 5), .null, .null, .null, .null, .int 0, .int 0, .int 0, .int 0, .int 0, .long 0, .int 0, .int 0, .int 0, .null, .null, .int 0, .int 0, .int 0, .int 0, .int 0, .int 0, .null, .null, .int 0, .int 0, .null, .null, .null, .int 0, .int 0, .int 0, .null, .null, .int 0, .int 0, .null, .null, .null, .int 0, .null, .int 0, .null, .int 0, .int 0, .null, .null, .null, .null]) rfl rfl rfl ?_
  refine st_nw ?_
  refine st_p0 (fs' := [.int 0, .ref (μ.2.1 + 1), .ref (μ.2.1 + 2), .ref (μ.2.1 + 3), .ref (μ.2.1 + 4), .ref (μ.2.1 + 5), .ref (μ.2.1 + 6), .null, .null, .null, .int 0, .int 0, .int 0, .int 0, .int 0, .long 0, .int 0, .int 0, .int 0, .null, .null, .int 0, .int 0, .int 0, .int 0, .int 0, .int 0, .null, .null, .int 0, .int 0, .null, .null, .null, .int 0, .int 0, .int 0, .null, .null, .int 0, .int 0, .null, .null, .null, .int 0, .null, .int 0, .null, .int 0, .int 0, .null, .null, .null, .null]) rfl rfl rfl ?_
  refine st_nw ?_
  refine st_p0 (fs' := [.int 0, .ref (μ.2.1 + 1), .ref (μ.2.1 + 2), .ref (μ.2.1 + 3), .ref (μ.2.1 + 4), .ref (μ.2.1 + 5), .ref (μ.2.1 + 6), .ref (μ.2.1 + 7), .null, .null, .int 0, .int 0, .int 0, .int 0, .int 0, .long 0, .int 0, .int 0, .int 0, .null, .null, .int 0, .int 0, .int 0, .int 0, .int 0, .int 0, .null, .null, .int 0, .int 0, .null, .null, .null, .int 0, .int 0, .int 0, .null, .null, .int 0, .int 0, .null, .null, .null, .int 0, .null, .int 0, .null, .int 0, .int 0, .null, .null, .null, .null]) rfl rfl rfl ?_
  refine st_nw ?_
  refine st_p0 (fs' := [.int 0, .ref (μ.2.1 + 1), .ref (μ.2.1 + 2), .ref (μ.2.1 + 3), .ref (μ.2.1 + 4), .ref (μ.2.1 + 5), .ref (μ.2.1 + 6), .ref (μ.2.1 + 7), .ref (μ.2.1 + 8), .null, .int 0, .int 0, .int 0, .int 0, .int 0, .long 0, .int 0, .int 0, .int 0, .null, .null, .int 0, .int 0, .int 0, .int 0, .int 0, .int 0, .null, .null, .int 0, .int 0, .null, .null, .null, .int 0, .int 0, .int 0, .null, .null, .int 0, .int 0, .null, .null, .null, .int 0, .null, .int 0, .null, .int 0, .int 0, .null, .null, .null, .null]) rfl rfl rfl ?_
  refine st_nw ?_
  refine st_p0 (fs' := [.int 0, .ref (μ.2.1 + 1), .ref (μ.2.1 + 2), .ref (μ.2.1 + 3), .ref (μ.2.1 + 4), .ref (μ.2.1 + 5), .ref (μ.2.1 + 6), .ref (μ.2.1 + 7), .ref (μ.2.1 + 8), .ref (μ.2.1 + 9), .int 0, .int 0, .int 0, .int 0, .int 0, .long 0, .int 0, .int 0, .int 0, .null, .null, .int 0, .int 0, .int 0, .int 0, .int 0, .int 0, .null, .null, .int 0, .int 0, .null, .null, .null, .int 0, .int 0, .int 0, .null, .null, .int 0, .int 0, .null, .null, .null, .int 0, .null, .int 0, .null, .int 0, .int 0, .null, .null, .null, .null]) rfl rfl rfl ?_
  refine st_nw ?_
  refine st_p0 (fs' := [.int 0, .ref (μ.2.1 + 1), .ref (μ.2.1 + 2), .ref (μ.2.1 + 3), .ref (μ.2.1 + 4), .ref (μ.2.1 + 5), .ref (μ.2.1 + 6), .ref (μ.2.1 + 7), .ref (μ.2.1 + 8), .ref (μ.2.1 + 9), .int 0, .int 0, .int 0, .int 0, .int 0, .long 0, .int 0, .int 0, .int 0, .ref (μ.2.1 + 10), .null, .int 0, .int 0, .int 0, .int 0, .int 0, .int 0, .null, .null, .int 0, .int 0, .null, .null, .null, .int 0, .int 0, .int 0, .null, .null, .int 0, .int 0, .null, .null, .null, .int 0, .null, .int 0, .null, .int 0, .int 0, .null, .null, .null, .null]) rfl rfl rfl ?_
  refine st_nw ?_
  refine st_p0 (fs' := [.int 0, .ref (μ.2.1 + 1), .ref (μ.2.1 + 2), .ref (μ.2.1 + 3), .ref (μ.2.1 + 4), .ref (μ.2.1 + 5), .ref (μ.2.1 + 6), .ref (μ.2.1 + 7), .ref (μ.2.1 + 8), .ref (μ.2.1 + 9), .int 0, .int 0, .int 0, .int 0, .int 0, .long 0, .int 0, .int 0, .int 0, .ref (μ.2.1 + 10), .ref (μ.2.1 + 11), .int 0, .int 0, .int 0, .int 0, .int 0, .int 0, .null, .null, .int 0, .int 0, .null, .null, .null, .int 0, .int 0, .int 0, .null, .null, .int 0, .int 0, .null, .null, .null, .int 0, .null, .int 0, .null, .int 0, .int 0, .null, .null, .null, .null]) rfl rfl rfl ?_
  refine st_nw ?_
  refine st_p0 (fs' := [.int 0, .ref (μ.2.1 + 1), .ref (μ.2.1 + 2), .ref (μ.2.1 + 3), .ref (μ.2.1 + 4), .ref (μ.2.1 + 5), .ref (μ.2.1 + 6), .ref (μ.2.1 + 7), .ref (μ.2.1 + 8), .ref (μ.2.1 + 9), .int 0, .int 0, .int 0, .int 0, .int 0, .long 0, .int 0, .int 0, .int 0, .ref (μ.2.1 + 10), .ref (μ.2.1 + 11), .int 0, .int 0, .int 0, .int 0, .int 0, .int 0, .ref (μ.2.1 + 12), .null, .int 0, .int 0, .null, .null, .null, .int 0, .int 0, .int 0, .null, .null, .int 0, .int 0, .null, .null, .null, .int 0, .null, .int 0, .null, .int 0, .int 0, .null, .null, .null, .null]) rfl rfl rfl ?_
  refine st_nw ?_
  refine st_p0 (fs' := [.int 0, .ref (μ.2.1 + 1), .ref (μ.2.1 + 2), .ref (μ.2.1 + 3), .ref (μ.2.1 + 4), .ref (μ.2.1 + 5), .ref (μ.2.1 + 6), .ref (μ.2.1 + 7), .ref (μ.2.1 + 8), .ref (μ.2.1 + 9), .int 0, .int 0, .int 0, .int 0, .int 0, .long 0, .int 0, .int 0, .int 0, .ref (μ.2.1 + 10), .ref (μ.2.1 + 11), .int 0, .int 0, .int 0, .int 0, .int 0, .int 0, .ref (μ.2.1 + 12), .ref (μ.2.1 + 13), .int 0, .int 0, .null, .null, .null, .int 0, .int 0, .int 0, .null, .null, .int 0, .int 0, .null, .null, .null, .int 0, .null, .int 0, .null, .int 0, .int 0, .null, .null, .null, .null]) rfl rfl rfl ?_
  refine st_nw ?_
  refine st_p0 (fs' := [.int 0, .ref (μ.2.1 + 1), .ref (μ.2.1 + 2), .ref (μ.2.1 + 3), .ref (μ.2.1 + 4), .ref (μ.2.1 + 5), .ref (μ.2.1 + 6), .ref (μ.2.1 + 7), .ref (μ.2.1 + 8), .ref (μ.2.1 + 9), .int 0, .int 0, .int 0, .int 0, .int 0, .long 0, .int 0, .int 0, .int 0, .ref (μ.2.1 + 10), .ref (μ.2.1 + 11), .int 0, .int 0, .int 0, .int 0, .int 0, .int 0, .ref (μ.2.1 + 12), .ref (μ.2.1 + 13), .int 0, .int 0, .ref (μ.2.1 + 14), .null, .null, .int 0, .int 0, .int 0, .null, .null, .int 0, .int 0, .null, .null, .null, .int 0, .null, .int 0, .null, .int 0, .int 0, .null, .null, .null, .null]) rfl rfl rfl ?_
  refine st_nw ?_
  refine st_p0 (fs' := [.int 0, .ref (μ.2.1 + 1), .ref (μ.2.1 + 2), .ref (μ.2.1 + 3), .ref (μ.2.1 + 4), .ref (μ.2.1 + 5), .ref (μ.2.1 + 6), .ref (μ.2.1 + 7), .ref (μ.2.1 + 8), .ref (μ.2.1 + 9), .int 0, .int 0, .int 0, .int 0, .int 0, .long 0, .int 0, .int 0, .int 0, .ref (μ.2.1 + 10), .ref (μ.2.1 + 11), .int 0, .int 0, .int 0, .int 0, .int 0, .int 0, .ref (μ.2.1 + 12), .ref (μ.2.1 + 13), .int 0, .int 0, .ref (μ.2.1 + 14), .ref (μ.2.1 + 15), .null, .int 0, .int 0, .int 0, .null, .null, .int 0, .int 0, .null, .null, .null, .int 0, .null, .int 0, .null, .int 0, .int 0, .null, .null, .null, .null]) rfl rfl rfl ?_
  refine st_nw ?_
  refine st_p0 (fs' := [.int 0, .ref (μ.2.1 + 1), .ref (μ.2.1 + 2), .ref (μ.2.1 + 3), .ref (μ.2.1 + 4), .ref (μ.2.1 + 5), .ref (μ.2.1 + 6), .ref (μ.2.1 + 7), .ref (μ.2.1 + 8), .ref (μ.2.1 + 9), .int 0, .int 0, .int 0, .int 0, .int 0, .long 0, .int 0, .int 0, .int 0, .ref (μ.2.1 + 10), .ref (μ.2.1 + 11), .int 0, .int 0, .int 0, .int 0, .int 0, .int 0, .ref (μ.2.1 + 12), .ref (μ.2.1 + 13), .int 0, .int 0, .ref (μ.2.1 + 14), .ref (μ.2.1 + 15), .ref (μ.2.1 + 16), .int 0, .int 0, .int 0, .null, .null, .int 0, .int 0, .null, .null, .null, .int 0, .null, .int 0, .null, .int 0, .int 0, .null, .null, .null, .null]) rfl rfl rfl ?_
  refine st_nw ?_
  refine st_p0 (fs' := [.int 0, .ref (μ.2.1 + 1), .ref (μ.2.1 + 2), .ref (μ.2.1 + 3), .ref (μ.2.1 + 4), .ref (μ.2.1 + 5), .ref (μ.2.1 + 6), .ref (μ.2.1 + 7), .ref (μ.2.1 + 8), .ref (μ.2.1 + 9), .int 0, .int 0, .int 0, .int 0, .int 0, .long 0, .int 0, .int 0, .int 0, .ref (μ.2.1 + 10), .ref (μ.2.1 + 11), .int 0, .int 0, .int 0, .int 0, .int 0, .int 0, .ref (μ.2.1 + 12), .ref (μ.2.1 + 13), .int 0, .int 0, .ref (μ.2.1 + 14), .ref (μ.2.1 + 15), .ref (μ.2.1 + 16), .int 0, .int 0, .int 0, .ref (μ.2.1 + 17), .null, .int 0, .int 0, .null, .null, .null, .int 0, .null, .int 0, .null, .int 0, .int 0, .null, .null, .null, .null]) rfl rfl rfl ?_
  refine st_nw ?_
  refine st_p0 (fs' := [.int 0, .ref (μ.2.1 + 1), .ref (μ.2.1 + 2), .ref (μ.2.1 + 3), .ref (μ.2.1 + 4), .ref (μ.2.1 + 5), .ref (μ.2.1 + 6), .ref (μ.2.1 + 7), .ref (μ.2.1 + 8), .ref (μ.2.1 + 9), .int 0, .int 0, .int 0, .int 0, .int 0, .long 0, .int 0, .int 0, .int 0, .ref (μ.2.1 + 10), .ref (μ.2.1 + 11), .int 0, .int 0, .int 0, .int 0, .int 0, .int 0, .ref (μ.2.1 + 12), .ref (μ.2.1 + 13), .int 0, .int 0, .ref (μ.2.1 + 14), .ref (μ.2.1 + 15), .ref (μ.2.1 + 16), .int 0, .int 0, .int 0, .ref (μ.2.1 + 17), .ref (μ.2.1 + 18), .int 0, .int 0, .null, .null, .null, .int 0, .null, .int 0, .null, .int 0, .int 0, .null, .null, .null, .null]) rfl rfl rfl ?_
  refine st_nw ?_
  refine st_p0 (fs' := [.int 0, .ref (μ.2.1 + 1), .ref (μ.2.1 + 2), .ref (μ.2.1 + 3), .ref (μ.2.1 + 4), .ref (μ.2.1 + 5), .ref (μ.2.1 + 6), .ref (μ.2.1 + 7), .ref (μ.2.1 + 8), .ref (μ.2.1 + 9), .int 0, .int 0, .int 0, .int 0, .int 0, .long 0, .int 0, .int 0, .int 0, .ref (μ.2.1 + 10), .ref (μ.2.1 + 11), .int 0, .int 0, .int 0, .int 0, .int 0, .int 0, .ref (μ.2.1 + 12), .ref (μ.2.1 + 13), .int 0, .int 0, .ref (μ.2.1 + 14), .ref (μ.2.1 + 15), .ref (μ.2.1 + 16), .int 0, .int 0, .int 0, .ref (μ.2.1 + 17), .ref (μ.2.1 + 18), .int 0, .int 0, .ref (μ.2.1 + 19), .null, .null, .int 0, .null, .int 0, .null, .int 0, .int 0, .null, .null, .null, .null]) rfl rfl rfl ?_
  refine st_nw ?_
  refine st_p0 (fs' := [.int 0, .ref (μ.2.1 + 1), .ref (μ.2.1 + 2), .ref (μ.2.1 + 3), .ref (μ.2.1 + 4), .ref (μ.2.1 + 5), .ref (μ.2.1 + 6), .ref (μ.2.1 + 7), .ref (μ.2.1 + 8), .ref (μ.2.1 + 9), .int 0, .int 0, .int 0, .int 0, .int 0, .long 0, .int 0, .int 0, .int 0, .ref (μ.2.1 + 10), .ref (μ.2.1 + 11), .int 0, .int 0, .int 0, .int 0, .int 0, .int 0, .ref (μ.2.1 + 12), .ref (μ.2.1 + 13), .int 0, .int 0, .ref (μ.2.1 + 14), .ref (μ.2.1 + 15), .ref (μ.2.1 + 16), .int 0, .int 0, .int 0, .ref (μ.2.1 + 17), .ref (μ.2.1 + 18), .int 0, .int 0, .ref (μ.2.1 + 19), .ref (μ.2.1 + 20), .null, .int 0, .null, .int 0, .null, .int 0, .int 0, .null, .null, .null, .null]) rfl rfl rfl ?_
  refine st_nw ?_
  refine st_p0 (fs' := [.int 0, .ref (μ.2.1 + 1), .ref (μ.2.1 + 2), .ref (μ.2.1 + 3), .ref (μ.2.1 + 4), .ref (μ.2.1 + 5), .ref (μ.2.1 + 6), .ref (μ.2.1 + 7), .ref (μ.2.1 + 8), .ref (μ.2.1 + 9), .int 0, .int 0, .int 0, .int 0, .int 0, .long 0, .int 0, .int 0, .int 0, .ref (μ.2.1 + 10), .ref (μ.2.1 + 11), .int 0, .int 0, .int 0, .int 0, .int 0, .int 0, .ref (μ.2.1 + 12), .ref (μ.2.1 + 13), .int 0, .int 0, .ref (μ.2.1 + 14), .ref (μ.2.1 + 15), .ref (μ.2.1 + 16), .int 0, .int 0, .int 0, .ref (μ.2.1 + 17), .ref (μ.2.1 + 18), .int 0, .int 0, .ref (μ.2.1 + 19), .ref (μ.2.1 + 20), .ref (μ.2.1 + 21), .int 0, .null, .int 0, .null, .int 0, .int 0, .null, .null, .null, .null]) rfl rfl rfl ?_
  refine st_nw ?_
  refine st_p0 (fs' := [.int 0, .ref (μ.2.1 + 1), .ref (μ.2.1 + 2), .ref (μ.2.1 + 3), .ref (μ.2.1 + 4), .ref (μ.2.1 + 5), .ref (μ.2.1 + 6), .ref (μ.2.1 + 7), .ref (μ.2.1 + 8), .ref (μ.2.1 + 9), .int 0, .int 0, .int 0, .int 0, .int 0, .long 0, .int 0, .int 0, .int 0, .ref (μ.2.1 + 10), .ref (μ.2.1 + 11), .int 0, .int 0, .int 0, .int 0, .int 0, .int 0, .ref (μ.2.1 + 12), .ref (μ.2.1 + 13), .int 0, .int 0, .ref (μ.2.1 + 14), .ref (μ.2.1 + 15), .ref (μ.2.1 + 16), .int 0, .int 0, .int 0, .ref (μ.2.1 + 17), .ref (μ.2.1 + 18), .int 0, .int 0, .ref (μ.2.1 + 19), .ref (μ.2.1 + 20), .ref (μ.2.1 + 21), .int 0, .ref (μ.2.1 + 22), .int 0, .null, .int 0, .int 0, .null, .null, .null, .null]) rfl rfl rfl ?_
  refine st_nw ?_
  refine st_p0 (fs' := [.int 0, .ref (μ.2.1 + 1), .ref (μ.2.1 + 2), .ref (μ.2.1 + 3), .ref (μ.2.1 + 4), .ref (μ.2.1 + 5), .ref (μ.2.1 + 6), .ref (μ.2.1 + 7), .ref (μ.2.1 + 8), .ref (μ.2.1 + 9), .int 0, .int 0, .int 0, .int 0, .int 0, .long 0, .int 0, .int 0, .int 0, .ref (μ.2.1 + 10), .ref (μ.2.1 + 11), .int 0, .int 0, .int 0, .int 0, .int 0, .int 0, .ref (μ.2.1 + 12), .ref (μ.2.1 + 13), .int 0, .int 0, .ref (μ.2.1 + 14), .ref (μ.2.1 + 15), .ref (μ.2.1 + 16), .int 0, .int 0, .int 0, .ref (μ.2.1 + 17), .ref (μ.2.1 + 18), .int 0, .int 0, .ref (μ.2.1 + 19), .ref (μ.2.1 + 20), .ref (μ.2.1 + 21), .int 0, .ref (μ.2.1 + 22), .int 0, .ref (μ.2.1 + 23), .int 0, .int 0, .null, .null, .null, .null]) rfl rfl rfl ?_
  refine st_nw ?_
  refine st_p0 (fs' := [.int 0, .ref (μ.2.1 + 1), .ref (μ.2.1 + 2), .ref (μ.2.1 + 3), .ref (μ.2.1 + 4), .ref (μ.2.1 + 5), .ref (μ.2.1 + 6), .ref (μ.2.1 + 7), .ref (μ.2.1 + 8), .ref (μ.2.1 + 9), .int 0, .int 0, .int 0, .int 0, .int 0, .long 0, .int 0, .int 0, .int 0, .ref (μ.2.1 + 10), .ref (μ.2.1 + 11), .int 0, .int 0, .int 0, .int 0, .int 0, .int 0, .ref (μ.2.1 + 12), .ref (μ.2.1 + 13), .int 0, .int 0, .ref (μ.2.1 + 14), .ref (μ.2.1 + 15), .ref (μ.2.1 + 16), .int 0, .int 0, .int 0, .ref (μ.2.1 + 17), .ref (μ.2.1 + 18), .int 0, .int 0, .ref (μ.2.1 + 19), .ref (μ.2.1 + 20), .ref (μ.2.1 + 21), .int 0, .ref (μ.2.1 + 22), .int 0, .ref (μ.2.1 + 23), .int 0, .int 0, .ref (μ.2.1 + 24), .null, .null, .null]) rfl rfl rfl ?_
  refine st_nw ?_
  refine st_p0 (fs' := [.int 0, .ref (μ.2.1 + 1), .ref (μ.2.1 + 2), .ref (μ.2.1 + 3), .ref (μ.2.1 + 4), .ref (μ.2.1 + 5), .ref (μ.2.1 + 6), .ref (μ.2.1 + 7), .ref (μ.2.1 + 8), .ref (μ.2.1 + 9), .int 0, .int 0, .int 0, .int 0, .int 0, .long 0, .int 0, .int 0, .int 0, .ref (μ.2.1 + 10), .ref (μ.2.1 + 11), .int 0, .int 0, .int 0, .int 0, .int 0, .int 0, .ref (μ.2.1 + 12), .ref (μ.2.1 + 13), .int 0, .int 0, .ref (μ.2.1 + 14), .ref (μ.2.1 + 15), .ref (μ.2.1 + 16), .int 0, .int 0, .int 0, .ref (μ.2.1 + 17), .ref (μ.2.1 + 18), .int 0, .int 0, .ref (μ.2.1 + 19), .ref (μ.2.1 + 20), .ref (μ.2.1 + 21), .int 0, .ref (μ.2.1 + 22), .int 0, .ref (μ.2.1 + 23), .int 0, .int 0, .ref (μ.2.1 + 24), .ref (μ.2.1 + 25), .null, .null]) rfl rfl rfl ?_
  refine st_nw ?_
  refine st_p0 (fs' := [.int 0, .ref (μ.2.1 + 1), .ref (μ.2.1 + 2), .ref (μ.2.1 + 3), .ref (μ.2.1 + 4), .ref (μ.2.1 + 5), .ref (μ.2.1 + 6), .ref (μ.2.1 + 7), .ref (μ.2.1 + 8), .ref (μ.2.1 + 9), .int 0, .int 0, .int 0, .int 0, .int 0, .long 0, .int 0, .int 0, .int 0, .ref (μ.2.1 + 10), .ref (μ.2.1 + 11), .int 0, .int 0, .int 0, .int 0, .int 0, .int 0, .ref (μ.2.1 + 12), .ref (μ.2.1 + 13), .int 0, .int 0, .ref (μ.2.1 + 14), .ref (μ.2.1 + 15), .ref (μ.2.1 + 16), .int 0, .int 0, .int 0, .ref (μ.2.1 + 17), .ref (μ.2.1 + 18), .int 0, .int 0, .ref (μ.2.1 + 19), .ref (μ.2.1 + 20), .ref (μ.2.1 + 21), .int 0, .ref (μ.2.1 + 22), .int 0, .ref (μ.2.1 + 23), .int 0, .int 0, .ref (μ.2.1 + 24), .ref (μ.2.1 + 25), .ref (μ.2.1 + 26), .null]) rfl rfl rfl ?_
  refine st_nw ?_
  refine st_p0 (fs' := [.int 0, .ref (μ.2.1 + 1), .ref (μ.2.1 + 2), .ref (μ.2.1 + 3), .ref (μ.2.1 + 4), .ref (μ.2.1 + 5), .ref (μ.2.1 + 6), .ref (μ.2.1 + 7), .ref (μ.2.1 + 8), .ref (μ.2.1 + 9), .int 0, .int 0, .int 0, .int 0, .int 0, .long 0, .int 0, .int 0, .int 0, .ref (μ.2.1 + 10), .ref (μ.2.1 + 11), .int 0, .int 0, .int 0, .int 0, .int 0, .int 0, .ref (μ.2.1 + 12), .ref (μ.2.1 + 13), .int 0, .int 0, .ref (μ.2.1 + 14), .ref (μ.2.1 + 15), .ref (μ.2.1 + 16), .int 0, .int 0, .int 0, .ref (μ.2.1 + 17), .ref (μ.2.1 + 18), .int 0, .int 0, .ref (μ.2.1 + 19), .ref (μ.2.1 + 20), .ref (μ.2.1 + 21), .int 0, .ref (μ.2.1 + 22), .int 0, .ref (μ.2.1 + 23), .int 0, .int 0, .ref (μ.2.1 + 24), .ref (μ.2.1 + 25), .ref (μ.2.1 + 26), .ref (μ.2.1 + 27)]) rfl rfl rfl ?_
  refine st_g (i := 0) rfl ?_
  refine st_s (i := 4) rfl (by omega) ?_
  rfl
