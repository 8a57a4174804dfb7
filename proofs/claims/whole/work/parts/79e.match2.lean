theorem zf2_stop {A B R : Type} {f : (A → B → Option R) → A → B → Option R} (n : Nat) (P : Nat → A → B → Prop) (Q : R → Prop) (hs : ∀ i x0 x1, i < n → P i x0 x1 → (∃ r, Q r ∧ ∀ F, f F x0 x1 = some r) ∨ (∃ y0 y1, P (i + 1) y0 y1 ∧ ∀ F, f F x0 x1 = F y0 y1)) (he : ∀ x0 x1, P n x0 x1 → ∃ r, Q r ∧ ∀ F, f F x0 x1 = some r) {N : Nat} (hN : n < N) {x0 : A} {x1 : B} (h0 : P 0 x0 x1) : ∃ r, zf2 f N x0 x1 = some r ∧ Q r := by
  have h : ∀ d i N x0 x1, i + d = n → d < N → P i x0 x1 → ∃ r, zf2 f N x0 x1 = some r ∧ Q r := by
    intro d
    induction d with
    | zero =>
      intro i N x0 x1 hi hN hP
      cases N with
      | zero => omega
      | succ N =>
        obtain ⟨r, h1, h2⟩ := he x0 x1 (by rw [← show i = n by omega]; exact hP)
        exact ⟨r, h2 _, h1⟩
    | succ d ih =>
      intro i N x0 x1 hi hN hP
      cases N with
      | zero => omega
      | succ N =>
        show ∃ r, f (zf2 f N) x0 x1 = some r ∧ Q r
        rcases hs i x0 x1 (by omega) hP with ⟨r, h1, h2⟩ | ⟨y0, y1, h1, e1⟩
        · exact ⟨r, h2 _, h1⟩
        · rw [e1]
          exact ih (i + 1) N y0 y1 (by omega) (by omega) h1
  exact h n 0 N x0 x1 (by omega) hN h0
def prs (ak : Nat → Nat → Bool) : Nat := cnt (fun x => ak (x / 6) (x % 6)) 36
theorem prs_1 {ak : Nat → Nat → Bool} {a b : Nat} (ha : a < 6) (hb : b < 6) (h : ak a b = false) : prs ak < prs (ak1 ak a b) := by
  refine cnt_slt (x := 6 * a + b) (fun i _ hi => by unfold ak1; rw [hi]; rfl) (by omega) ?_ ?_
  · show ak ((6 * a + b) / 6) ((6 * a + b) % 6) = false
    rw [show (6 * a + b) / 6 = a by omega, show (6 * a + b) % 6 = b by omega]; exact h
  · show ak1 ak a b ((6 * a + b) / 6) ((6 * a + b) % 6) = true
    rw [show (6 * a + b) / 6 = a by omega, show (6 * a + b) % 6 = b by omega]; unfold ak1; simp
theorem prs_a {ak : Nat → Nat → Bool} (h : 36 ≤ prs ak) {a b : Nat} (ha : a < 6) (hb : b < 6) : ak a b = true := by
  cases hk : ak a b with
  | true => rfl
  | false =>
    have := cnt_lt (p := fun x => ak (x / 6) (x % 6)) (x := 6 * a + b) (n := 36) (by
      show ak ((6 * a + b) / 6) ((6 * a + b) % 6) = false
      rw [show (6 * a + b) / 6 = a by omega, show (6 * a + b) % 6 = b by omega]; exact hk) (by omega)
    unfold prs at h
    omega
theorem knd_d {v : zV} : ∀ x, knd v 0 x = true → knd v 1 x = true → False := fun x p q => by
  have p := of_decide_eq_true p
  have q := of_decide_eq_true q
  omega
theorem nrs_S {v : zV} {ak : Nat → Nat → Bool} {w : Nat → Option Nat} {a b : Nat} (ha : a < (v 1 : Nat)) (pa : knd v 0 a = true) (wa : w a = none) (h : nrs (wK v a) (unk v ak a) (v 1) = some b) : wS (v 1) (knd v 0) (knd v 1) (wK v) ak w a b := by
  obtain ⟨h1, h2, h3⟩ := (nrs_o (K := wK v a) (P := unk v ak a) (v 1)).2 b h
  unfold unk at h2
  rw [Bool.and_eq_true] at h2
  refine ⟨ha, pa, wa, h1, h2.1, by simpa using h2.2, fun c hc qc kc => h3 c hc ?_⟩
  unfold unk
  rw [qc, kc]; rfl
theorem nrs_N {v : zV} {ak : Nat → Nat → Bool} {a : Nat} (h : nrs (wK v a) (unk v ak a) (v 1) = none) {b : Nat} (hb : b < (v 1 : Nat)) (qb : knd v 1 b = true) : ak a b = true := by
  have := (nrs_o (K := wK v a) (P := unk v ak a) (v 1)).1 h b hb
  unfold unk at this
  rw [qb] at this
  simpa using this
theorem w_rng {v : zV} {ak : Nat → Nat → Bool} {w : Nat → Option Nat} (hI : wI (v 1) (knd v 0) (knd v 1) (wK v) ak w) {x y : Nat} (h : w x = some y) : y < (v 1 : Nat) := by
  rcases (hI.2.1 x y h).2 with t | t
  · exact (hI.1 x y t).2.1
  · exact (hI.1 y x t).1
theorem C_match {U : zCS} {va e : Nat} {v : zV} (h : isVal U va v) (hV : VOK v) (hae : ∀ j, j ≤ 10 → ¬ (e ≤ va + j ∧ va + j ≤ e + 3)) : ∃ U' ak w, gX0_match U e va = some U' ∧ Ufr U U' (fun q => e ≤ q ∧ q ≤ e + 3) ∧ cW U' e ak w ∧ wR (v 1) (knd v 0) (knd v 1) (wK v) ak w ∧ wC (v 1) (knd v 0) (knd v 1) ak w := by
  have h6 := hV.2.2.1
  obtain ⟨U4, e4, u4, z4⟩ := C_fill (U := U) (n := 6) (a := e + 2) (x := NN) (by omega)
  obtain ⟨U8, e8, u8, z8⟩ := C_fill (U := U4) (n := 6) (a := e + 3) (x := J 0) (by omega)
  have f4 : Ufr U U4 (fun q => e ≤ q ∧ q ≤ e + 3) := Ufr_U u4 (fun q hq => by omega)
  have f8 : Ufr U U8 (fun q => e ≤ q ∧ q ≤ e + 3) := Ufr_t f4 (Ufr_U u8 (fun q hq => by omega))
  have w8 : cW U8 e (fun _ _ => false) (fun _ => none) := fun x hx => by
    refine ⟨?_, ?_⟩
    · rw [u8.2.2 (e + 2) (by omega), z4 x hx]; rfl
    · rw [z8 x hx, bts_0 (fun _ _ => rfl)]
  obtain ⟨r, er, ak, w, q1, q2, q3, q4⟩ := zf2_stop (f := gX0_match_l18 e va) 36 (fun i x m => x = J i ∧ ∃ ak w, Ufr U m (fun q => e ≤ q ∧ q ≤ e + 3) ∧ cW m e ak w ∧ wR (v 1) (knd v 0) (knd v 1) (wK v) ak w ∧ i ≤ prs ak) (fun m => ∃ ak w, Ufr U m (fun q => e ≤ q ∧ q ≤ e + 3) ∧ cW m e ak w ∧ wR (v 1) (knd v 0) (knd v 1) (wK v) ak w ∧ wC (v 1) (knd v 0) (knd v 1) ak w) (by
    intro i x m hi hP
    obtain ⟨rfl, ak, w, fm, wm, hr, hp⟩ := hP
    have hv := isVal_F fm hae h
    have hI := wR_I knd_d hr
    have en := C_nextAsker hv hV wm (fun x y hxy => by have := w_rng hI hxy; omega)
    have hi36 : ¬ (36 : Int32) ≤ J i := by rw [show (36 : Int32) = J 36 from rfl, J_le (by omega) (by omega)]; omega
    cases hf : fstI (nxa v ak w) (v 1) with
    | none =>
      left
      refine ⟨m, ⟨ak, w, fm, wm, hr, fun a b ha pa wa hb qb => ?_⟩, fun F => ?_⟩
      · have h1 := fstI_n hf a ha
        unfold nxa at h1
        rw [pa, wa] at h1
        cases hn : nrs (wK v a) (unk v ak a) (v 1) with
        | none => exact nrs_N hn hb qb
        | some c => rw [hn] at h1; cases h1
      · unfold gX0_match_l18
        rw [if_neg hi36, en, hf, wb1, if_pos (show oJ none = -1 from rfl)]
    | some a =>
      right
      obtain ⟨ha, h2, -⟩ := fstI_s hf
      unfold nxa at h2
      rw [Bool.and_eq_true, Bool.and_eq_true] at h2
      have wa : w a = none := by simpa using h2.1.2
      cases hn : nrs (wK v a) (unk v ak a) (v 1) with
      | none => rw [hn] at h2; exact absurd h2.2 (by simp)
      | some b =>
        have hs := nrs_S (w := w) ha h2.1.1 wa hn
        obtain ⟨m2, e2, f2, w2⟩ := C_ask hv hV hae wm hI hs
        have hb := hs.2.2.2.1
        refine ⟨J (i + 1), m2, ⟨rfl, _, _, Ufr_t fm f2, w2, wR_s hr hs, ?_⟩, fun F => ?_⟩
        · have := prs_1 (ak := ak) (a := a) (b := b) (by omega) (by omega) hs.2.2.2.2.2.1
          omega
        · unfold gX0_match_l18
          rw [if_neg hi36, en, hf, wb1, oJ_s, if_neg (J_m1 (by omega)), C_nearestUnasked hv hV wm ha, wb1, hn, oJ_s, e2, wb1]
          show F (J i + J 1) m2 = _
          rw [J_add]) (by
    intro x m hP
    obtain ⟨rfl, ak, w, fm, wm, hr, hp⟩ := hP
    refine ⟨m, ⟨ak, w, fm, wm, hr, fun a b ha pa wa hb qb => prs_a hp (by omega) (by omega)⟩, fun F => ?_⟩
    unfold gX0_match_l18
    rw [if_pos (show (36 : Int32) ≤ J 36 by decide)]) (zfu_lt (n := 36) (by omega)) (x0 := J 0) (x1 := U8) ⟨rfl, _, _, f8, w8, wR_z, Nat.zero_le _⟩
  refine ⟨r, ak, w, ?_, q1, q2, q3, q4⟩
  unfold gX0_match
  rw [show (-1 : Int32) = NN from rfl, e4, wb1, show (0 : Int32) = J 0 from rfl, e8, wb1, er]
