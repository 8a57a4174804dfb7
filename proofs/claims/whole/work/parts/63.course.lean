/-! the course of a day: sayings and who stands where -/
def Ufr (U U' : zCS) (A : Nat → Prop) : Prop := (∀ q, ¬ A q → U'.1 q = U.1 q ∧ U'.2.1 q = U.2.1 q) ∧ U'.2.2 = U.2.2
theorem Ufr_r {U : zCS} {A : Nat → Prop} : Ufr U U A := ⟨fun _ _ => ⟨rfl, rfl⟩, rfl⟩
theorem Ufr_t {a b c : zCS} {A : Nat → Prop} (h1 : Ufr a b A) (h2 : Ufr b c A) : Ufr a c A := ⟨fun q hq => ⟨(h2.1 q hq).1.trans (h1.1 q hq).1, (h2.1 q hq).2.trans (h1.1 q hq).2⟩, h2.2.trans h1.2⟩
theorem Ufr_A {U : zCS} {A : Nat → Prop} {a : Nat} {g : Nat → Int32} (h : A a) : Ufr U (csA U a g) A := ⟨fun q hq => ⟨rfl, csA_o2 (fun z => hq (z ▸ h))⟩, rfl⟩
theorem Ufr_I {U : zCS} {A : Nat → Prop} {a k : Nat} {x : Int32} (h : A a) : Ufr U (csI U a k x) A := ⟨fun q hq => ⟨funext fun j => csI_o2 (.inl (fun z => hq (z ▸ h))), rfl⟩, rfl⟩
theorem Ufr_U {U U' : zCS} {A B : Nat → Prop} (h : Uarr U U' A) (hAB : ∀ q, A q → B q) : Ufr U U' B := ⟨fun q hq => ⟨by rw [h.1], h.2.2 q (fun z => hq (hAB q z))⟩, h.2.1⟩
theorem Ufr_m {U U' : zCS} {A B : Nat → Prop} (h : Ufr U U' A) (hAB : ∀ q, A q → B q) : Ufr U U' B := ⟨fun q hq => h.1 q (fun z => hq (hAB q z)), h.2⟩
theorem isVal_F {U U' : zCS} {a : Nat} {v : zV} {A : Nat → Prop} (hu : Ufr U U' A) (hA : ∀ j, j ≤ 10 → ¬ A (a + j)) (h : isVal U a v) : isVal U' a v := by
  have h3 := fun j (hj : j ≤ 10) => (hu.1 (a + j) (hA j hj)).2
  have h4 := (hu.1 a (by have := hA 0 (by omega); rwa [Nat.add_zero] at this)).1
  unfold isVal at *
  rw [h4, h3 1 (by omega), h3 2 (by omega), h3 3 (by omega), h3 4 (by omega), h3 5 (by omega), h3 6 (by omega), h3 7 (by omega), h3 8 (by omega), h3 9 (by omega), h3 10 (by omega)]
  exact h
abbrev zEv : Type := Nat → Nat → Nat
def hbt (v : zV) (ev pl : zEv) (k p t b : Nat) : Option Nat := if b = 0 ∧ ev k 4 = p then none else if arr v (ev k 0) (ev k 1) (ev k 2) (ev k 3) (pl p (ev k 3)) b = some t then wby v (ev k 1) (ev k 3) b else none
def b2 (o : Option Nat) : Nat := match o with
  | some x => 2 ^ x
  | none => 0
def evb (v : zV) (ev pl : zEv) (k p t : Nat) : Nat → Nat := itr (fun b x => x ||| b2 (hbt v ev pl k p t b)) 0
def evc (v : zV) (ev pl : zEv) (k p t : Nat) : Nat → Nat := itr (fun b x => x + (if (hbt v ev pl k p t b).isSome then 1 else 0)) 0
def wds (v : zV) (ev pl : zEv) (p t : Nat) : Nat → Nat := itr (fun k x => x ||| evb v ev pl k p t 3) 0
def hrs (v : zV) (ev pl : zEv) (p t : Nat) : Nat → Nat := itr (fun k x => x + evc v ev pl k p t 3) 0
theorem evb_s {v : zV} {ev pl : zEv} {k p t b : Nat} : evb v ev pl k p t (b + 1) = evb v ev pl k p t b ||| b2 (hbt v ev pl k p t b) := rfl
theorem evc_s {v : zV} {ev pl : zEv} {k p t b : Nat} : evc v ev pl k p t (b + 1) = evc v ev pl k p t b + (if (hbt v ev pl k p t b).isSome then 1 else 0) := rfl
theorem wds_s {v : zV} {ev pl : zEv} {p t n : Nat} : wds v ev pl p t (n + 1) = wds v ev pl p t n ||| evb v ev pl n p t 3 := rfl
theorem hrs_s {v : zV} {ev pl : zEv} {p t n : Nat} : hrs v ev pl p t (n + 1) = hrs v ev pl p t n + evc v ev pl n p t 3 := rfl
/-- what holds of a course -/
def PI (v : zV) (n now : Nat) (ev pl : zEv) : Prop := now ≤ 99 ∧ (∀ k, k < n → ev k 0 ≤ (v 0 : Nat) ∧ ev k 1 < 8 ∧ ev k 2 < 3 ∧ ev k 3 ≤ now ∧ ev k 4 < (v 1 : Nat)) ∧ ∀ o, o < (v 1 : Nat) → ∀ t, t ≤ now → pl o t ≤ (v 0 : Nat)
theorem wby_lt {v : zV} (hV : VOK v) {w m b x : Nat} (hw : w < 8) (h : wby v w m b = some x) : x < 8 := by
  unfold wby at h
  split at h
  · cases h
  · cases h
    split
    · exact hV.2.2.2.2.1 w hw
    · exact hw
theorem hbt_lt {v : zV} (hV : VOK v) {ev pl : zEv} {k p t b x : Nat} (hw : ev k 1 < 8) (h : hbt v ev pl k p t b = some x) : x < 8 := by
  unfold hbt at h
  split at h
  · cases h
  · split at h
    · exact wby_lt hV hw h
    · cases h
theorem b2_lt {v : zV} (hV : VOK v) {ev pl : zEv} {k p t b : Nat} (hw : ev k 1 < 8) : b2 (hbt v ev pl k p t b) < 256 := by
  cases h : hbt v ev pl k p t b with
  | none => show 0 < 256; omega
  | some x => exact Nat.pow_lt_pow_right (n := 8) (by decide) (hbt_lt hV hw h)
theorem or_256 {a b : Nat} (ha : a < 256) (hb : b < 256) : a ||| b < 256 := Nat.or_lt_two_pow (n := 8) ha hb
theorem evb_lt {v : zV} (hV : VOK v) {ev pl : zEv} {k p t : Nat} (hw : ev k 1 < 8) : ∀ j, evb v ev pl k p t j < 256 := itr_i (P := fun _ x => x < 256) (by omega) (fun i x hx => or_256 hx (b2_lt hV hw))
theorem evc_le {v : zV} {ev pl : zEv} {k p t : Nat} : ∀ j, evc v ev pl k p t j ≤ j := itr_i (P := fun j x => x ≤ j) (by omega) (fun i x hx => by split <;> omega)
theorem wds_lt {v : zV} (hV : VOK v) {ev pl : zEv} {p t N : Nat} (hw : ∀ k, k < N → ev k 1 < 8) : ∀ n, n ≤ N → wds v ev pl p t n < 256 := itr_il (P := fun _ x => x < 256) (by omega) (fun i x hi hx => or_256 hx (evb_lt hV (hw i hi) 3))
theorem hrs_le {v : zV} {ev pl : zEv} {p t : Nat} : ∀ n, hrs v ev pl p t n ≤ 3 * n := itr_i (P := fun n x => x ≤ 3 * n) (by omega) (fun i x hx => by have := evc_le (v := v) (ev := ev) (pl := pl) (k := i) (p := p) (t := t) 3; omega)
theorem hbt_c {v : zV} {ev pl ev' pl' : zEv} {k p t b : Nat} (he : ∀ j, ev' k j = ev k j) (hp : pl' p (ev k 3) = pl p (ev k 3)) : hbt v ev' pl' k p t b = hbt v ev pl k p t b := by
  unfold hbt
  rw [he 0, he 1, he 2, he 3, he 4, hp]
theorem evb_c {v : zV} {ev pl ev' pl' : zEv} {k p t : Nat} (he : ∀ j, ev' k j = ev k j) (hp : pl' p (ev k 3) = pl p (ev k 3)) : evb v ev' pl' k p t 3 = evb v ev pl k p t 3 := itr_c (N := 3) (fun i x _ => by rw [hbt_c he hp]) 3 (Nat.le_refl _)
theorem evc_c {v : zV} {ev pl ev' pl' : zEv} {k p t : Nat} (he : ∀ j, ev' k j = ev k j) (hp : pl' p (ev k 3) = pl p (ev k 3)) : evc v ev' pl' k p t 3 = evc v ev pl k p t 3 := itr_c (N := 3) (fun i x _ => by rw [hbt_c he hp]) 3 (Nat.le_refl _)
theorem wds_c {v : zV} {ev pl ev' pl' : zEv} {p t n : Nat} (h : ∀ k, k < n → (∀ j, ev' k j = ev k j) ∧ pl' p (ev k 3) = pl p (ev k 3)) : wds v ev' pl' p t n = wds v ev pl p t n := itr_c (N := n) (fun i x hi => by rw [evb_c (h i hi).1 (h i hi).2]) n (Nat.le_refl _)
theorem hrs_c {v : zV} {ev pl ev' pl' : zEv} {p t n : Nat} (h : ∀ k, k < n → (∀ j, ev' k j = ev k j) ∧ pl' p (ev k 3) = pl p (ev k 3)) : hrs v ev' pl' p t n = hrs v ev pl p t n := itr_c (N := n) (fun i x hi => by rw [evc_c (h i hi).1 (h i hi).2]) n (Nat.le_refl _)
/-- the reference's side -/
def RS (v : zV) (M : zMS) (n now : Nat) (ev pl : zEv) : Prop := isMV M v ∧ M.1 29 = J n ∧ M.1 30 = J now ∧ (∀ k, k < n → ∀ j, j < 5 → M.2.2 28 (5 * k + j) = J (ev k j)) ∧ ∀ o, o < (v 1 : Nat) → ∀ t, t ≤ now → M.2.2 27 (100 * o + t) = J (pl o t)
/-- the class's side, its course at c -/
def CSr (v : zV) (U : zCS) (c n now : Nat) (ev pl : zEv) : Prop := U.1 c 0 = J now ∧ U.1 c 1 = J n ∧ (∀ o, o < (v 1 : Nat) → U.2.1 (c + 1) o = J (pl o now)) ∧ ∀ p, p < (v 1 : Nat) → ∀ t, t < 100 → U.2.1 (c + 2) (100 * p + t) = J (wds v ev pl p t n) ∧ U.2.1 (c + 3) (100 * p + t) = J (hrs v ev pl p t n)
/-! time passes, in the reference -/
theorem R_passes {M M0 : zMS} {v : zV} (hV : VOK v) {n now : Nat} {ev pl : zEv} (h : RS v M n now ev pl) (hs : Msame M0 M) (hnow : now < 99) {x1 x2 : Int32} {y : Nat → Nat} (hy : ∀ o, o < (v 1 : Nat) → J (pl o now) + (if J o = x1 then x2 else J 0) = J (y o)) : ∃ M', gX12_passes M x1 x2 = some M' ∧ Msame M0 M' ∧ (M'.1 26 = M.1 26 ∧ M'.1 49 = M.1 49) ∧ RS v M' n (now + 1) ev (fun o t => if t = now + 1 then y o else pl o t) := by
  obtain ⟨hm, h29, h30, h28, h27⟩ := h
  have h6 := hV.2.2.1
  obtain ⟨dl, hdl⟩ : ∃ dl : Nat → Int32, ∀ o, dl o = (if J o = x1 then x2 else J 0) := ⟨_, fun _ => rfl⟩
  unfold gX12_passes
  obtain ⟨m1, e1, ⟨q1, q2⟩, q3, q4, q5⟩ := zf2_inv (f := gX12_passes_l2 x1 x2) 6 (fun i x m => x = J i ∧ (m.1 = M.1 ∧ isMV m v) ∧ Msame M0 m ∧ (∀ j, j ≠ 27 → m.2.2 j = M.2.2 j) ∧ ∀ o, o < 6 → ∀ t, t < 100 → m.2.2 27 (100 * o + t) = if t = now + 1 ∧ o < i then M.2.2 27 (100 * o + now) + dl o else M.2.2 27 (100 * o + t)) (fun m => (m.1 = M.1 ∧ isMV m v) ∧ Msame M0 m ∧ (∀ j, j ≠ 27 → m.2.2 j = M.2.2 j) ∧ ∀ o, o < 6 → ∀ t, t < 100 → m.2.2 27 (100 * o + t) = if t = now + 1 ∧ o < 6 then M.2.2 27 (100 * o + now) + dl o else M.2.2 27 (100 * o + t)) (by
    intro i x m hi hP F
    obtain ⟨rfl, ⟨hm1, hmv⟩, hms, hmo, hma⟩ := hP
    have ei := hma i hi now (by omega)
    rw [if_neg (by omega)] at ei
    refine ⟨J (i + 1), zsA m 27 (upd (m.2.2 27) (100 * i + now + 1) (M.2.2 27 (100 * i + now) + dl i)), ?_, rfl, ⟨hm1, isMV_A (by omega) hmv⟩, Msame_t hms (Msame_A (by omega)), fun j hj => by rw [zsA_o hj]; exact hmo j hj, fun o ho t ht => ?_⟩
    · unfold gX12_passes_l2
      rw [hm1, h30]
      simp (disch := omega) only [wb1, wb2, wb3, wb4, wc1, wc2, zb1_ite, zb2_ite, zb3_ite, zb4_ite, zzc1_ite, zzc2_ite, J_lit, J_n1, J_n2, J_add, J_mul, J_lt, J_le, J_eq, J_eN, N_eJ, J_eN2, J_nn, J_lN, N_lJ, J_leN, N_leJ, NN_l0, NN_eN, bJ_0, bJ_1, bJ_ite, zbz_b, zbz_0, zbz_1, zag_J, zas_J, ite_true, ite_false, if_true, if_false, ite_self, reduceIte, not_true_eq_false, not_false_eq_true, J_o, Nat.reduceEqDiff, Nat.reduceAdd, Nat.reduceMul, Nat.reduceSub, Nat.reduceLT, Nat.reduceLeDiff, Nat.one_ne_zero, ei]
      rw [if_neg (by omega)]
      rw [hdl i]
      by_cases c : J i = x1
      · rw [if_pos c, if_pos c]
      · rw [if_neg c, if_neg c]
    · rw [zsA_1]
      by_cases c : o = i ∧ t = now + 1
      · obtain ⟨rfl, rfl⟩ := c
        rw [show 100 * o + (now + 1) = 100 * o + now + 1 by omega, upd_1, if_pos (show now + 1 = now + 1 ∧ o < o + 1 from ⟨rfl, by omega⟩)]
      · rw [upd_o (by omega), hma o ho t ht]
        by_cases c2 : t = now + 1 ∧ o < i
        · rw [if_pos c2, if_pos (show t = now + 1 ∧ o < i + 1 from ⟨c2.1, by omega⟩)]
        · rw [if_neg c2, if_neg (by omega)]) (by
    intro x m hP F
    obtain ⟨rfl, hm1, hms, hmo, hma⟩ := hP
    simp (disch := omega) only [gX12_passes_l2, wb1, wb2, wb3, wb4, wc1, wc2, zb1_ite, zb2_ite, zb3_ite, zb4_ite, zzc1_ite, zzc2_ite, J_lit, J_n1, J_n2, J_add, J_mul, J_lt, J_le, J_eq, J_eN, N_eJ, J_eN2, J_nn, J_lN, N_lJ, J_leN, N_leJ, NN_l0, NN_eN, bJ_0, bJ_1, bJ_ite, zbz_b, zbz_0, zbz_1, zag_J, zas_J, ite_true, ite_false, if_true, if_false, ite_self, reduceIte, not_true_eq_false, not_false_eq_true, J_o, Nat.reduceEqDiff, Nat.reduceAdd, Nat.reduceMul, Nat.reduceSub, Nat.reduceLT, Nat.reduceLeDiff, Nat.one_ne_zero]
    exact ⟨m, rfl, hm1, hms, hmo, hma⟩) (zfu_lt (n := 6) (by omega)) (x0 := J 0) (x1 := M) ⟨rfl, ⟨rfl, hm⟩, hs, fun j _ => rfl, fun o ho t ht => by rw [if_neg (by omega)]⟩
  refine ⟨zsI m1 30 (J (now + 1)), ?_, Msame_t q3 Msame_I, ⟨by rw [zsI_o (by omega), q1], by rw [zsI_o (by omega), q1]⟩, isMV_I (by omega) q2, ?_, zsI_1, ?_, ?_⟩
  · refine (congrArg (zb1 · _) e1).trans ?_
    show some (zsI m1 30 (m1.1 30 + 1)) = _
    rw [q1, h30, show (1 : Int32) = J 1 from rfl, J_add]
  · rw [zsI_o (by omega), q1]; exact h29
  · intro k hk j hj
    rw [zsI_a, q4 28 (by omega)]
    exact h28 k hk j hj
  · intro o ho t ht
    rw [zsI_a, q5 o (by omega) t (by omega)]
    by_cases c : t = now + 1
    · rw [if_pos (show t = now + 1 ∧ o < 6 from ⟨c, by omega⟩)]
      simp only [if_pos c]
      rw [h27 o ho now (Nat.le_refl _), hdl o]
      exact hy o ho
    · rw [if_neg (fun z => c z.1)]
      simp only [if_neg c]
      exact h27 o ho t (by omega)
theorem R_waits {M M0 : zMS} {v : zV} (hV : VOK v) {n now d : Nat} {ev pl : zEv} (h : RS v M n now ev pl) (hP : PI v n now ev pl) (hs : Msame M0 M) (hd : d < 1000) : ∃ M', gX12_waits M (J d) = some (bJ (decide (now + d ≤ 99)), M') ∧ Msame M0 M' ∧ (M'.1 26 = M.1 26 ∧ M'.1 49 = M.1 49) ∧ if now + d ≤ 99 then RS v M' n (now + d) ev (fun o t => if t ≤ now then pl o t else pl o now) else RS v M' n now ev pl := by
  have hn := hP.1
  unfold gX12_waits
  rw [h.2.2.1]
  by_cases hc : now + d ≤ 99
  · obtain ⟨m1, e1, q1, q2, q3⟩ := zf2_inv (f := gX12_waits_l15 (J d)) d (fun i x m => x = J i ∧ Msame M0 m ∧ (m.1 26 = M.1 26 ∧ m.1 49 = M.1 49) ∧ RS v m n (now + i) ev (fun o t => if t ≤ now then pl o t else pl o now)) (fun m => Msame M0 m ∧ (m.1 26 = M.1 26 ∧ m.1 49 = M.1 49) ∧ RS v m n (now + d) ev (fun o t => if t ≤ now then pl o t else pl o now)) (by
      intro i x m hi hQ F
      obtain ⟨rfl, hms, hmf, hmr⟩ := hQ
      obtain ⟨m2, e2, r1, r2, r3⟩ := R_passes hV hmr hms (by omega) (x1 := NN) (x2 := J 0) (y := fun o => pl o now) (fun o ho => by
        have h9 : (if now + i ≤ now then pl o (now + i) else pl o now) = pl o now := by
          split
          · rw [show now + i = now by omega]
          · rfl
        rw [ite_self, h9, J_add]; rfl)
      refine ⟨J (i + 1), m2, ?_, rfl, r1, ⟨r2.1.trans hmf.1, r2.2.trans hmf.2⟩, ?_⟩
      · simp (disch := omega) only [gX12_waits_l15, wb1, wb2, wb3, wb4, wc1, wc2, zb1_ite, zb2_ite, zb3_ite, zb4_ite, zzc1_ite, zzc2_ite, J_lit, J_n1, J_n2, J_add, J_mul, J_lt, J_le, J_eq, J_eN, N_eJ, J_eN2, J_nn, J_lN, N_lJ, J_leN, N_leJ, NN_l0, NN_eN, bJ_0, bJ_1, bJ_ite, zbz_b, zbz_0, zbz_1, zag_J, zas_J, ite_true, ite_false, if_true, if_false, ite_self, reduceIte, not_true_eq_false, not_false_eq_true, J_o, Nat.reduceEqDiff, Nat.reduceAdd, Nat.reduceMul, Nat.reduceSub, Nat.reduceLT, Nat.reduceLeDiff, Nat.one_ne_zero, e2]
        rw [if_neg (by omega)]
      · refine ⟨r3.1, r3.2.1, r3.2.2.1, r3.2.2.2.1, fun o ho t ht => ?_⟩
        rw [r3.2.2.2.2 o ho t (by omega)]
        by_cases c : t = now + i + 1
        · simp only [if_pos c, if_neg (show ¬ t ≤ now by omega)]
        · simp only [if_neg c]) (by
      intro x m hQ F
      obtain ⟨rfl, hms, hmf, hmr⟩ := hQ
      simp (disch := omega) only [gX12_waits_l15, wb1, wb2, wb3, wb4, wc1, wc2, zb1_ite, zb2_ite, zb3_ite, zb4_ite, zzc1_ite, zzc2_ite, J_lit, J_n1, J_n2, J_add, J_mul, J_lt, J_le, J_eq, J_eN, N_eJ, J_eN2, J_nn, J_lN, N_lJ, J_leN, N_leJ, NN_l0, NN_eN, bJ_0, bJ_1, bJ_ite, zbz_b, zbz_0, zbz_1, zag_J, zas_J, ite_true, ite_false, if_true, if_false, ite_self, reduceIte, not_true_eq_false, not_false_eq_true, J_o, Nat.reduceEqDiff, Nat.reduceAdd, Nat.reduceMul, Nat.reduceSub, Nat.reduceLT, Nat.reduceLeDiff, Nat.one_ne_zero]
      rw [if_pos (Nat.le_refl _)]
      exact ⟨m, rfl, hms, hmf, hmr⟩) (zfu_lt (n := d) (by omega)) (x0 := J 0) (x1 := M) ⟨rfl, hs, ⟨rfl, rfl⟩, h.1, h.2.1, h.2.2.1, h.2.2.2.1, fun o ho t ht => by rw [h.2.2.2.2 o ho t ht]; simp only [if_pos (show t ≤ now by omega)]⟩
    refine ⟨m1, ?_, q1, q2, by rw [if_pos hc]; exact q3⟩
    simp (disch := omega) only [wb1, wb2, wb3, wb4, wc1, wc2, zb1_ite, zb2_ite, zb3_ite, zb4_ite, zzc1_ite, zzc2_ite, J_lit, J_n1, J_n2, J_add, J_mul, J_lt, J_le, J_eq, J_eN, N_eJ, J_eN2, J_nn, J_lN, N_lJ, J_leN, N_leJ, NN_l0, NN_eN, bJ_0, bJ_1, bJ_ite, zbz_b, zbz_0, zbz_1, zag_J, zas_J, ite_true, ite_false, if_true, if_false, ite_self, reduceIte, not_true_eq_false, not_false_eq_true, J_o, Nat.reduceEqDiff, Nat.reduceAdd, Nat.reduceMul, Nat.reduceSub, Nat.reduceLT, Nat.reduceLeDiff, Nat.one_ne_zero, e1]
    rw [if_pos hc, decide_eq_true hc]
    rfl
  · refine ⟨M, ?_, hs, ⟨rfl, rfl⟩, by rw [if_neg hc]; exact h⟩
    simp (disch := omega) only [wb1, wb2, wb3, wb4, wc1, wc2, zb1_ite, zb2_ite, zb3_ite, zb4_ite, zzc1_ite, zzc2_ite, J_lit, J_n1, J_n2, J_add, J_mul, J_lt, J_le, J_eq, J_eN, N_eJ, J_eN2, J_nn, J_lN, N_lJ, J_leN, N_leJ, NN_l0, NN_eN, bJ_0, bJ_1, bJ_ite, zbz_b, zbz_0, zbz_1, zag_J, zas_J, ite_true, ite_false, if_true, if_false, ite_self, reduceIte, not_true_eq_false, not_false_eq_true, J_o, Nat.reduceEqDiff, Nat.reduceAdd, Nat.reduceMul, Nat.reduceSub, Nat.reduceLT, Nat.reduceLeDiff, Nat.one_ne_zero]
    rw [if_neg hc, decide_eq_false hc]
    rfl
/-- where one is who walks -/
def wlk (a b i : Nat) : Nat := if a < b then a + i else a - i
theorem R_walks {M M0 : zMS} {v : zV} (hV : VOK v) {n now p b : Nat} {ev pl : zEv} (h : RS v M n now ev pl) (hP : PI v n now ev pl) (hs : Msame M0 M) (hp : p < (v 1 : Nat)) (hb : b < 1000) : ∃ M' now' pl', gX12_walks M (J p) (J b) = some (bJ (decide (b ≤ (v 0 : Nat) ∧ now + dist (pl p now) b ≤ 99)), M') ∧ Msame M0 M' ∧ (M'.1 26 = M.1 26 ∧ M'.1 49 = M.1 49) ∧ RS v M' n now' ev pl' ∧ PI v n now' ev pl' ∧ (∀ o, o < (v 1 : Nat) → ∀ t, t ≤ now → pl' o t = pl o t) ∧ now ≤ now' ∧ if b ≤ (v 0 : Nat) ∧ now + dist (pl p now) b ≤ 99 then now' = now + dist (pl p now) b ∧ ∀ o, o < (v 1 : Nat) → pl' o now' = if o = p then b else pl o now else now' = now ∧ pl' = pl := by
  have hn := hP.1
  have h6 := hV.2.2.1
  have hw := hV.2.1
  have hpp := hP.2.2 p hp now (Nat.le_refl _)
  have e27 := h.2.2.2.2 p hp now (Nat.le_refl _)
  have hd : dist (pl p now) b < 2000 := by unfold dist; omega
  unfold gX12_walks gX12_isPlace
  rw [R_w h.1, R_in, h.2.2.1]
  by_cases hc1 : b ≤ (v 0 : Nat)
  · by_cases hc2 : now + dist (pl p now) b ≤ 99
    · obtain ⟨m1, e1, q1, q2, pl', q3, q4, q5, q6⟩ := zf2_inv (f := gX12_walks_l49 (J b) (J (pl p now)) (J p)) (dist (pl p now) b) (fun i x m => x = J (dist (pl p now) b - i) ∧ Msame M0 m ∧ (m.1 26 = M.1 26 ∧ m.1 49 = M.1 49) ∧ ∃ pl', RS v m n (now + i) ev pl' ∧ PI v n (now + i) ev pl' ∧ (∀ o, o < (v 1 : Nat) → ∀ t, t ≤ now → pl' o t = pl o t) ∧ ∀ o, o < (v 1 : Nat) → pl' o (now + i) = if o = p then wlk (pl p now) b i else pl o now) (fun m => Msame M0 m ∧ (m.1 26 = M.1 26 ∧ m.1 49 = M.1 49) ∧ ∃ pl', RS v m n (now + dist (pl p now) b) ev pl' ∧ PI v n (now + dist (pl p now) b) ev pl' ∧ (∀ o, o < (v 1 : Nat) → ∀ t, t ≤ now → pl' o t = pl o t) ∧ ∀ o, o < (v 1 : Nat) → pl' o (now + dist (pl p now) b) = if o = p then wlk (pl p now) b (dist (pl p now) b) else pl o now) (by
        intro i x m hi hQ F
        obtain ⟨rfl, hms, hmf, pl', hmr, hpi, ho1, ho2⟩ := hQ
        have hwl : wlk (pl p now) b (i + 1) ≤ (v 0 : Nat) := by unfold wlk; unfold dist at hi; split <;> omega
        obtain ⟨m2, e2, r1, r2, r3⟩ := R_passes hV hmr hms (by omega) (x1 := J p) (x2 := if b ≤ pl p now then NN else J 1) (y := fun o => if o = p then wlk (pl p now) b (i + 1) else pl o now) (fun o ho => by
          rw [ho2 o ho]
          by_cases hop : o = p
          · subst hop
            rw [if_pos rfl, if_pos rfl, if_pos rfl]
            unfold wlk
            unfold dist at hi
            by_cases hlt : pl o now < b
            · rw [if_pos hlt, if_pos hlt, if_neg (by omega), J_add]; rfl
            · rw [if_neg hlt, if_neg hlt, if_pos (by omega)]
              have := dn_s (w := pl o now) (i := i) (by omega)
              rw [this]
              exact if_pos (by omega)
          · rw [if_neg hop, if_neg hop, if_neg (by rw [J_eq (by omega) (by omega)]; exact hop), J_add]; rfl)
        refine ⟨J (dist (pl p now) b - (i + 1)), m2, ?_, rfl, r1, ⟨r2.1.trans hmf.1, r2.2.trans hmf.2⟩, _, r3, ⟨by omega, fun k hk => ?_, fun o ho t ht => ?_⟩, fun o ho t ht => ?_, fun o ho => ?_⟩
        · have hdn : J (dist (pl p now) b - i) + NN = J (dist (pl p now) b - (i + 1)) := by
            have := dn_s (w := dist (pl p now) b) (i := i) (by omega)
            rw [this]; exact if_pos (by omega)
          unfold gX12_walks_l49
          by_cases hle : b ≤ pl p now
          · rw [if_pos hle] at e2
            simp (disch := omega) only [wb1, wb2, wb3, wb4, wc1, wc2, zb1_ite, zb2_ite, zb3_ite, zb4_ite, zzc1_ite, zzc2_ite, J_lit, J_n1, J_n2, J_add, J_mul, J_lt, J_le, J_eq, J_eN, N_eJ, J_eN2, J_nn, J_lN, N_lJ, J_leN, N_leJ, NN_l0, NN_eN, bJ_0, bJ_1, bJ_ite, zbz_b, zbz_0, zbz_1, zag_J, zas_J, ite_true, ite_false, if_true, if_false, ite_self, reduceIte, not_true_eq_false, not_false_eq_true, J_o, Nat.reduceEqDiff, Nat.reduceAdd, Nat.reduceMul, Nat.reduceSub, Nat.reduceLT, Nat.reduceLeDiff, Nat.one_ne_zero, e2, hdn, eq_true hle]
            rw [if_neg (by omega)]
          · rw [if_neg hle] at e2
            simp (disch := omega) only [wb1, wb2, wb3, wb4, wc1, wc2, zb1_ite, zb2_ite, zb3_ite, zb4_ite, zzc1_ite, zzc2_ite, J_lit, J_n1, J_n2, J_add, J_mul, J_lt, J_le, J_eq, J_eN, N_eJ, J_eN2, J_nn, J_lN, N_lJ, J_leN, N_leJ, NN_l0, NN_eN, bJ_0, bJ_1, bJ_ite, zbz_b, zbz_0, zbz_1, zag_J, zas_J, ite_true, ite_false, if_true, if_false, ite_self, reduceIte, not_true_eq_false, not_false_eq_true, J_o, Nat.reduceEqDiff, Nat.reduceAdd, Nat.reduceMul, Nat.reduceSub, Nat.reduceLT, Nat.reduceLeDiff, Nat.one_ne_zero, e2, hdn, eq_false hle]
            rw [if_neg (by omega)]
        · have := hpi.2.1 k hk; omega
        · by_cases c : t = now + i + 1
          · simp only [if_pos c]
            split
            · exact hwl
            · exact hP.2.2 o ho now (Nat.le_refl _)
          · simp only [if_neg c]; exact hpi.2.2 o ho t (by omega)
        · simp only [if_neg (show ¬ t = now + i + 1 by omega)]; exact ho1 o ho t ht
        · simp only [if_pos (show now + (i + 1) = now + i + 1 by omega)]) (by
        intro x m hQ F
        obtain ⟨rfl, hms, hmf, hq⟩ := hQ
        simp (disch := omega) only [gX12_walks_l49, wb1, wb2, wb3, wb4, wc1, wc2, zb1_ite, zb2_ite, zb3_ite, zb4_ite, zzc1_ite, zzc2_ite, J_lit, J_n1, J_n2, J_add, J_mul, J_lt, J_le, J_eq, J_eN, N_eJ, J_eN2, J_nn, J_lN, N_lJ, J_leN, N_leJ, NN_l0, NN_eN, bJ_0, bJ_1, bJ_ite, zbz_b, zbz_0, zbz_1, zag_J, zas_J, ite_true, ite_false, if_true, if_false, ite_self, reduceIte, not_true_eq_false, not_false_eq_true, J_o, Nat.reduceEqDiff, Nat.reduceAdd, Nat.reduceMul, Nat.reduceSub, Nat.reduceLT, Nat.reduceLeDiff, Nat.one_ne_zero]
        rw [if_pos (by omega)]
        exact ⟨m, rfl, hms, hmf, hq⟩) (zfu_lt (n := dist (pl p now) b) (by omega)) (x0 := J (dist (pl p now) b)) (x1 := M) ⟨rfl, hs, ⟨rfl, rfl⟩, pl, h, hP, fun _ _ _ _ => rfl, fun o ho => by
          rw [Nat.add_zero]
          by_cases hop : o = p
          · subst hop; rw [if_pos rfl]; unfold wlk; split <;> omega
          · rw [if_neg hop]⟩
      refine ⟨m1, _, pl', ?_, q1, q2, q3, q4, q5, by omega, ?_⟩
      · simp (disch := omega) only [wb1, wb2, wb3, wb4, wc1, wc2, zb1_ite, zb2_ite, zb3_ite, zb4_ite, zzc1_ite, zzc2_ite, J_lit, J_n1, J_n2, J_add, J_mul, J_lt, J_le, J_eq, J_eN, N_eJ, J_eN2, J_nn, J_lN, N_lJ, J_leN, N_leJ, NN_l0, NN_eN, bJ_0, bJ_1, bJ_ite, zbz_b, zbz_0, zbz_1, zag_J, zas_J, ite_true, ite_false, if_true, if_false, ite_self, reduceIte, not_true_eq_false, not_false_eq_true, J_o, Nat.reduceEqDiff, Nat.reduceAdd, Nat.reduceMul, Nat.reduceSub, Nat.reduceLT, Nat.reduceLeDiff, Nat.one_ne_zero, e27, R_apart, e1, decide_eq_false_iff_not]
        rw [if_neg (by simp; omega), if_pos hc2, decide_eq_true ⟨hc1, hc2⟩]
        rfl
      · rw [if_pos ⟨hc1, hc2⟩]
        refine ⟨rfl, fun o ho => ?_⟩
        rw [q6 o ho]
        by_cases hop : o = p
        · rw [if_pos hop, if_pos hop]; unfold wlk dist; split <;> omega
        · rw [if_neg hop, if_neg hop]
    · refine ⟨M, now, pl, ?_, hs, ⟨rfl, rfl⟩, h, hP, fun _ _ _ _ => rfl, Nat.le_refl _, by rw [if_neg (fun z => hc2 z.2)]; exact ⟨rfl, rfl⟩⟩
      simp (disch := omega) only [wb1, wb2, wb3, wb4, wc1, wc2, zb1_ite, zb2_ite, zb3_ite, zb4_ite, zzc1_ite, zzc2_ite, J_lit, J_n1, J_n2, J_add, J_mul, J_lt, J_le, J_eq, J_eN, N_eJ, J_eN2, J_nn, J_lN, N_lJ, J_leN, N_leJ, NN_l0, NN_eN, bJ_0, bJ_1, bJ_ite, zbz_b, zbz_0, zbz_1, zag_J, zas_J, ite_true, ite_false, if_true, if_false, ite_self, reduceIte, not_true_eq_false, not_false_eq_true, J_o, Nat.reduceEqDiff, Nat.reduceAdd, Nat.reduceMul, Nat.reduceSub, Nat.reduceLT, Nat.reduceLeDiff, Nat.one_ne_zero, e27, R_apart, decide_eq_false_iff_not]
      rw [if_neg (by simp; omega), if_neg hc2, decide_eq_false (fun z => hc2 z.2)]
      rfl
  · refine ⟨M, now, pl, ?_, hs, ⟨rfl, rfl⟩, h, hP, fun _ _ _ _ => rfl, Nat.le_refl _, by rw [if_neg (fun z => hc1 z.1)]; exact ⟨rfl, rfl⟩⟩
    simp (disch := omega) only [wb1, wb2, wb3, wb4, wc1, wc2, zb1_ite, zb2_ite, zb3_ite, zb4_ite, zzc1_ite, zzc2_ite, J_lit, J_n1, J_n2, J_add, J_mul, J_lt, J_le, J_eq, J_eN, N_eJ, J_eN2, J_nn, J_lN, N_lJ, J_leN, N_leJ, NN_l0, NN_eN, bJ_0, bJ_1, bJ_ite, zbz_b, zbz_0, zbz_1, zag_J, zas_J, ite_true, ite_false, if_true, if_false, ite_self, reduceIte, not_true_eq_false, not_false_eq_true, J_o, Nat.reduceEqDiff, Nat.reduceAdd, Nat.reduceMul, Nat.reduceSub, Nat.reduceLT, Nat.reduceLeDiff, Nat.one_ne_zero, decide_eq_false_iff_not]
    rw [if_pos (by simp; omega), decide_eq_false (fun z => hc1 z.1)]
    rfl
