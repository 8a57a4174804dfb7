/-! texts: the class reads a line -/
def CL (U : zCS) (r : Nat) (t : Nat → Nat) (n i : Nat) : Prop := n ≤ 600 ∧ i ≤ n ∧ U.1 r 7 = J n ∧ U.1 r 8 = J (Kk t n i) ∧ U.1 r 9 = J (Sk t n i) ∧ U.1 r 10 = J (Ek t n i) ∧ ∀ k, k < 600 → bq (U.2.1 (r - 53) k) (t k)
/-- what stays while tokens are read -/
def Utk (U U' : zCS) (r : Nat) : Prop := (∀ q j, ¬ (q = r ∧ (j = 8 ∨ j = 9 ∨ j = 10)) → U'.1 q j = U.1 q j) ∧ (∀ q, q ≠ r + 24 → q ≠ r + 25 → U'.2.1 q = U.2.1 q) ∧ U'.2.2 = U.2.2
theorem Utk_r {U : zCS} {r : Nat} : Utk U U r := ⟨fun _ _ _ => rfl, fun _ _ _ => rfl, rfl⟩
theorem Utk_t {a b c : zCS} {r : Nat} (h1 : Utk a b r) (h2 : Utk b c r) : Utk a c r := ⟨fun q j h => (h2.1 q j h).trans (h1.1 q j h), fun q x y => (h2.2.1 q x y).trans (h1.2.1 q x y), h2.2.2.trans h1.2.2⟩
theorem Utk_I {U : zCS} {r j : Nat} {x : Int32} (h : j = 8 ∨ j = 9 ∨ j = 10) : Utk U (csI U r j x) r := ⟨fun q k hk => csI_o2 (by omega), fun _ _ _ => rfl, rfl⟩
theorem Utk_A {U : zCS} {r a : Nat} {g : Nat → Int32} (h : a = r + 24 ∨ a = r + 25) : Utk U (csA U a g) r := ⟨fun _ _ _ => rfl, fun q h1 h2 => csA_o2 (by omega), rfl⟩
theorem CL_adv {U : zCS} {r n i : Nat} {t : Nat → Nat} (h : CL U r t n i) : ∃ U', gX4_advance U r = some U' ∧ CL U' r t n (Ek t n i) ∧ Utk U U' r ∧ U'.2 = U.2 := by
  obtain ⟨h1, h2, h3, h4, h5, h6, h7⟩ := h
  have hE := Ek_p (t := t) h2
  refine ⟨_, C_advance h1 hE.2.1 h3 h6 h7, ⟨h1, hE.2.1, ?_, ?_, ?_, csI_1, h7⟩, Utk_t (Utk_I (by omega)) (Utk_t (Utk_I (by omega)) (Utk_I (by omega))), rfl⟩
  · rw [csI_o2 (.inr (by omega)), csI_o2 (.inr (by omega)), csI_o2 (.inr (by omega))]; exact h3
  · rw [csI_o2 (.inr (by omega)), csI_1]
  · rw [csI_o2 (.inr (by omega)), csI_o2 (.inr (by omega)), csI_1]
theorem C_tokenNumber {U : zCS} {r n i : Nat} {t : Nat → Nat} (h : CL U r t n i) (hk : Kk t n i = 2) : gX4_tokenNumber U r = some (J (Vk t n i)) := by
  obtain ⟨h1, h2, h3, h4, h5, h6, h7⟩ := h
  have hE := Ek_p (t := t) h2
  have hd := Kk_d hk
  unfold gX4_tokenNumber
  rw [h5]
  have hze := zf2_run (f := gX4_tokenNumber_l7 U r) (r := some (J (Vk t n i))) (Ek t n i - Sk t n i) (fun c => J (nmb t (Sk t n i) c)) (fun c => J (Sk t n i + c)) (by
    intro c hc F
    have hq := hd.2 (Sk t n i + c) (by omega) (by omega)
    have hg := isDg_t.mp hq.2
    unfold gX4_tokenNumber_l7
    rw [h6, if_neg (show ¬ J (Ek t n i) ≤ J (Sk t n i + c) by rw [J_le (by omega) (by omega)]; omega), zag_J (by omega) (by omega), wb1, (h7 (Sk t n i + c) (by omega)).2.2.1 (by omega), show (48 : Int32) = J 48 from rfl, J_sub (by omega), show (10 : Int32) = J 10 from rfl, J_mul, J_add]
    show F _ (J (Sk t n i + c) + J 1) = _
    rw [J_add]
    rfl) (by
    intro F
    unfold gX4_tokenNumber_l7
    show (if U.1 r 10 ≤ J (Sk t n i + (Ek t n i - Sk t n i)) then _ else _) = _
    rw [h6, if_pos (show J (Ek t n i) ≤ J (Sk t n i + (Ek t n i - Sk t n i)) by rw [J_le (by omega) (by omega)]; omega)]; rfl) (zfu_lt (by omega))
  show zb1 (zf2 (gX4_tokenNumber_l7 U r) zfu (J (nmb t (Sk t n i) 0)) (J (Sk t n i + 0))) _ = _
  rw [hze, wb1]
/-- places of the tokens, one behind the other -/
def pS (t : Nat → Nat) (n i : Nat) : Nat → Nat
  | 0 => i
  | j + 1 => Ek t n (pS t n i j)
theorem pS_f {t : Nat → Nat} {n i : Nat} : ∀ j, pS t n (Ek t n i) j = pS t n i (j + 1)
  | 0 => rfl
  | j + 1 => congrArg (Ek t n) (pS_f j)
theorem pS_le {t : Nat → Nat} {n i : Nat} (hi : i ≤ n) : ∀ j, pS t n i j ≤ n
  | 0 => hi
  | j + 1 => (Ek_p (pS_le hi j)).2.1
/-- where the numbers of a line break off -/
def brkN (t : Nat → Nat) (n : Nat) : Nat → Nat → Option Nat
  | 0, _ => none
  | d + 1, i => if Kk t n i = 2 then brkN t n d (Ek t n i) else some (Sk t n i)
theorem brkN_f {t : Nat → Nat} {n d i : Nat} (h : Kk t n i ≠ 2) : brkN t n (d + 1) i = some (Sk t n i) := if_neg h
theorem brkN_t {t : Nat → Nat} {n d i : Nat} (h : Kk t n i = 2) : brkN t n (d + 1) i = brkN t n d (Ek t n i) := if_pos h
def brkQ (t : Nat → Nat) (n d i : Nat) : Option Nat := match brkN t n d i with
  | some p => some p
  | none => if Kk t n (pS t n i d) = 3 then none else some (Sk t n (pS t n i d))
theorem brkN_k {t : Nat → Nat} {n : Nat} : ∀ d i, brkN t n d i = none → ∀ j, j < d → Kk t n (pS t n i j) = 2
  | 0, _, _, j, hj => by omega
  | d + 1, i, h, j, hj => by
    unfold brkN at h
    by_cases c : Kk t n i = 2
    · rw [if_pos c] at h
      cases j with
      | zero => exact c
      | succ j => rw [← pS_f]; exact brkN_k d _ h j (by omega)
    · rw [if_neg c] at h; cases h
def nu (L : Nat) : Nat := ((zrow 4).getD L 0).toNatClampNeg
theorem nu_ok : ∀ L, L < 18 → zag 18 (fun j => (zrow 4).getD j 0) (J L) = some (J (nu L)) ∧ nu L ≤ 3 ∧ 1 ≤ nu L := by decide +kernel
def NR (U : zCS) (r : Nat) (t : Nat → Nat) (n i k : Nat) : Prop := ∀ j, j < k → U.2.1 (r + 24) j = J (Vk t n (pS t n i j)) ∧ U.2.1 (r + 25) j = J (Sk t n (pS t n i j))
theorem F_breakOff {ν : zM} {sh : Nat → Nat} {U : zCS} {r : Nat} {p : Int32} (h4 : isX4 sh r) (h9 : U.1 r 9 = p) : fX4_breakOff (cmem ν sh U) r = some (cmem ν sh (csI (csI U r 4 (J 1)) r 5 p)) := by
  rw [eX4_breakOff h4]
  unfold gX4_breakOff
  rw [wb1, wb1, csI_o2 (.inr (by omega)), h9]
  rfl
noncomputable def tailL (m16 : zM) (r : Nat) (v4 v1 : Int32) : Option zM :=
  zb1 (fX4_check m16 r v4 v1) fun m18 =>
  zb1 (zm_gI m18 4 r 4) fun v19 =>
  zc1 (if v19 = 0 then (
  zb1 (fX4_take m18 r v4) fun m24 =>
  some m24)
  else (
  some m18) : Option (zM)) fun (m21 : zM) =>
  some m21
theorem F_nums {ν : zM} {sh : Nat → Nat} {U : zCS} {r n i L : Nat} {t : Nat → Nat} {v1 : Int32} {Q : zCS → Prop} (h4 : isX4 sh r) (hst : stOk ν sh) (hL : L < 18) (hc : CL U r t n i)
    (hfin : brkQ t n (nu L) i = none → ∀ U2, Utk U U2 r → CL U2 r t n (Ek t n (pS t n i (nu L))) → NR U2 r t n i (nu L) → ∃ U3, tailL (cmem ν sh U2) r (J L) v1 = some (cmem ν sh U3) ∧ Q U3) :
    ∃ U', zf2 (fX4_readLine_l28 (J L) r v1) zfu 0 (cmem ν sh U) = some (cmem ν sh U') ∧ ((∃ p, brkQ t n (nu L) i = some p ∧ ∃ U1, Utk U U1 r ∧ U' = csI (csI U1 r 4 (J 1)) r 5 (J p)) ∨ (brkQ t n (nu L) i = none ∧ Q U')) := by
  have hnu := nu_ok L hL
  obtain ⟨m, hm, U', rfl, hQ⟩ := zf2_stop (f := fX4_readLine_l28 (J L) r v1) (nu L) (fun k x m => x = J k ∧ ∃ U1, m = cmem ν sh U1 ∧ Utk U U1 r ∧ CL U1 r t n (pS t n i k) ∧ NR U1 r t n i k ∧ brkN t n (nu L) i = brkN t n (nu L - k) (pS t n i k)) (fun m => ∃ U', m = cmem ν sh U' ∧ ((∃ p, brkQ t n (nu L) i = some p ∧ ∃ U1, Utk U U1 r ∧ U' = csI (csI U1 r 4 (J 1)) r 5 (J p)) ∨ (brkQ t n (nu L) i = none ∧ Q U'))) (by
    rintro k x m hk ⟨rfl, U1, rfl, hf, hC, hN, hb⟩
    rw [show nu L - k = (nu L - (k + 1)) + 1 by omega] at hb
    by_cases c : Kk t n (pS t n i k) = 2
    · rw [brkN_t c] at hb
      right
      have hT := C_tokenNumber hC c
      obtain ⟨g1, hg1⟩ : ∃ g, g = upd (U1.2.1 (r + 24)) k (J (Vk t n (pS t n i k))) := ⟨_, rfl⟩
      obtain ⟨V1, hV1⟩ : ∃ V, V = csA U1 (r + 24) g1 := ⟨_, rfl⟩
      obtain ⟨g2, hg2⟩ : ∃ g, g = upd (V1.2.1 (r + 25)) k (J (Sk t n (pS t n i k))) := ⟨_, rfl⟩
      obtain ⟨V2, hV2⟩ : ∃ V, V = csA V1 (r + 25) g2 := ⟨_, rfl⟩
      have h53 := h4.2.2.2.2.2.2.2.2
      have hC2 : CL V2 r t n (pS t n i k) := by
        obtain ⟨a1, a2, a3, a4, a5, a6, a7⟩ := hC
        rw [hV2, hV1]
        refine ⟨a1, a2, a3, a4, a5, a6, fun q hq => ?_⟩
        rw [csA_o2 (by omega), csA_o2 (by omega)]
        exact a7 q hq
      obtain ⟨V3, hV3, hC3, hf3, hr3⟩ := CL_adv hC2
      have u1 : Utk U1 V1 r := by rw [hV1]; exact Utk_A (.inl rfl)
      have u2 : Utk V1 V2 r := by rw [hV2]; exact Utk_A (.inr rfl)
      refine ⟨J (k + 1), cmem ν sh V3, ⟨rfl, V3, rfl, Utk_t hf (Utk_t u1 (Utk_t u2 hf3)), hC3, fun j hj => ?_, hb⟩, fun F => ?_⟩
      · rw [hr3, hV2, csA_o2 (by omega), csA_1, hV1, csA_1, hg2, hg1]
        by_cases hjk : j = k
        · subst hjk; rw [upd_1, upd_1]; exact ⟨rfl, rfl⟩
        · rw [upd_o hjk, upd_o hjk, hV1, csA_o2 (by omega)]
          exact hN j (by omega)
      · unfold fX4_readLine_l28
        rw [cr_4 (S1 := U1) hst, hnu.1, wb1, if_neg (show ¬ J (nu L) ≤ J k by rw [J_le (by omega) (by omega)]; omega), cgr_X4_8 h4, wb1, hC.2.2.2.1, c, if_pos (show J 2 = 2 from rfl), cgr_X4_11 h4, wb1, eX4_tokenNumber h4, hT, wb1, csr_1003 (isX4_24 h4), zas_J (by omega) (by omega), zmap_some, wb1, ← hg1, ← hV1, cgr_X4_12 h4, wb1, cgr_X4_9 h4, wb1, show V1.1 r 9 = J (Sk t n (pS t n i k)) by rw [hV1]; exact hC.2.2.2.2.1, csr_1003 (isX4_25 h4), zas_J (by omega) (by omega), zmap_some, wb1, ← hg2, ← hV2, eX4_advance h4, hV3, zmap_some, wb1]
        show F (J k + J 1) _ = _
        rw [J_add]
    · rw [brkN_f c] at hb
      left
      refine ⟨_, ⟨_, rfl, .inl ⟨Sk t n (pS t n i k), by unfold brkQ; rw [hb], U1, hf, rfl⟩⟩, fun F => ?_⟩
      have hKle := @Kk_le t n (pS t n i k)
      unfold fX4_readLine_l28
      rw [cr_4 (S1 := U1) hst, hnu.1, wb1, if_neg (show ¬ J (nu L) ≤ J k by rw [J_le (by omega) (by omega)]; omega), cgr_X4_8 h4, wb1, hC.2.2.2.1, if_neg (show ¬ J (Kk t n (pS t n i k)) = 2 by rw [show (2 : Int32) = J 2 from rfl, J_eq (by omega) (by omega)]; exact c), F_breakOff h4 hC.2.2.2.2.1, wb1]) (by
    rintro x m ⟨rfl, U1, rfl, hf, hC, hN, hb⟩
    rw [Nat.sub_self] at hb
    have hb : brkN t n (nu L) i = none := hb
    have hKle := @Kk_le t n (pS t n i (nu L))
    by_cases c : Kk t n (pS t n i (nu L)) = 3
    · have hbq : brkQ t n (nu L) i = none := by unfold brkQ; rw [hb]; exact if_pos c
      obtain ⟨V, hV, hCV, hfV, hrV⟩ := CL_adv hC
      obtain ⟨U3, hU3, hQ3⟩ := hfin hbq V (Utk_t hf hfV) hCV (fun j hj => by rw [hrV]; exact hN j hj)
      refine ⟨_, ⟨U3, rfl, .inr ⟨hbq, hQ3⟩⟩, fun F => ?_⟩
      unfold fX4_readLine_l28
      rw [cr_4 (S1 := U1) hst, hnu.1, wb1, if_pos (show J (nu L) ≤ J (nu L) by rw [J_le (by omega) (by omega)]; omega), cgr_X4_8 h4, wb1, hC.2.2.2.1, c, if_pos (show J 3 = 3 from rfl), eX4_advance h4, hV, zmap_some, wb1]
      exact hU3
    · refine ⟨_, ⟨_, rfl, .inl ⟨Sk t n (pS t n i (nu L)), by unfold brkQ; rw [hb]; exact if_neg c, U1, hf, rfl⟩⟩, fun F => ?_⟩
      unfold fX4_readLine_l28
      rw [cr_4 (S1 := U1) hst, hnu.1, wb1, if_pos (show J (nu L) ≤ J (nu L) by rw [J_le (by omega) (by omega)]; omega), cgr_X4_8 h4, wb1, hC.2.2.2.1, if_neg (show ¬ J (Kk t n (pS t n i (nu L))) = 3 by rw [show (3 : Int32) = J 3 from rfl, J_eq (by omega) (by omega)]; exact c), F_breakOff h4 hC.2.2.2.2.1, wb1]) (zfu_lt (by omega)) (x0 := 0) (x1 := cmem ν sh U) ⟨rfl, U, rfl, Utk_r, hc, fun j hj => by omega, by rw [Nat.sub_zero]; rfl⟩
  exact ⟨U', hm, hQ⟩
/-! faults: the first one stays -/
def mk1 (f : Nat × Nat) (c : Bool) (g p : Nat) : Nat × Nat := if f.1 = 0 ∧ c = true then (g, p) else f
def CF (U : zCS) (r : Nat) (f : Nat × Nat) : Prop := U.1 r 4 = J f.1 ∧ U.1 r 5 = if f.1 = 0 then NN else J f.2
def Umk (U U' : zCS) (r : Nat) : Prop := (∀ q j, ¬ (q = r ∧ (j = 4 ∨ j = 5)) → U'.1 q j = U.1 q j) ∧ U'.2 = U.2
theorem Umk_r {U : zCS} {r : Nat} : Umk U U r := ⟨fun _ _ _ => rfl, rfl⟩
theorem Umk_t {a b c : zCS} {r : Nat} (h1 : Umk a b r) (h2 : Umk b c r) : Umk a c r := ⟨fun q j h => (h2.1 q j h).trans (h1.1 q j h), h2.2.trans h1.2⟩
theorem Umk_I {U : zCS} {r j : Nat} {x : Int32} (h : j = 4 ∨ j = 5) : Umk U (csI U r j x) r := ⟨fun q k hk => csI_o2 (by omega), rfl⟩
theorem C_mark {U : zCS} {r g p : Nat} {f : Nat × Nat} (h : CF U r f) (hf : f.1 < 100) (hg : g ≠ 0) : ∃ U', gX4_mark U r (J g) (J p) = some U' ∧ CF U' r (mk1 f true g p) ∧ Umk U U' r := by
  unfold gX4_mark mk1
  rw [h.1]
  by_cases c : f.1 = 0
  · rw [if_pos (show J f.1 = 0 by rw [c]; rfl), if_pos ⟨c, rfl⟩]
    exact ⟨csI (csI U r 4 (J g)) r 5 (J p), rfl, ⟨by rw [csI_o2 (.inr (by omega)), csI_1], by rw [csI_1, if_neg hg]⟩, Umk_t (Umk_I (by omega)) (Umk_I (by omega))⟩
  · rw [if_neg (show ¬ J f.1 = 0 by rw [show (0 : Int32) = J 0 from rfl, J_eq (by omega) (by omega)]; exact c), if_neg (fun z => c z.1)]
    exact ⟨U, rfl, h, Umk_r⟩
def loB (L : Nat) (x : Nat → Nat) (k : Nat) : Nat := if L = 0 then 2 else if L = 13 then 1 else if (L = 7 ∨ L = 8) ∧ k = 1 then x 0 else 0
def hiB (L k : Nat) : Nat := ((zrow 3).getD (3 * L + k) 0).toNatClampNeg
theorem hiB_ok : ∀ L, L < 18 → ∀ k, k < 3 → zag 54 (fun j => (zrow 3).getD j 0) (J (3 * L + k)) = some (J (hiB L k)) ∧ hiB L k < 100 := by decide +kernel
def outB (L : Nat) (x : Nat → Nat) (k : Nat) : Bool := decide (x k < loB L x k ∨ hiB L k < x k)
def chk (L : Nat) (f : Nat × Nat) (fl : Bool) (s0 : Nat) (x p : Nat → Nat) : Nat → Nat × Nat := itr (fun k f => mk1 f (outB L x k) 2 (p k)) (mk1 f fl 3 s0)
theorem mk1_f {f : Nat × Nat} {g p : Nat} : mk1 f false g p = f := if_neg (fun z => by cases z.2)
theorem mk1_b {f : Nat × Nat} {c : Bool} {g p : Nat} (hf : f.1 < 4) (hg : g < 4) : (mk1 f c g p).1 < 4 := by
  unfold mk1; split
  · exact hg
  · exact hf
theorem chk_b {L : Nat} {f : Nat × Nat} {fl : Bool} {s0 : Nat} {x p : Nat → Nat} (hf : f.1 < 4) : ∀ k, (chk L f fl s0 x p k).1 < 4
  | 0 => mk1_b hf (by omega)
  | k + 1 => mk1_b (chk_b hf k) (by omega)
theorem C_least {U : zCS} {r L k : Nat} {x : Nat → Nat} (hL : L < 18) (hk : k < 3) (hx : U.2.1 (r + 24) 0 = J (x 0)) : gX4_leastNumber U r (J L) (J k) = some (J (loB L x k)) := by
  unfold gX4_leastNumber loB
  rw [show (0 : Int32) = J 0 from rfl, show (13 : Int32) = J 13 from rfl, show (7 : Int32) = J 7 from rfl, show (8 : Int32) = J 8 from rfl]
  simp (disch := omega) only [J_eq]
  by_cases c0 : L = 0
  · rw [if_pos c0, if_pos c0]; rfl
  · rw [if_neg c0, if_neg c0]
    by_cases c1 : L = 13
    · rw [if_pos c1, if_pos c1]; rfl
    · rw [if_neg c1, if_neg c1]
      have h26 : gX4_leastNumber_b26 (J k) = some (if k = 1 then J 1 else J 0) := by
        unfold gX4_leastNumber_b26 gX4_leastNumber_b35
        by_cases ck : k = 1
        · rw [if_pos (show J k = 1 by rw [ck]; rfl), if_pos ck]; rfl
        · rw [if_neg (show ¬ J k = 1 by rw [show (1 : Int32) = J 1 from rfl, J_eq (by omega) (by omega)]; exact ck), if_neg ck]; rfl
      have hb : (if L = 7 then gX4_leastNumber_b26 (J k) else if L = 8 then gX4_leastNumber_b26 (J k) else gX4_leastNumber_b35) = some (if (L = 7 ∨ L = 8) ∧ k = 1 then J 1 else J 0) := by
        rw [h26]
        unfold gX4_leastNumber_b35
        by_cases c7 : L = 7
        · rw [if_pos c7]
          by_cases ck : k = 1
          · rw [if_pos ck, if_pos ⟨.inl c7, ck⟩]
          · rw [if_neg ck, if_neg (fun z => ck z.2)]
        · rw [if_neg c7]
          by_cases c8 : L = 8
          · rw [if_pos c8]
            by_cases ck : k = 1
            · rw [if_pos ck, if_pos ⟨.inr c8, ck⟩]
            · rw [if_neg ck, if_neg (fun z => ck z.2)]
          · rw [if_neg c8, if_neg (fun z => by omega)]; rfl
      rw [hb, wb1]
      by_cases cc : (L = 7 ∨ L = 8) ∧ k = 1
      · rw [if_pos cc, if_pos cc, if_neg (show ¬ J 1 = J 0 by decide), zag_J (by omega) (by omega), wb1, wb1, hx]
      · rw [if_neg cc, if_neg cc, if_pos rfl, wb1]
theorem C_check {U : zCS} {r n i L s0 : Nat} {t : Nat → Nat} {f : Nat × Nat} {fl : Bool} (hL : L < 18) (hN : NR U r t n i (nu L)) (hx : ∀ j, j < nu L → Vk t n (pS t n i j) < 100) (h : CF U r f) (hf : f.1 < 4) (hfl : gX4_isFull U r (J L) = some (bJ fl)) :
    ∃ U', gX4_check U r (J L) (J s0) = some U' ∧ CF U' r (chk L f fl s0 (fun j => Vk t n (pS t n i j)) (fun j => Sk t n (pS t n i j)) (nu L)) ∧ Umk U U' r := by
  have hnu := nu_ok L hL
  obtain ⟨x, hxx⟩ : ∃ x : Nat → Nat, x = fun j => Vk t n (pS t n i j) := ⟨_, rfl⟩
  obtain ⟨p, hpp⟩ : ∃ p : Nat → Nat, p = fun j => Sk t n (pS t n i j) := ⟨_, rfl⟩
  have hxj : ∀ j, Vk t n (pS t n i j) = x j := fun j => by rw [hxx]
  have hpj : ∀ j, Sk t n (pS t n i j) = p j := fun j => by rw [hpp]
  rw [← hxx, ← hpp]
  obtain ⟨U1, hU1, hC1, hF1⟩ : ∃ U1, (zc1 (if bJ fl = 0 then some U else zb1 (gX4_mark U r (J 3) (J s0)) fun U36 => some U36) (fun m3 => some m3) : Option zCS) = some U1 ∧ CF U1 r (mk1 f fl 3 s0) ∧ Umk U U1 r := by
    cases fl with
    | false => exact ⟨U, rfl, by rw [mk1_f]; exact h, Umk_r⟩
    | true =>
      obtain ⟨U1, e1, e2, e3⟩ := C_mark (g := 3) (p := s0) h (by omega) (by omega)
      refine ⟨U1, ?_, e2, e3⟩
      rw [if_neg (show ¬ bJ true = 0 by decide), e1]; rfl
  obtain ⟨U2, hU2, hC2, hF2⟩ := zf2_inv (f := gX4_check_l16 (J L) r) (nu L) (fun k y m => y = J k ∧ CF m r (chk L f fl s0 x p k) ∧ Umk U m r) (fun m => CF m r (chk L f fl s0 x p (nu L)) ∧ Umk U m r) (by
    rintro k y m hk ⟨rfl, hc, hm⟩ F
    have hr : m.2.1 = U.2.1 := congrArg Prod.fst hm.2
    have hk0 := hN k hk
    have hk1 := hN 0 (by omega)
    have hv := hx k hk
    rw [hxj, hpj] at hk0 
    rw [hxj] at hk1 hv
    have hlo := C_least (U := m) (r := r) (L := L) (k := k) (x := x) hL (by omega) (by rw [hr]; exact hk1.1)
    have hlb : loB L x k < 100 := by
      unfold loB
      have := hx 0 (by omega)
      rw [hxj] at this
      repeat' split
      all_goals omega
    have hhi := hiB_ok L hL k (by omega)
    have hb58 : ∃ m', gX4_check_b58 m r (J k) = some m' ∧ CF m' r (mk1 (chk L f fl s0 x p k) true 2 (p k)) ∧ Umk m m' r := by
      obtain ⟨m', e1, e2, e3⟩ := C_mark (g := 2) (p := p k) hc (by have := chk_b (L := L) (fl := fl) (s0 := s0) (x := x) (p := p) hf k; omega) (by omega)
      refine ⟨m', ?_, e2, e3⟩
      unfold gX4_check_b58
      rw [hr, zag_J (by omega) (by omega), wb1, hk0.2]
      show zb1 (gX4_mark m r (J 2) (J (p k))) _ = _
      rw [e1, wb1]
    unfold gX4_check_l16
    rw [hnu.1, wb1, if_neg (show ¬ J (nu L) ≤ J k by rw [J_le (by omega) (by omega)]; omega), hr, zag_J (by omega) (by omega), wb1, hlo, wb1, hk0.1, wb1, show (3 : Int32) = J 3 from rfl, J_mul, J_add, hhi.1, wb1]
    show ∃ y0 y1, zc1 _ (fun m19 => F (J k + J 1) m19) = F y0 y1 ∧ _
    rw [J_add]
    have hst2 : chk L f fl s0 x p (k + 1) = mk1 (chk L f fl s0 x p k) (outB L x k) 2 (p k) := rfl
    by_cases c1 : x k < loB L x k
    · obtain ⟨m', e1, e2, e3⟩ := hb58
      refine ⟨_, m', by rw [if_pos (show J (x k) < J (loB L x k) by rw [J_lt (by omega) (by omega)]; exact c1), e1, wc1], rfl, ?_, Umk_t hm e3⟩
      rw [hst2, show outB L x k = true from decide_eq_true (.inl c1)]; exact e2
    · rw [if_neg (show ¬ J (x k) < J (loB L x k) by rw [J_lt (by omega) (by omega)]; exact c1)]
      by_cases c2 : hiB L k < x k
      · obtain ⟨m', e1, e2, e3⟩ := hb58
        refine ⟨_, m', by rw [if_neg (show ¬ J (x k) ≤ J (hiB L k) by rw [J_le (by omega) (by omega)]; omega), e1, wc1], rfl, ?_, Umk_t hm e3⟩
        rw [hst2, show outB L x k = true from decide_eq_true (.inr c2)]; exact e2
      · refine ⟨_, m, by rw [if_pos (show J (x k) ≤ J (hiB L k) by rw [J_le (by omega) (by omega)]; omega), wc1], rfl, ?_, hm⟩
        rw [hst2, show outB L x k = false from decide_eq_false (by omega), mk1_f]; exact hc) (by
    rintro y m ⟨rfl, hc, hm⟩ F
    refine ⟨m, ?_, hc, hm⟩
    unfold gX4_check_l16
    rw [hnu.1, wb1, if_pos (show J (nu L) ≤ J (nu L) by rw [J_le (by omega) (by omega)]; omega)]) (zfu_lt (by omega)) (x0 := 0) (x1 := U1) ⟨rfl, hC1, hF1⟩
  refine ⟨U2, ?_, hC2, hF2⟩
  unfold gX4_check
  rw [hfl, wb1]
  have hU1' : (if bJ fl = 0 then some U else zb1 (gX4_mark U r (J 3) (J s0)) fun U36 => some U36) = some U1 := by
    cases hq : (if bJ fl = 0 then some U else zb1 (gX4_mark U r (J 3) (J s0)) fun U36 => some U36) with
    | none => rw [hq] at hU1; cases hU1
    | some z => rw [hq] at hU1; exact hU1
  show zc1 (if bJ fl = 0 then some U else zb1 (gX4_mark U r (J 3) (J s0)) fun U36 => some U36) _ = _
  rw [hU1', wc1, hU2, wb1]
