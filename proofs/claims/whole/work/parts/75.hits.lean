theorem hrt_e {v : zV} (hV : VOK v) {c m w x t : Nat} (hc : c ≤ (v 0 : Nat)) (hx : x ≤ (v 0 : Nat)) : hrt v c m w x t = (decide (t = m + way v c x 0) || (!mute v (3 - jdg v m) m && decide (t = m + way v c x (3 - jdg v m))) || (!mute v (jdg v m) m && decide (t = m + way v c x (jdg v m) + (v (11 + w) : Nat)))) := by
  have h0 := way_le (b := 0) hV hc hx
  have h1 := way_le (b := 1) hV hc hx
  have h2 := way_le (b := 2) hV hc hx
  have r0 : ¬ rng 2 < way v c x 0 := by show ¬ 99 < _; omega
  have r1 : ¬ rng 2 < way v c x 1 := by show ¬ 99 < _; omega
  have r2 : ¬ rng 2 < way v c x 2 := by show ¬ 99 < _; omega
  have m0 : mute v 0 m = false := by unfold mute; simp
  have m2 : mute v 2 m = false := by unfold mute; simp
  unfold hrt
  rw [rng3]
  unfold arr thk
  rw [if_neg r0, if_neg r1, if_neg r2, m0, m2]
  rcases @jdg_le v m with hj | hj
  · rw [hj]
    rw [show 3 - 1 = 2 from rfl, m2]
    cases mute v 1 m <;> (rw [Bool.eq_iff_iff]; simp; omega)
  · rw [hj]
    rw [show 3 - 2 = 1 from rfl, m2]
    cases mute v 1 m <;> (rw [Bool.eq_iff_iff]; simp; omega)
theorem isSi_F {U U' : zCS} {a : Nat} {s : zV} {A : Nat → Prop} (hu : Ufr U U' A) (hA : ∀ j, j ≤ 4 → ¬ A (a + j)) (h : isSi U a s) : isSi U' a s := by
  have h3 := fun j (hj : j ≤ 4) => (hu.1 (a + j) (hA j hj)).2
  have h4 := (hu.1 a (by have := hA 0 (by omega); rwa [Nat.add_zero] at this)).1
  unfold isSi at *
  rw [h4, h3 1 (by omega), h3 2 (by omega), h3 3 (by omega), h3 4 (by omega)]
  exact h
theorem C_hit_to {U m : zCS} {a e : Nat} {v s : zV} (h : isVal U a v) (hV : VOK v) (hae : ∀ j, j ≤ 10 → ¬ (e ≤ a + j ∧ a + j ≤ e + 2)) {c mi x : Nat} (hc : c ≤ (v 0 : Nat)) (hmi : mi < 100) (hx : x ≤ (v 0 : Nat)) (hm : Ufr U m (fun q => e ≤ q ∧ q ≤ e + 2)) (hb : ∀ k, k < 10 → m.2.1 (e + 2) k = J (btq v s (100 * c + mi) k 8)) (hl : m.1 e 2 = J (lgq v s (100 * c + mi) 8)) (hn : cnt (swd v s (100 * c + mi)) 8 ≠ 0) {G : Nat → Nat → Nat} (hr : hrow m e G) (F : Int32 → zCS → Option zCS) : ∃ m', gX5_hitByWords_l55 a (J (cnt (swd v s (100 * c + mi)) 8)) (J c) (bJ (mute v (3 - jdg v mi) mi)) (J (3 - jdg v mi)) (J mi) e (bJ (mute v (jdg v mi) mi)) (J (jdg v mi)) F (J x) m = F (J (x + 1)) m' ∧ Uarr m m' (fun q => q = e + 1) ∧ hrow m' e (fun y u => G y u + if y = x then inq v s (100 * c + mi) y u else 0) := by
  have hw := hV.2.1
  have hv := isVal_F hm hae h
  have hcl := cnt_le (p := swd v s (100 * c + mi)) 8
  have hj := @jdg_le v mi
  have w0 := way_le (b := 0) hV hc hx
  have wj := way_le (b := jdg v mi) hV hc hx
  have we := way_le (b := 3 - jdg v mi) hV hc hx
  obtain ⟨l1, l2⟩ := lgq_ok hV (s := s) (q := 100 * c + mi) 8 (Nat.le_refl _)
  -- the times
  obtain ⟨tv, htv⟩ : ∃ tv, tv = mi + way v c x 0 := ⟨_, rfl⟩
  obtain ⟨te, hte⟩ : ∃ te, te = if mute v (3 - jdg v mi) mi then none else some (mi + way v c x (3 - jdg v mi)) := ⟨_, rfl⟩
  have hteb : ∀ t, te = some t → t < 10000 := fun t ht => by
    rw [hte] at ht
    split at ht
    · cases ht
    · cases ht; omega
  have einq : ∀ u, inq v s (100 * c + mi) x u = cnt (fun w => swd v s (100 * c + mi) w && (decide (u = tv) || decide (te = some u) || (!mute v (jdg v mi) mi && decide (u = mi + way v c x (jdg v mi) + (v (11 + w) : Nat))))) 8 := fun u => by
    unfold inq
    rw [show (100 * c + mi) / 100 = c by omega, show (100 * c + mi) % 100 = mi by omega]
    refine cnt_c (fun w _ => ?_)
    rw [hrt_e hV hc hx, htv, hte]
    cases mute v (3 - jdg v mi) mi
    · simp only [Bool.not_false, Bool.true_and, Bool.false_eq_true, if_false, Option.some.injEq]
      congr 3
      rw [decide_eq_decide]
      exact ⟨fun z => z.symm, fun z => z.symm⟩
    · simp
  obtain ⟨m1, e1, u1, r1⟩ := C_hit (n := cnt (swd v s (100 * c + mi)) 8) hr (show x < 31 by omega) (show tv < 100000 by omega)
  -- the echo
  have echo : ∃ m2, zc1 (if oJ te = J tv then some m1 else zb1 (gX5_hit m1 e (J x) (oJ te) (J (cnt (swd v s (100 * c + mi)) 8))) fun U36 => some U36) (fun m27 => some m27) = some m2 ∧ Uarr m1 m2 (fun q => q = e + 1) ∧ hrow m2 e (fun y u => G y u + if y = x ∧ (u = tv ∨ te = some u) then cnt (swd v s (100 * c + mi)) 8 else 0) := by
    cases ht : te with
    | none =>
      refine ⟨m1, ?_, Uarr_r, hrow_c r1 (fun y _ u _ => ?_)⟩
      · rw [oJ_n]
        simp (disch := omega) only [wb1, wb2, wb3, wb4, wc1, wc2, zb1_ite, zb2_ite, zb3_ite, zb4_ite, zzc1_ite, zzc2_ite, J_lit, J_n1, J_n2, J_add, J_mul, J_lt, J_le, J_eq, J_eN, N_eJ, J_eN2, J_nn, J_lN, N_lJ, J_leN, N_leJ, NN_l0, NN_eN, bJ_0, bJ_1, bJ_ite, zbz_b, zbz_0, zbz_1, zag_J, zas_J, ite_true, ite_false, if_true, if_false, ite_self, reduceIte, not_true_eq_false, not_false_eq_true, J_o, Nat.reduceEqDiff, Nat.reduceAdd, Nat.reduceMul, Nat.reduceSub, Nat.reduceLT, Nat.reduceLeDiff, Nat.one_ne_zero, C_hitN]
      · by_cases hyu : y = x ∧ u = tv
        · rw [if_pos hyu, if_pos ⟨hyu.1, .inl hyu.2⟩]
        · rw [if_neg hyu, if_neg (fun z => by rcases z.2 with z2 | z2; exact hyu ⟨z.1, z2⟩; cases z2)]
    | some t0 =>
      have ht0 := hteb t0 ht
      by_cases htt : t0 = tv
      · refine ⟨m1, ?_, Uarr_r, hrow_c r1 (fun y _ u _ => ?_)⟩
        · rw [oJ_s, htt]
          simp (disch := omega) only [wb1, wb2, wb3, wb4, wc1, wc2, zb1_ite, zb2_ite, zb3_ite, zb4_ite, zzc1_ite, zzc2_ite, J_lit, J_n1, J_n2, J_add, J_mul, J_lt, J_le, J_eq, J_eN, N_eJ, J_eN2, J_nn, J_lN, N_lJ, J_leN, N_leJ, NN_l0, NN_eN, bJ_0, bJ_1, bJ_ite, zbz_b, zbz_0, zbz_1, zag_J, zas_J, ite_true, ite_false, if_true, if_false, ite_self, reduceIte, not_true_eq_false, not_false_eq_true, J_o, Nat.reduceEqDiff, Nat.reduceAdd, Nat.reduceMul, Nat.reduceSub, Nat.reduceLT, Nat.reduceLeDiff, Nat.one_ne_zero]
        · by_cases hyu : y = x ∧ u = tv
          · rw [if_pos hyu, if_pos ⟨hyu.1, .inl hyu.2⟩]
          · rw [if_neg hyu, if_neg (fun z => by rcases z.2 with z2 | z2; exact hyu ⟨z.1, z2⟩; exact hyu ⟨z.1, by rw [← Option.some.inj z2, htt]⟩)]
      · obtain ⟨m2, e2, u2, r2⟩ := C_hit (n := cnt (swd v s (100 * c + mi)) 8) r1 (show x < 31 by omega) (show t0 < 100000 by omega)
        refine ⟨m2, ?_, u2, hrow_c r2 (fun y _ u _ => ?_)⟩
        · rw [oJ_s]
          simp (disch := omega) only [wb1, wb2, wb3, wb4, wc1, wc2, zb1_ite, zb2_ite, zb3_ite, zb4_ite, zzc1_ite, zzc2_ite, J_lit, J_n1, J_n2, J_add, J_mul, J_lt, J_le, J_eq, J_eN, N_eJ, J_eN2, J_nn, J_lN, N_lJ, J_leN, N_leJ, NN_l0, NN_eN, bJ_0, bJ_1, bJ_ite, zbz_b, zbz_0, zbz_1, zag_J, zas_J, ite_true, ite_false, if_true, if_false, ite_self, reduceIte, not_true_eq_false, not_false_eq_true, J_o, Nat.reduceEqDiff, Nat.reduceAdd, Nat.reduceMul, Nat.reduceSub, Nat.reduceLT, Nat.reduceLeDiff, Nat.one_ne_zero, eq_false htt, e2]
        · by_cases hy : y = x
          · by_cases hu1 : u = tv
            · rw [if_pos ⟨hy, hu1⟩, if_neg (fun z => htt (by rw [← z.2, hu1])), if_pos ⟨hy, .inl hu1⟩, Nat.add_zero]
            · by_cases hu2 : u = t0
              · rw [if_neg (fun z => hu1 z.2), if_pos ⟨hy, hu2⟩, if_pos ⟨hy, .inr (by rw [hu2])⟩, Nat.add_zero]
              · rw [if_neg (fun z => hu1 z.2), if_neg (fun z => hu2 z.2), if_neg (fun z => by rcases z.2 with z2 | z2; exact hu1 z2; exact hu2 (Option.some.inj z2).symm)]
          · rw [if_neg (fun z => hy z.1), if_neg (fun z => hy z.1), if_neg (fun z => hy z.1)]
  obtain ⟨m2, e2, u2, r2⟩ := echo
  have u12 := Uarr_t u1 u2
  have hf2 : Ufr U m2 (fun q => e ≤ q ∧ q ≤ e + 2) := Ufr_t hm (Ufr_U u12 (fun q hq => by omega))
  have hv2 := isVal_F hf2 hae h
  -- the wall that judges
  have judge : ∃ m3, (if bJ (mute v (jdg v mi) mi) = J 0 then zb1 (gX5_hitByJudge m2 e (J x) (J (mi + way v c x (jdg v mi))) (J tv) (oJ te)) fun U34 => some U34 else some m2) = some m3 ∧ Uarr m2 m3 (fun q => q = e + 1) ∧ hrow m3 e (fun y u => G y u + if y = x then inq v s (100 * c + mi) y u else 0) := by
    have fin : ∀ (K : Nat → Nat), (∀ u, u < 100 → ¬ (u = tv ∨ te = some u) → K u = cnt (fun w => swd v s (100 * c + mi) w && (!mute v (jdg v mi) mi && decide (u = mi + way v c x (jdg v mi) + (v (11 + w) : Nat)))) 8) → (∀ u, (u = tv ∨ te = some u) → K u = 0) → ∀ u, u < 100 → (if u = tv ∨ te = some u then cnt (swd v s (100 * c + mi)) 8 else 0) + K u = inq v s (100 * c + mi) x u := fun K k1 k2 u hu => by
      rw [einq]
      by_cases hc2 : u = tv ∨ te = some u
      · rw [if_pos hc2, k2 u hc2, Nat.add_zero]
        refine cnt_c (fun w _ => ?_)
        rcases hc2 with hc2 | hc2
        · rw [decide_eq_true hc2]; simp
        · rw [decide_eq_true hc2]; simp
      · rw [if_neg hc2, k1 u hu hc2, Nat.zero_add]
        refine cnt_c (fun w _ => ?_)
        rw [decide_eq_false (fun z => hc2 (.inl z)), decide_eq_false (fun z => hc2 (.inr z))]
        simp
    cases hmj : mute v (jdg v mi) mi
    · obtain ⟨m3, e3, u3, r3⟩ := C_hitByJudge (so := mi + way v c x (jdg v mi)) (tv := tv) (te := te) (bt := fun k => btq v s (100 * c + mi) k 8) (lg := lgq v s (100 * c + mi) 8) r2 (fun k hk => by rw [u12.2.2 (e + 2) (by omega)]; exact hb k hk) (by rw [u12.1]; exact hl) l1 (show x < 31 by omega) (by omega) (by omega) hteb
      refine ⟨m3, ?_, u3, hrow_c r3 (fun y _ u hu => ?_)⟩
      · simp (disch := omega) only [wb1, wb2, wb3, wb4, wc1, wc2, zb1_ite, zb2_ite, zb3_ite, zb4_ite, zzc1_ite, zzc2_ite, J_lit, J_n1, J_n2, J_add, J_mul, J_lt, J_le, J_eq, J_eN, N_eJ, J_eN2, J_nn, J_lN, N_lJ, J_leN, N_leJ, NN_l0, NN_eN, bJ_0, bJ_1, bJ_ite, zbz_b, zbz_0, zbz_1, zag_J, zas_J, ite_true, ite_false, if_true, if_false, ite_self, reduceIte, not_true_eq_false, not_false_eq_true, J_o, Nat.reduceEqDiff, Nat.reduceAdd, Nat.reduceMul, Nat.reduceSub, Nat.reduceLT, Nat.reduceLeDiff, Nat.one_ne_zero, e3]
      · by_cases hy : y = x
        · subst hy
          have := fin (fun u => if mi + way v c y (jdg v mi) ≤ u ∧ u - (mi + way v c y (jdg v mi)) ≤ lgq v s (100 * c + mi) 8 ∧ u ≠ tv ∧ te ≠ some u then btq v s (100 * c + mi) (u - (mi + way v c y (jdg v mi))) 8 else 0) (fun u hu hc2 => by
            rw [hmj]
            by_cases hle : mi + way v c y (jdg v mi) ≤ u
            · by_cases hll : u - (mi + way v c y (jdg v mi)) ≤ lgq v s (100 * c + mi) 8
              · rw [if_pos ⟨hle, hll, fun z => hc2 (.inl z), fun z => hc2 (.inr z)⟩]
                unfold btq
                refine cnt_c (fun w _ => ?_)
                simp only [Bool.not_false, Bool.true_and]
                congr 1
                rw [decide_eq_decide]
                omega
              · rw [if_neg (fun z => hll z.2.1), cnt_z (fun w hw => ?_)]
                cases hsw : swd v s (100 * c + mi) w
                · rfl
                · have := l2 w hw hsw
                  simp
                  omega
            · rw [if_neg (fun z => hle z.1), cnt_z (fun w hw => by simp; intro _; omega)]) (fun u hc2 => if_neg (fun z => by rcases hc2 with hc2 | hc2; exact z.2.2.1 hc2; exact z.2.2.2 hc2)) u hu
          simp only [true_and, if_true] at this ⊢
          rw [← this, Nat.add_assoc]
        · simp only [hy, false_and, if_false, Nat.add_zero]
    · refine ⟨m2, ?_, Uarr_r, hrow_c r2 (fun y _ u hu => ?_)⟩
      · rw [if_neg (by decide)]
      · by_cases hy : y = x
        · subst hy
          have := fin (fun _ => 0) (fun u hu hc2 => by rw [hmj, cnt_z (fun w hw => by simp)]) (fun _ _ => rfl) u hu
          simp only [true_and, if_true]
          rw [← this, Nat.add_zero]
        · simp only [hy, false_and, if_false, Nat.add_zero]
  obtain ⟨m3, e3, u3, r3⟩ := judge
  refine ⟨m3, ?_, Uarr_t u12 u3, r3⟩
  have e23 : (if bJ (mute v (3 - jdg v mi) mi) = J 0 then zb1 (gX9_way m a (J c) (J x) (J (3 - jdg v mi))) (fun v38 => some (J mi + v38)) else some NN : Option Int32) = some (oJ te) := by
    rw [hte]
    cases mute v (3 - jdg v mi) mi
    · rw [if_pos bJ_f, C_way hv hV hc hx (by omega)]
      simp (disch := omega) only [wb1, wb2, wb3, wb4, wc1, wc2, zb1_ite, zb2_ite, zb3_ite, zb4_ite, zzc1_ite, zzc2_ite, J_lit, J_n1, J_n2, J_add, J_mul, J_lt, J_le, J_eq, J_eN, N_eJ, J_eN2, J_nn, J_lN, N_lJ, J_leN, N_leJ, NN_l0, NN_eN, bJ_0, bJ_1, bJ_ite, zbz_b, zbz_0, zbz_1, zag_J, zas_J, ite_true, ite_false, if_true, if_false, ite_self, reduceIte, not_true_eq_false, not_false_eq_true, J_o, Nat.reduceEqDiff, Nat.reduceAdd, Nat.reduceMul, Nat.reduceSub, Nat.reduceLT, Nat.reduceLeDiff, Nat.one_ne_zero]
      rfl
    · rw [if_neg (by decide)]
      rfl
  have ev0 : gX9_way m a (J c) (J x) 0 = some (J (way v c x 0)) := C_way (b := 0) hv hV hc hx (by omega)
  have evj : gX9_way m2 a (J c) (J x) (J (jdg v mi)) = some (J (way v c x (jdg v mi))) := C_way hv2 hV hc hx (by omega)
  unfold gX5_hitByWords_l55
  rw [V_w hv, if_neg (show ¬ J (v 0) < J x by rw [J_lt (by omega) (by omega)]; omega), if_neg (show ¬ J (cnt (swd v s (100 * c + mi)) 8) ≤ 0 by rw [show (0 : Int32) = J 0 from rfl, J_le (by omega) (by omega)]; omega), ev0, wb1]
  have e23' : (if bJ (mute v (3 - jdg v mi) mi) = 0 then zb1 (gX9_way m a (J c) (J x) (J (3 - jdg v mi))) (fun v38 => some (J mi + v38)) else some (-1) : Option Int32) = some (oJ te) := e23
  rw [e23', wb1, J_add, ← htv, e1, wb1]
  cases hif : (if oJ te = J tv then some m1 else zb1 (gX5_hit m1 e (J x) (oJ te) (J (cnt (swd v s (100 * c + mi)) 8))) fun U36 => some U36 : Option zCS) with
  | none => rw [hif] at e2; cases e2
  | some m2' =>
    rw [hif, wc1] at e2
    cases e2
    rw [wc1, evj, wb1, J_add]
    have e3' : (if bJ (mute v (jdg v mi) mi) = 0 then zb1 (gX5_hitByJudge m2 e (J x) (J (mi + way v c x (jdg v mi))) (J tv) (oJ te)) (fun U34 => some U34) else some m2 : Option zCS) = some m3 := e3
    rw [e3', wc1]
    show F (J x + J 1) m3 = _
    rw [J_add]
theorem C_hitByWords {U : zCS} {a e : Nat} {v s : zV} (h : isVal U a v) (hV : VOK v) (hae : ∀ j, j ≤ 10 → ¬ (e ≤ a + j ∧ a + j ≤ e + 2)) {c mi : Nat} (hc : c ≤ (v 0 : Nat)) (hmi : mi < 100) {G : Nat → Nat → Nat} (hr : hrow U e G) : ∃ U', gX5_hitByWords U e a (J c) (J mi) (J (bts (swd v s (100 * c + mi)) 8)) = some U' ∧ Ufr U U' (fun q => e ≤ q ∧ q ≤ e + 2) ∧ hrow U' e (fun y u => G y u + if y ≤ (v 0 : Nat) then inq v s (100 * c + mi) y u else 0) := by
  have hw := hV.2.1
  have hj := @jdg_le v mi
  have hcl := cnt_le (p := swd v s (100 * c + mi)) 8
  obtain ⟨U1, e1, u1, k1, k2, k3⟩ := C_countByThought (s := s) h hV hae (q := 100 * c + mi)
  have r1 : hrow U1 e G := fun x hx t ht => by rw [k1]; exact hr x hx t ht
  have hs5 : (if J (jdg v mi) = J 1 then some (J 2) else some (J 1) : Option Int32) = some (J (3 - jdg v mi)) := by
    rcases hj with hj | hj
    · rw [hj]; rfl
    · rw [hj]; rfl
  have main : ∃ m', zf2 (gX5_hitByWords_l55 a (J (cnt (swd v s (100 * c + mi)) 8)) (J c) (bJ (mute v (3 - jdg v mi) mi)) (J (3 - jdg v mi)) (J mi) e (bJ (mute v (jdg v mi) mi)) (J (jdg v mi))) zfu (J 0) U1 = some m' ∧ Ufr U m' (fun q => e ≤ q ∧ q ≤ e + 2) ∧ hrow m' e (fun y u => G y u + if y ≤ (v 0 : Nat) then inq v s (100 * c + mi) y u else 0) := by
    by_cases hn : cnt (swd v s (100 * c + mi)) 8 = 0
    · have hz : ∀ y u, inq v s (100 * c + mi) y u = 0 := fun y u => by
        have : inq v s (100 * c + mi) y u ≤ cnt (swd v s (100 * c + mi)) 8 := cnt_mono (fun w _ hq => by rw [Bool.and_eq_true] at hq; exact hq.1)
        omega
      refine ⟨U1, ?_, u1, hrow_c r1 (fun y _ u _ => by rw [hz, ite_self, Nat.add_zero])⟩
      refine zf2_run (f := gX5_hitByWords_l55 a (J (cnt (swd v s (100 * c + mi)) 8)) (J c) (bJ (mute v (3 - jdg v mi) mi)) (J (3 - jdg v mi)) (J mi) e (bJ (mute v (jdg v mi) mi)) (J (jdg v mi))) 0 J (fun _ => U1) (by intro i hi; omega) (fun F => ?_) (zfu_lt (by omega))
      have hv1 := isVal_F u1 hae h
      unfold gX5_hitByWords_l55
      rw [V_w hv1, hn, if_neg (show ¬ J (v 0) < J 0 by rw [J_lt (by omega) (by omega)]; omega), if_pos (show J 0 ≤ 0 by rw [show (0 : Int32) = J 0 from rfl, J_le (by omega) (by omega)]; omega)]
    · refine zf2_inv (f := gX5_hitByWords_l55 a (J (cnt (swd v s (100 * c + mi)) 8)) (J c) (bJ (mute v (3 - jdg v mi) mi)) (J (3 - jdg v mi)) (J mi) e (bJ (mute v (jdg v mi) mi)) (J (jdg v mi))) ((v 0 : Nat) + 1) (fun i z m => z = J i ∧ Uarr U1 m (fun q => q = e + 1) ∧ hrow m e (fun y u => G y u + if y < i then inq v s (100 * c + mi) y u else 0)) (fun m => Ufr U m (fun q => e ≤ q ∧ q ≤ e + 2) ∧ hrow m e (fun y u => G y u + if y ≤ (v 0 : Nat) then inq v s (100 * c + mi) y u else 0)) ?_ ?_ (zfu_lt (n := (v 0 : Nat) + 1) (by omega)) (x0 := J 0) (x1 := U1) ⟨rfl, Uarr_r, hrow_c r1 (fun y _ u _ => by rw [if_neg (by omega), Nat.add_zero])⟩
      · intro i z m hi hP F
        obtain ⟨rfl, hm, hr2⟩ := hP
        have hf : Ufr U m (fun q => e ≤ q ∧ q ≤ e + 2) := Ufr_t u1 (Ufr_U hm (fun q hq => by omega))
        obtain ⟨m2, e2, u2, r2⟩ := C_hit_to (x := i) h hV hae hc hmi (by omega) hf (fun k hk => by rw [hm.2.2 (e + 2) (by omega)]; exact k2 k hk) (by rw [hm.1]; exact k3) hn hr2 F
        refine ⟨J (i + 1), m2, e2, rfl, Uarr_t hm u2, hrow_c r2 (fun y _ u _ => ?_)⟩
        by_cases hy : y = i
        · subst hy
          simp
        · by_cases hlt : y < i
          · simp only [hlt, if_true, hy, if_false, Nat.add_zero, show y < i + 1 by omega]
          · simp only [hlt, if_false, hy, Nat.add_zero, show ¬ y < i + 1 by omega]
      · intro z m hP F
        obtain ⟨rfl, hm, hr2⟩ := hP
        have hf : Ufr U m (fun q => e ≤ q ∧ q ≤ e + 2) := Ufr_t u1 (Ufr_U hm (fun q hq => by omega))
        have hv1 := isVal_F hf hae h
        refine ⟨m, ?_, hf, hrow_c hr2 (fun y _ u _ => ?_)⟩
        · unfold gX5_hitByWords_l55
          rw [V_w hv1, if_pos (show J (v 0) < J ((v 0 : Nat) + 1) by rw [J_lt (by omega) (by omega)]; omega)]
        · by_cases hy : y ≤ (v 0 : Nat)
          · rw [if_pos hy, if_pos (by omega)]
          · rw [if_neg hy, if_neg (by omega)]
  obtain ⟨m', e2, u2, r2⟩ := main
  refine ⟨m', ?_, u2, r2⟩
  unfold gX5_hitByWords
  rw [C_bitCount bts_256, bts_pop, wb1, C_judge h hmi, wb1]
  show zb1 (if J (jdg v mi) = J 1 then some (J 2) else some (J 1)) _ = _
  rw [hs5, wb1, C_isMute h (by omega) hmi, wb1, C_isMute h (by omega) hmi, wb1, e1, wb1]
  show zb1 (zf2 _ zfu (J 0) U1) _ = _
  rw [e2, wb1]
