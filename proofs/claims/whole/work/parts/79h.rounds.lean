def gW (M : zMS) (v : zV) (m : zMS) (ak : Nat → Nat → Bool) (w : Nat → Option Nat) : Prop := isMV m v ∧ Msame M m ∧ (∀ j, m.1 j = M.1 j) ∧ rW m ak w ∧ wR (v 1) (knd v 0) (knd v 1) (wK v) ak w
theorem R_pass {M m0 : zMS} {v : zV} (hV : VOK v) {ak0 : Nat → Nat → Bool} {w0 : Nat → Option Nat} (hg : gW M v m0 ak0 w0) : ∃ r, zf3 gX12_matched_l62 zfu (J 0) (J 0) m0 = some r ∧ ((r.1 = J 0 ∧ r.2 = m0 ∧ wC (v 1) (knd v 0) (knd v 1) ak0 w0) ∨ (r.1 = J 1 ∧ ∃ ak w, gW M v r.2 ak w ∧ prs ak0 < prs ak)) := by
  have h6 := hV.2.2.1
  refine zf3_inv (f := gX12_matched_l62) (v 1 : Nat) (fun i f x m => x = J i ∧ ((f = J 0 ∧ m = m0 ∧ ∀ y, y < i → knd v 0 y = true → w0 y = none → nrs (wK v y) (unk v ak0 y) (v 1) = none) ∨ (f = J 1 ∧ ∃ ak w, gW M v m ak w ∧ prs ak0 < prs ak))) (fun r => (r.1 = J 0 ∧ r.2 = m0 ∧ wC (v 1) (knd v 0) (knd v 1) ak0 w0) ∨ (r.1 = J 1 ∧ ∃ ak w, gW M v r.2 ak w ∧ prs ak0 < prs ak)) ?_ ?_ (zfu_lt (by omega)) ⟨rfl, Or.inl ⟨rfl, rfl, fun y hy => by omega⟩⟩
  · intro i f x m hi hP F
    obtain ⟨rfl, hP⟩ := hP
    have hg1 : ∃ ak w, gW M v m ak w ∧ ((f = J 0 ∧ m = m0 ∧ ak = ak0 ∧ w = w0) ∨ (f = J 1 ∧ prs ak0 < prs ak)) := by
      rcases hP with ⟨rfl, rfl, -⟩ | ⟨rfl, ak, w, hg1, hp⟩
      · exact ⟨ak0, w0, hg, .inl ⟨rfl, rfl, rfl, rfl⟩⟩
      · exact ⟨ak, w, hg1, .inr ⟨rfl, hp⟩⟩
    obtain ⟨ak, w, ⟨g1, g2, g3, g4, g5⟩, hc⟩ := hg1
    have hI := wR_I knd_d g5
    have hj1 : (J i + 1) = J (i + 1) := J_add (a := i) (b := 1)
    have hle : ¬ J (v 1) ≤ J i := by rw [J_le (by omega) (by omega)]; omega
    have hk : gX12_isKind m (J i) 0 = some (bJ (knd v 0 i)) := R_isKind g1 hV (k := 0) hi (by omega)
    by_cases hq : knd v 0 i = true ∧ w i = none ∧ (nrs (wK v i) (unk v ak i) (v 1)).isSome = true
    · obtain ⟨pi, wi, hs⟩ := hq
      obtain ⟨b, hb⟩ := Option.isSome_iff_exists.mp hs
      obtain ⟨m', e1, h1, h2, h3, h4⟩ := R_asks1 g1 hV g4 hI hi pi wi hb
      have hS := nrs_S (w := w) hi pi wi hb
      have hpr := prs_1 (ak := ak) (a := i) (b := b) (by omega) (by have := hS.2.2.2.1; omega) hS.2.2.2.2.2.1
      refine ⟨J 1, J (i + 1), m', ?_, rfl, .inr ⟨rfl, _, _, ⟨h1, Msame_t g2 h2, fun j => (h3 j).trans (g3 j), h4, wR_s g5 hS⟩, ?_⟩⟩
      · unfold gX12_matched_l62
        rw [R_p g1, if_neg hle, hk, wb1, pi, if_neg (show ¬ bJ true = 0 by decide), e1, wb2, if_neg (show ¬ J 1 = 0 by decide), wc2, hj1]
        rcases hc with ⟨rfl, -⟩ | ⟨rfl, -⟩
        · rfl
        · rfl
      · rcases hc with ⟨-, -, rfl, -⟩ | ⟨-, hp⟩
        · exact hpr
        · omega
    · have hno : knd v 0 i = true → w i = none → nrs (wK v i) (unk v ak i) (v 1) = none := fun pi wi => by
        cases hn : nrs (wK v i) (unk v ak i) (v 1) with
        | none => rfl
        | some b => exact absurd ⟨pi, wi, by rw [hn]; rfl⟩ hq
      have hstep : gX12_matched_l62 F f (J i) m = F f (J (i + 1)) m := by
        unfold gX12_matched_l62 gX12_matched_b94
        rw [R_p g1, if_neg hle, hk, wb1, hj1]
        cases pi : knd v 0 i with
        | false =>
          rw [if_pos (show bJ false = 0 from rfl), wc2]
          rcases hc with ⟨rfl, -⟩ | ⟨rfl, -⟩
          · rfl
          · rfl
        | true =>
          rw [if_neg (show ¬ bJ true = 0 by decide), R_asks0 g1 hV g4 hI hi (hno pi), wb2, if_pos (show J 0 = 0 from rfl), wc2]
          rcases hc with ⟨rfl, -⟩ | ⟨rfl, -⟩
          · rfl
          · rfl
      refine ⟨f, J (i + 1), m, hstep, rfl, ?_⟩
      rcases hP with ⟨e1, e2, e3⟩ | hP
      · rcases hc with ⟨-, -, rfl, rfl⟩ | ⟨z, -⟩
        · refine .inl ⟨e1, e2, fun y hy py wy => ?_⟩
          by_cases hyi : y = i
          · subst hyi; exact hno py wy
          · exact e3 y (by omega) py wy
        · rw [e1] at z; exact absurd z (by decide)
      · exact .inr hP
  · intro f x m hP F
    obtain ⟨rfl, hP⟩ := hP
    have hmv : isMV m v := by
      rcases hP with ⟨-, rfl, -⟩ | ⟨-, ak, w, hg1, -⟩
      · exact hg.1
      · exact hg1.1
    refine ⟨(f, m), ?_, ?_⟩
    · unfold gX12_matched_l62
      rw [R_p hmv, if_pos (show J (v 1) ≤ J (v 1) by rw [J_le (by omega) (by omega)]; omega)]
    · rcases hP with ⟨e1, e2, e3⟩ | hP
      · exact .inl ⟨e1, e2, fun a b ha pa wa hb qb => nrs_N (e3 a ha pa wa) hb qb⟩
      · exact .inr hP
theorem R_matchL {M m : zMS} {v : zV} (hV : VOK v) {ak : Nat → Nat → Bool} {w : Nat → Option Nat} (hg : gW M v m ak w) : ∃ m' , zf2 gX12_matched_l53 zfu (J 1) m = some m' ∧ ∃ ak w, gW M v m' ak w ∧ wC (v 1) (knd v 0) (knd v 1) ak w := by
  refine zf2_stop (f := gX12_matched_l53) 38 (fun i x m => (x = J 0 ∧ ∃ ak w, gW M v m ak w ∧ wC (v 1) (knd v 0) (knd v 1) ak w) ∨ (x = J 1 ∧ ∃ ak w, gW M v m ak w ∧ i ≤ prs ak)) (fun m => ∃ ak w, gW M v m ak w ∧ wC (v 1) (knd v 0) (knd v 1) ak w) ?_ ?_ (zfu_lt (by omega)) (.inr ⟨rfl, ak, w, hg, Nat.zero_le _⟩)
  · intro i x m hi hP
    rcases hP with ⟨rfl, hP⟩ | ⟨rfl, ak, w, hg, hp⟩
    · exact .inl ⟨m, hP, fun F => by unfold gX12_matched_l53; rw [if_pos (show J 0 = 0 from rfl)]⟩
    · obtain ⟨r, er, hr⟩ := R_pass hV hg
      right
      refine ⟨r.1, r.2, ?_, fun F => ?_⟩
      · rcases hr with ⟨h1, h2, h3⟩ | ⟨h1, ak', w', h2, h3⟩
        · exact .inl ⟨h1, ak, w, by rw [h2]; exact hg, h3⟩
        · exact .inr ⟨h1, ak', w', h2, by omega⟩
      · unfold gX12_matched_l53
        rw [if_neg (show ¬ J 1 = 0 by decide), show zf3 gX12_matched_l62 zfu 0 0 m = some r from er]
        rfl
  · intro x m hP
    rcases hP with ⟨rfl, hP⟩ | ⟨rfl, ak, w, hg, hp⟩
    · exact ⟨m, hP, fun F => by unfold gX12_matched_l53; rw [if_pos (show J 0 = 0 from rfl)]⟩
    · have : prs ak ≤ 36 := cnt_le 36
      omega
theorem R_isPersonX {M : zMS} {v : zV} (hm : isMV M v) (hV : VOK v) (x : Int32) : gX12_isPerson M x = some (bJ (inb (v 1) x)) := by
  have h6 := hV.2.2.1
  unfold gX12_isPerson
  rw [R_p hm, R_in0 (by omega), wb1, zbz_b, wb1]
theorem R_matched0 {M M4 : zMS} {x1 x : Int32} {v : zV} (hh : gX12_hand (zsI M 0 (J 0)) x1 = some (J 1, M4)) (hm : isMV M4 v) (hV : VOK v) (hx : inb (v 1) x = false) : gX12_matched M x1 x = some (NN, M4) := by
  unfold gX12_matched
  rw [wb1, show (0 : Int32) = J 0 from rfl, hh, wb2, if_neg (by decide), R_isPersonX hm hV, hx, wb1, if_pos (show bJ false = J 0 from rfl)]
  rfl
theorem R_matched1 {M M4 : zMS} {x1 : Int32} {v : zV} (hh : gX12_hand (zsI M 0 (J 0)) x1 = some (J 1, M4)) (hm : isMV M4 v) (hV : VOK v) {k : Nat} (hk : k < (v 1 : Nat)) : ∃ M' ak w, gX12_matched M x1 (J k) = some (oJ (w k), M') ∧ Msame M4 M' ∧ (∀ j, M'.1 j = M4.1 j) ∧ wR (v 1) (knd v 0) (knd v 1) (wK v) ak w ∧ wC (v 1) (knd v 0) (knd v 1) ak w := by
  have h6 := hV.2.2.1
  obtain ⟨m1, e1, i1, k1, f1, z1⟩ := zf2_inv (f := gX12_matched_l25) 6 (fun i x m => x = J i ∧ isMV m v ∧ Msame M4 m ∧ (∀ j, m.1 j = M4.1 j) ∧ ∀ k, k < i → m.2.2 51 k = NN ∧ m.2.2 52 k = J 0) (fun m => isMV m v ∧ Msame M4 m ∧ (∀ j, m.1 j = M4.1 j) ∧ ∀ k, k < 6 → m.2.2 51 k = NN ∧ m.2.2 52 k = J 0) (by
    intro i x m hi hP F
    obtain ⟨rfl, hm1, hs1, hj1, hz1⟩ := hP
    refine ⟨J (i + 1), zsA (zsA m 51 (upd (m.2.2 51) i (-1))) 52 (upd (m.2.2 52) i 0), ?_, rfl, isMV_A (by omega) (isMV_A (by omega) hm1), Msame_t hs1 (Msame_t (Msame_A (by omega)) (Msame_A (by omega))), hj1, fun k hk => ?_⟩
    · unfold gX12_matched_l25
      rw [if_neg (show ¬ (6 : Int32) ≤ J i by rw [show (6 : Int32) = J 6 from rfl, J_le (by omega) (by omega)]; omega), zas_J (by omega) (by omega), wb1, wb1, zas_J (by omega) (by omega), wb1, wb1, zsA_o (by omega)]
      show F (J i + J 1) _ = _
      rw [J_add]
    · rw [zsA_1, zsA_o (by omega), zsA_1]
      by_cases hki : k = i
      · subst hki; rw [upd_1, upd_1]; exact ⟨rfl, rfl⟩
      · rw [upd_o hki, upd_o hki]; exact hz1 k (by omega)) (by
    intro x m hP F
    obtain ⟨rfl, hP⟩ := hP
    refine ⟨m, ?_, hP⟩
    unfold gX12_matched_l25
    rw [if_pos (show (6 : Int32) ≤ J 6 by decide)]) (zfu_lt (n := 6) (by omega)) (x0 := J 0) (x1 := M4) ⟨rfl, hm, Msame_r, fun _ => rfl, fun k hk => by omega⟩
  obtain ⟨m2, e2, ak, w, hg, hC⟩ := R_matchL (M := M4) hV (m := m1) (ak := fun _ _ => false) (w := fun _ => none) ⟨i1, k1, f1, fun x hx => ⟨(z1 x hx).1, by rw [(z1 x hx).2, bts_0 (fun _ _ => rfl)]⟩, wR_z⟩
  obtain ⟨g1, g2, g3, g4, g5⟩ := hg
  refine ⟨m2, ak, w, ?_, g2, g3, g5, hC⟩
  unfold gX12_matched
  rw [wb1, show (0 : Int32) = J 0 from rfl, hh, wb2, if_neg (by decide), R_isPersonX hm hV, inb_J (by omega) (by omega), decide_eq_true hk, wb1, if_neg (by decide), e1, wb1, show zf2 gX12_matched_l53 zfu 1 m1 = some m2 from e2, wb1, zag_J (by omega) (by omega), wb1, (g4 k (by omega)).1]
