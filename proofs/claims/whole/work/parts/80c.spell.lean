/-! texts: the words that begin a line -/
def txOk (ν : zM) (sh : Nat → Nat) : Prop := (∀ i, i < 18 → ν.1 (ν.2.2 (100 + i)) = some (.inl (11, (ztext i).length, .inl (fun j => (ztext i).getD j 0))) ∧ sh (ν.2.2 (100 + i)) = 0) ∧ ∀ i j, i < 18 → j < 18 → ν.2.2 (10 + i) = ν.2.2 (10 + j) → i = j
def tln (L : Nat) : Nat := (ztext L).length
def spc (L k : Nat) : Nat := ((ztext L).getD k 0).toNatClampNeg
theorem spc_ok : ∀ L, L < 18 → ∀ k, k < tln L → 97 ≤ spc L k ∧ spc L k ≤ 122 ∧ (ztext L).getD k 0 = J (spc L k) := by decide +kernel
theorem tln_ok : ∀ L, L < 18 → 1 ≤ tln L ∧ tln L ≤ 8 ∧ (Int32.ofNat (tln L) >>> ((0 : Int32) &&& 31)) = J (tln L) := by decide +kernel
theorem chr_ok : ∀ L, L < 18 → ∀ k, k < tln L → (zb1 (zb1 (znr .char (((((ztext L).getD k 0) &&& 255 : Int32).toUInt32 % 65536).toInt32)) fun v6 => some v6) fun v8 => zb1 (znr .char v8) fun v9 => some v9) = some (J (spc L k)) := by decide +kernel
theorem T_cell {ν : zM} {sh : Nat → Nat} {U : zCS} {L : Nat} (h : txOk ν sh) (hL : L < 18) : (cmem ν sh U).1 (ν.2.2 (100 + L)) = some (.inl (11, tln L, .inl (fun j => (ztext L).getD j 0))) := by
  show (if sh (ν.2.2 (100 + L)) = 0 then ν.1 (ν.2.2 (100 + L)) else _) = _
  rw [if_pos (h.1 L hL).2]
  exact (h.1 L hL).1
theorem T_cks {ν : zM} {sh : Nat → Nat} {U : zCS} {L : Nat} (hL : L < 18) : zm_cks (cmem ν sh U) (ν.2.2 (10 + L)) = true := by
  show (List.range 18).any (fun i => ν.2.2 (10 + i) == ν.2.2 (10 + L)) = true
  exact List.any_eq_true.mpr ⟨L, List.mem_range.mpr hL, by simp⟩
theorem T_str {ν : zM} {sh : Nat → Nat} {U : zCS} {L : Nat} (h : txOk ν sh) (hL : L < 18) : zm_str (cmem ν sh U) (ν.2.2 (10 + L)) = some (ν.2.2 (100 + L)) := by
  show (fstI (fun i => ν.2.2 (10 + i) == ν.2.2 (10 + L)) 18).map (fun i => ν.2.2 (100 + i)) = _
  cases hf : fstI (fun i => ν.2.2 (10 + i) == ν.2.2 (10 + L)) 18 with
  | none =>
    have := fstI_n hf L hL
    simp at this
  | some k =>
    obtain ⟨h1, h2, -⟩ := fstI_s hf
    rw [h.2 k L h1 hL (beq_iff_eq.mp h2)]
    rfl
theorem T_len {ν : zM} {sh : Nat → Nat} {U : zCS} {L : Nat} (h : txOk ν sh) (hL : L < 18) : zm_len (cmem ν sh U) (ν.2.2 (100 + L)) = some (Int32.ofNat (tln L)) := by
  unfold zm_len
  rw [T_cell h hL]
  rfl
theorem T_coder {ν : zM} {sh : Nat → Nat} {U : zCS} {L : Nat} (hL : L < 18) : fJ0_coder_7d493 (cmem ν sh U) (ν.2.2 (10 + L)) = some 0 := by
  unfold fJ0_coder_7d493
  rw [T_cks hL, zgd_t, if_neg (by decide), wb1, show znr .byte 0 = some 0 by decide, wb1]
theorem T_length {ν : zM} {sh : Nat → Nat} {U : zCS} {L : Nat} (h : txOk ν sh) (hL : L < 18) : fJ0_length_8abf5 (cmem ν sh U) (ν.2.2 (10 + L)) = some (J (tln L)) := by
  unfold fJ0_length_8abf5
  rw [T_cks hL, zgd_t, T_str h hL, wb1, T_len h hL, wb1, T_coder hL, wb1, (tln_ok L hL).2.2]
theorem T_latin {ν : zM} {sh : Nat → Nat} {U : zCS} {L : Nat} (hL : L < 18) : fJ0_isLatin1_aae02 (cmem ν sh U) (ν.2.2 (10 + L)) = some 1 := by
  unfold fJ0_isLatin1_aae02
  rw [T_cks hL, zgd_t, if_neg (by decide), if_pos rfl, wb1, show zbz 1 = some 1 by decide, wb1]
theorem T_charAt {ν : zM} {sh : Nat → Nat} {U : zCS} {L k : Nat} (h : txOk ν sh) (hL : L < 18) (hk : k < tln L) : fJ0_charAt_5068e (cmem ν sh U) (ν.2.2 (10 + L)) (J k) = some (J (spc L k)) := by
  have h8 := (tln_ok L hL).2.1
  have hai : zm_aI (cmem ν sh U) 1 (ν.2.2 (100 + L)) (J k) = some ((ztext L).getD k 0) := by
    unfold zm_aI
    rw [T_cell h hL]
    show (if 11 % 10 = 1 ∧ 11 < 12 ∧ ¬ (J k < 0 ∨ tln L ≤ (J k).toNatClampNeg) then some ((ztext L).getD (J k).toNatClampNeg 0) else none) = _
    rw [if_pos ⟨by decide, by decide, by rw [show (0 : Int32) = J 0 from rfl, J_lt (by omega) (by omega), J_nat (by omega)]; omega⟩, J_nat (by omega)]
  have hch : fJ1_charAt_3b067 (cmem ν sh U) (ν.2.2 (100 + L)) (J k) = zb1 (znr .char (((((ztext L).getD k 0) &&& 255 : Int32).toUInt32 % 65536).toInt32)) fun v6 => some v6 := by
    unfold fJ1_charAt_3b067 fJ0_checkIndex_df160 fJ3_checkIndex_8e157
    rw [T_len h hL, wb1, if_neg (show ¬ J k < 0 by rw [show (0 : Int32) = J 0 from rfl, J_lt (by omega) (by omega)]; omega), if_pos (show J k < Int32.ofNat (tln L) from (J_lt (by omega) (by omega)).mpr hk), wb1]
    show zb1 (zm_aI (cmem ν sh U) 1 (ν.2.2 (100 + L)) (J k)) _ = _
    rw [hai, wb1]
  unfold fJ0_charAt_5068e
  rw [T_cks hL, zgd_t, T_latin hL, wb1, if_neg (by decide), T_str h hL, wb1, hch]
  exact chr_ok L hL k hk
theorem any_not (l : List Nat) (p : Nat → Bool) : l.any (fun a => !p a) = !l.all p := by
  induction l with
  | nil => rfl
  | cons a l ih => rw [List.any_cons, List.all_cons, ih, Bool.not_and]
def spB (t : Nat → Nat) (s e L : Nat) : Bool := decide (e - s = tln L) && (List.range (tln L)).all (fun k => decide (t (s + k) = spc L k))
theorem spB_t {t : Nat → Nat} {s e L : Nat} : spB t s e L = true ↔ e - s = tln L ∧ ∀ k, k < tln L → t (s + k) = spc L k := by
  unfold spB
  rw [Bool.and_eq_true, decide_eq_true_iff, List.all_eq_true]
  exact ⟨fun h => ⟨h.1, fun k hk => of_decide_eq_true (h.2 k (List.mem_range.mpr hk))⟩, fun h => ⟨h.1, fun k hk => decide_eq_true (h.2 k (List.mem_range.mp hk))⟩⟩
theorem F_isSpelt {ν : zM} {sh : Nat → Nat} {U : zCS} {r s e L : Nat} {t : Nat → Nat} (h4 : isX4 sh r) (hx : txOk ν sh) (hL : L < 18) (h9 : U.1 r 9 = J s) (h10 : U.1 r 10 = J e) (hse : s ≤ e) (he : e ≤ 600) (ht : ∀ k, k < 600 → bq (U.2.1 (r - 53) k) (t k)) : fX4_isSpelt (cmem ν sh U) r (ν.2.2 (10 + L)) = some (bJ (spB t s e L)) := by
  have h8 := tln_ok L hL
  unfold fX4_isSpelt
  rw [ck_X4 h4, zgd_t, cgr_X4_10 h4, wb1, cgr_X4_9 h4, wb1, T_length hx hL, wb1, h10, h9, J_sub hse]
  unfold spB
  by_cases c : e - s = tln L
  · rw [if_pos (congrArg J c), decide_eq_true c, Bool.true_and]
    have hst : ∀ i, i < tln L → ∀ F, fX4_isSpelt_l20 (cmem ν sh U) (ν.2.2 (10 + L)) r F (J i) = if t (s + i) = spc L i then F (J (i + 1)) else some (J 0) := by
      intro i hi F
      have hso := spc_ok L hL i hi
      unfold fX4_isSpelt_l20
      rw [T_length hx hL, wb1, if_neg (show ¬ J (tln L) ≤ J i by rw [J_le (by omega) (by omega)]; omega), cgr_X4_6 h4, wb1, cgr_X4_9 h4, wb1, h9, J_add, ca_9001 (isX4_m53 h4), zag_J (by omega) (by omega), wb1, T_charAt hx hL hi, wb1]
      have hb := bq_eq (ht (s + i) (by omega)) (c := spc L i) (by omega)
      by_cases c2 : t (s + i) = spc L i
      · rw [if_pos (hb.mpr c2), if_pos c2]
        show F (J i + J 1) = _
        rw [J_add]
      · rw [if_neg (fun z => c2 (hb.mp z)), if_neg c2]; rfl
    have hze := zf1_any (f := fX4_isSpelt_l20 (cmem ν sh U) (ν.2.2 (10 + L)) r) (tln L) (fun k => !decide (t (s + k) = spc L k)) (some (J 0)) (some (J 1)) (by omega) (fun i hi hp F => by
      rw [hst i hi F, if_pos (by simpa using hp)]) (fun i hi hp F => by
      rw [hst i hi F, if_neg (by simpa using hp)]) (fun F => by
      unfold fX4_isSpelt_l20
      rw [T_length hx hL, wb1, if_pos (show J (tln L) ≤ J (tln L) by rw [J_le (by omega) (by omega)]; omega)]; rfl)
    show zf1 _ zfu (J 0) = _
    rw [hze, any_not (List.range (tln L)) (fun k => decide (t (s + k) = spc L k))]
    cases (List.range (tln L)).all (fun k => decide (t (s + k) = spc L k)) <;> rfl
  · rw [if_neg (show ¬ J (e - s) = J (tln L) by rw [J_eq (by omega) (by omega)]; exact c), decide_eq_false c, Bool.false_and]; rfl
theorem F_spelling {μ : zM} : ∀ L, L < 18 → fX4_spelling μ (J L) = some (some (μ.2.2 (10 + L)))
  | 0, _ => by unfold fX4_spelling; rw [if_pos (show J 0 = 0 from rfl)]
  | 1, _ => by unfold fX4_spelling; rw [if_neg (show ¬ J 1 = 0 by decide), if_pos (show J 1 = 1 from rfl)]
  | 2, _ => by unfold fX4_spelling; rw [if_neg (show ¬ J 2 = 0 by decide), if_neg (show ¬ J 2 = 1 by decide), if_pos (show J 2 = 2 from rfl)]
  | 3, _ => by unfold fX4_spelling; rw [if_neg (show ¬ J 3 = 0 by decide), if_neg (show ¬ J 3 = 1 by decide), if_neg (show ¬ J 3 = 2 by decide), if_pos (show J 3 = 3 from rfl)]
  | 4, _ => by unfold fX4_spelling; rw [if_neg (show ¬ J 4 = 0 by decide), if_neg (show ¬ J 4 = 1 by decide), if_neg (show ¬ J 4 = 2 by decide), if_neg (show ¬ J 4 = 3 by decide), if_pos (show J 4 = 4 from rfl)]
  | 5, _ => by unfold fX4_spelling; rw [if_neg (show ¬ J 5 = 0 by decide), if_neg (show ¬ J 5 = 1 by decide), if_neg (show ¬ J 5 = 2 by decide), if_neg (show ¬ J 5 = 3 by decide), if_neg (show ¬ J 5 = 4 by decide), if_pos (show J 5 = 5 from rfl)]
  | 6, _ => by unfold fX4_spelling; rw [if_neg (show ¬ J 6 = 0 by decide), if_neg (show ¬ J 6 = 1 by decide), if_neg (show ¬ J 6 = 2 by decide), if_neg (show ¬ J 6 = 3 by decide), if_neg (show ¬ J 6 = 4 by decide), if_neg (show ¬ J 6 = 5 by decide), if_pos (show J 6 = 6 from rfl)]
  | 7, _ => by unfold fX4_spelling; rw [if_neg (show ¬ J 7 = 0 by decide), if_neg (show ¬ J 7 = 1 by decide), if_neg (show ¬ J 7 = 2 by decide), if_neg (show ¬ J 7 = 3 by decide), if_neg (show ¬ J 7 = 4 by decide), if_neg (show ¬ J 7 = 5 by decide), if_neg (show ¬ J 7 = 6 by decide), if_pos (show J 7 = 7 from rfl)]
  | 8, _ => by unfold fX4_spelling; rw [if_neg (show ¬ J 8 = 0 by decide), if_neg (show ¬ J 8 = 1 by decide), if_neg (show ¬ J 8 = 2 by decide), if_neg (show ¬ J 8 = 3 by decide), if_neg (show ¬ J 8 = 4 by decide), if_neg (show ¬ J 8 = 5 by decide), if_neg (show ¬ J 8 = 6 by decide), if_neg (show ¬ J 8 = 7 by decide), if_pos (show J 8 = 8 from rfl)]
  | 9, _ => by unfold fX4_spelling; rw [if_neg (show ¬ J 9 = 0 by decide), if_neg (show ¬ J 9 = 1 by decide), if_neg (show ¬ J 9 = 2 by decide), if_neg (show ¬ J 9 = 3 by decide), if_neg (show ¬ J 9 = 4 by decide), if_neg (show ¬ J 9 = 5 by decide), if_neg (show ¬ J 9 = 6 by decide), if_neg (show ¬ J 9 = 7 by decide), if_neg (show ¬ J 9 = 8 by decide), if_pos (show J 9 = 9 from rfl)]
  | 10, _ => by unfold fX4_spelling; rw [if_neg (show ¬ J 10 = 0 by decide), if_neg (show ¬ J 10 = 1 by decide), if_neg (show ¬ J 10 = 2 by decide), if_neg (show ¬ J 10 = 3 by decide), if_neg (show ¬ J 10 = 4 by decide), if_neg (show ¬ J 10 = 5 by decide), if_neg (show ¬ J 10 = 6 by decide), if_neg (show ¬ J 10 = 7 by decide), if_neg (show ¬ J 10 = 8 by decide), if_neg (show ¬ J 10 = 9 by decide), if_pos (show J 10 = 10 from rfl)]
  | 11, _ => by unfold fX4_spelling; rw [if_neg (show ¬ J 11 = 0 by decide), if_neg (show ¬ J 11 = 1 by decide), if_neg (show ¬ J 11 = 2 by decide), if_neg (show ¬ J 11 = 3 by decide), if_neg (show ¬ J 11 = 4 by decide), if_neg (show ¬ J 11 = 5 by decide), if_neg (show ¬ J 11 = 6 by decide), if_neg (show ¬ J 11 = 7 by decide), if_neg (show ¬ J 11 = 8 by decide), if_neg (show ¬ J 11 = 9 by decide), if_neg (show ¬ J 11 = 10 by decide), if_pos (show J 11 = 11 from rfl)]
  | 12, _ => by unfold fX4_spelling; rw [if_neg (show ¬ J 12 = 0 by decide), if_neg (show ¬ J 12 = 1 by decide), if_neg (show ¬ J 12 = 2 by decide), if_neg (show ¬ J 12 = 3 by decide), if_neg (show ¬ J 12 = 4 by decide), if_neg (show ¬ J 12 = 5 by decide), if_neg (show ¬ J 12 = 6 by decide), if_neg (show ¬ J 12 = 7 by decide), if_neg (show ¬ J 12 = 8 by decide), if_neg (show ¬ J 12 = 9 by decide), if_neg (show ¬ J 12 = 10 by decide), if_neg (show ¬ J 12 = 11 by decide), if_pos (show J 12 = 12 from rfl)]
  | 13, _ => by unfold fX4_spelling; rw [if_neg (show ¬ J 13 = 0 by decide), if_neg (show ¬ J 13 = 1 by decide), if_neg (show ¬ J 13 = 2 by decide), if_neg (show ¬ J 13 = 3 by decide), if_neg (show ¬ J 13 = 4 by decide), if_neg (show ¬ J 13 = 5 by decide), if_neg (show ¬ J 13 = 6 by decide), if_neg (show ¬ J 13 = 7 by decide), if_neg (show ¬ J 13 = 8 by decide), if_neg (show ¬ J 13 = 9 by decide), if_neg (show ¬ J 13 = 10 by decide), if_neg (show ¬ J 13 = 11 by decide), if_neg (show ¬ J 13 = 12 by decide), if_pos (show J 13 = 13 from rfl)]
  | 14, _ => by unfold fX4_spelling; rw [if_neg (show ¬ J 14 = 0 by decide), if_neg (show ¬ J 14 = 1 by decide), if_neg (show ¬ J 14 = 2 by decide), if_neg (show ¬ J 14 = 3 by decide), if_neg (show ¬ J 14 = 4 by decide), if_neg (show ¬ J 14 = 5 by decide), if_neg (show ¬ J 14 = 6 by decide), if_neg (show ¬ J 14 = 7 by decide), if_neg (show ¬ J 14 = 8 by decide), if_neg (show ¬ J 14 = 9 by decide), if_neg (show ¬ J 14 = 10 by decide), if_neg (show ¬ J 14 = 11 by decide), if_neg (show ¬ J 14 = 12 by decide), if_neg (show ¬ J 14 = 13 by decide), if_pos (show J 14 = 14 from rfl)]
  | 15, _ => by unfold fX4_spelling; rw [if_neg (show ¬ J 15 = 0 by decide), if_neg (show ¬ J 15 = 1 by decide), if_neg (show ¬ J 15 = 2 by decide), if_neg (show ¬ J 15 = 3 by decide), if_neg (show ¬ J 15 = 4 by decide), if_neg (show ¬ J 15 = 5 by decide), if_neg (show ¬ J 15 = 6 by decide), if_neg (show ¬ J 15 = 7 by decide), if_neg (show ¬ J 15 = 8 by decide), if_neg (show ¬ J 15 = 9 by decide), if_neg (show ¬ J 15 = 10 by decide), if_neg (show ¬ J 15 = 11 by decide), if_neg (show ¬ J 15 = 12 by decide), if_neg (show ¬ J 15 = 13 by decide), if_neg (show ¬ J 15 = 14 by decide), if_pos (show J 15 = 15 from rfl)]
  | 16, _ => by unfold fX4_spelling; rw [if_neg (show ¬ J 16 = 0 by decide), if_neg (show ¬ J 16 = 1 by decide), if_neg (show ¬ J 16 = 2 by decide), if_neg (show ¬ J 16 = 3 by decide), if_neg (show ¬ J 16 = 4 by decide), if_neg (show ¬ J 16 = 5 by decide), if_neg (show ¬ J 16 = 6 by decide), if_neg (show ¬ J 16 = 7 by decide), if_neg (show ¬ J 16 = 8 by decide), if_neg (show ¬ J 16 = 9 by decide), if_neg (show ¬ J 16 = 10 by decide), if_neg (show ¬ J 16 = 11 by decide), if_neg (show ¬ J 16 = 12 by decide), if_neg (show ¬ J 16 = 13 by decide), if_neg (show ¬ J 16 = 14 by decide), if_neg (show ¬ J 16 = 15 by decide), if_pos (show J 16 = 16 from rfl)]
  | 17, _ => by unfold fX4_spelling; rw [if_neg (show ¬ J 17 = 0 by decide), if_neg (show ¬ J 17 = 1 by decide), if_neg (show ¬ J 17 = 2 by decide), if_neg (show ¬ J 17 = 3 by decide), if_neg (show ¬ J 17 = 4 by decide), if_neg (show ¬ J 17 = 5 by decide), if_neg (show ¬ J 17 = 6 by decide), if_neg (show ¬ J 17 = 7 by decide), if_neg (show ¬ J 17 = 8 by decide), if_neg (show ¬ J 17 = 9 by decide), if_neg (show ¬ J 17 = 10 by decide), if_neg (show ¬ J 17 = 11 by decide), if_neg (show ¬ J 17 = 12 by decide), if_neg (show ¬ J 17 = 13 by decide), if_neg (show ¬ J 17 = 14 by decide), if_neg (show ¬ J 17 = 15 by decide), if_neg (show ¬ J 17 = 16 by decide)]
  | L + 18, h => absurd h (by omega)
def fS (σ : Nat) : Nat := match σ with
  | 0 => 0
  | 1 => 9
  | 2 => 14
  | 3 => 16
  | _ => 18
theorem fS_ok : ∀ σ, σ < 5 → zag 5 (fun j => (zrow 2).getD j 0) (J σ) = some (J (fS σ)) := by decide +kernel
theorem fS_le : ∀ σ, σ < 4 → fS σ ≤ fS (σ + 1) ∧ fS (σ + 1) ≤ 18 := by decide +kernel
def lwd (t : Nat → Nat) (s e σ : Nat) : Option Nat := (fstI (fun j => spB t s e (fS σ + j)) (fS (σ + 1) - fS σ)).map (fS σ + ·)
theorem F_lineWord {ν : zM} {sh : Nat → Nat} {U : zCS} {r s e k σ : Nat} {t : Nat → Nat} (h4 : isX4 sh r) (hst : stOk ν sh) (hx : txOk ν sh) (hσ : σ < 4) (hk4 : k ≤ 4) (h8 : U.1 r 8 = J k) (h9 : U.1 r 9 = J s) (h10 : U.1 r 10 = J e) (hse : s ≤ e) (he : e ≤ 600) (ht : ∀ k, k < 600 → bq (U.2.1 (r - 53) k) (t k)) : fX4_lineWord (cmem ν sh U) r (J σ) = some (if k = 1 then oJ (lwd t s e σ) else NN) := by
  unfold fX4_lineWord
  rw [ck_X4 h4, zgd_t, cgr_X4_8 h4, wb1, h8]
  by_cases c : k = 1
  · rw [if_pos (show J k = 1 by rw [c]; rfl), if_pos c, cr_2 (S1 := U) hst, fS_ok σ (by omega), wb1]
    have hfl := fS_le σ hσ
    have hstep : ∀ i, i < fS (σ + 1) - fS σ → ∀ F, fX4_lineWord_l16 (cmem ν sh U) (J σ) r F (J (fS σ + i)) = if spB t s e (fS σ + i) = true then some (J (fS σ + i)) else F (J (fS σ + (i + 1))) := by
      intro i hi F
      unfold fX4_lineWord_l16
      rw [cr_2 (S1 := U) hst, show (J σ + 1 : Int32) = J (σ + 1) from J_add σ 1, fS_ok (σ + 1) (by omega), wb1, if_neg (show ¬ J (fS (σ + 1)) ≤ J (fS σ + i) by rw [J_le (by omega) (by omega)]; omega), F_spelling (fS σ + i) (by omega), wb1, wb1, show (cmem ν sh U).2.2 (10 + (fS σ + i)) = ν.2.2 (10 + (fS σ + i)) from rfl, F_isSpelt h4 hx (by omega) h9 h10 hse he ht, wb1]
      cases hb : spB t s e (fS σ + i) with
      | true => rw [if_neg (show ¬ bJ true = 0 by decide), if_pos rfl]
      | false =>
        rw [if_pos (show bJ false = 0 from rfl), if_neg (by decide)]
        show F (J (fS σ + i) + J 1) = _
        rw [J_add]; rfl
    unfold lwd
    cases hf : fstI (fun j => spB t s e (fS σ + j)) (fS (σ + 1) - fS σ) with
    | none =>
      exact zf1_run (f := fX4_lineWord_l16 (cmem ν sh U) (J σ) r) (r := some NN) (fS (σ + 1) - fS σ) (fun j => J (fS σ + j)) (fun i hi F => by
        show fX4_lineWord_l16 (cmem ν sh U) (J σ) r F (J (fS σ + i)) = _
        rw [hstep i hi F, if_neg (by rw [fstI_n hf i hi]; decide)]) (fun F => by
        show fX4_lineWord_l16 (cmem ν sh U) (J σ) r F (J (fS σ + (fS (σ + 1) - fS σ))) = _
        unfold fX4_lineWord_l16
        rw [cr_2 (S1 := U) hst, show (J σ + 1 : Int32) = J (σ + 1) from J_add σ 1, fS_ok (σ + 1) (by omega), wb1, if_pos (show J (fS (σ + 1)) ≤ J (fS σ + (fS (σ + 1) - fS σ)) by rw [J_le (by omega) (by omega)]; omega)]; rfl) (zfu_lt (by omega))
    | some x =>
      obtain ⟨h1, h2, h3⟩ := fstI_s hf
      exact zf1_run (f := fX4_lineWord_l16 (cmem ν sh U) (J σ) r) (r := some (J (fS σ + x))) x (fun j => J (fS σ + j)) (fun i hi F => by
        show fX4_lineWord_l16 (cmem ν sh U) (J σ) r F (J (fS σ + i)) = _
        rw [hstep i (by omega) F, if_neg (by rw [h3 i hi]; decide)]) (fun F => by
        show fX4_lineWord_l16 (cmem ν sh U) (J σ) r F (J (fS σ + x)) = _
        rw [hstep x h1 F, if_pos h2]) (zfu_lt (by omega))
  · rw [if_neg (show ¬ J k = 1 by rw [show (1 : Int32) = J 1 from rfl, J_eq (by omega) (by omega)]; exact c), if_neg c]; rfl
/-! the reference's words as numbers -/
def cL (L : Nat) : Nat := enc (spc L) 0 (tln L)
theorem cL_ok : ∀ L, L < 18 → 0 < cL L ∧ cL L < 2 ^ 63 := by decide +kernel
theorem enc_inj {a b : Nat → Nat} {s r : Nat} : ∀ n m, (∀ i, i < n → 1 ≤ a (s + i) ∧ a (s + i) < 256) → (∀ i, i < m → 1 ≤ b (r + i) ∧ b (r + i) < 256) → enc a s n = enc b r m → n = m ∧ ∀ i, i < n → a (s + i) = b (r + i)
  | 0, 0, _, _, _ => ⟨rfl, fun i hi => by omega⟩
  | 0, m + 1, _, hb, h => by
    have := hb m (by omega)
    have h : 0 = 256 * enc b r m + b (r + m) := h
    omega
  | n + 1, 0, ha, _, h => by
    have := ha n (by omega)
    have h : 256 * enc a s n + a (s + n) = 0 := h
    omega
  | n + 1, m + 1, ha, hb, h => by
    have h1 := ha n (by omega)
    have h2 := hb m (by omega)
    have h : 256 * enc a s n + a (s + n) = 256 * enc b r m + b (r + m) := h
    obtain ⟨h3, h4⟩ := enc_inj n m (fun i hi => ha i (by omega)) (fun i hi => hb i (by omega)) (by omega)
    subst h3
    refine ⟨rfl, fun i hi => ?_⟩
    by_cases hin : i = n
    · subst hin; omega
    · exact h4 i (by omega)
theorem enc_c {a b : Nat → Nat} {s r : Nat} : ∀ n, (∀ i, i < n → a (s + i) = b (r + i)) → enc a s n = enc b r n
  | 0, _ => rfl
  | n + 1, h => by
    show 256 * enc a s n + a (s + n) = 256 * enc b r n + b (r + n)
    rw [enc_c n (fun i hi => h i (by omega)), h n (by omega)]
theorem enc_b {a : Nat → Nat} {s : Nat} : ∀ n, (∀ i, i < n → a (s + i) ≤ 122) → 2 * enc a s n < 256 ^ n
  | 0, _ => by show 0 < 1; omega
  | n + 1, h => by
    have h1 := enc_b n (fun i hi => h i (by omega))
    have h2 := h n (by omega)
    show 2 * (256 * enc a s n + a (s + n)) < 256 ^ (n + 1)
    rw [Nat.pow_succ]; omega
theorem Jl_inj {a b : Nat} (ha : a < 2 ^ 63) (hb : b < 2 ^ 63) (h : Jl a = Jl b) : a = b := by
  have h1 := congrArg Int64.toInt h
  unfold Jl at h1
  rw [Int64.toInt_ofNat_of_lt ha, Int64.toInt_ofNat_of_lt hb] at h1
  omega
theorem wrd_iff {t : Nat → Nat} {s e L : Nat} (hw : ∀ j, s ≤ j → j < e → isLt (t j) = true) (hL : L < 18) : wrd t s e = Jl (cL L) ↔ spB t s e L = true := by
  have h8 := tln_ok L hL
  have hc := cL_ok L hL
  have hlt : ∀ i, i < e - s → 97 ≤ t (s + i) ∧ t (s + i) ≤ 122 := fun i hi => isLt_t.mp (hw (s + i) (by omega) (by omega))
  rw [spB_t]
  constructor
  · intro h
    unfold wrd at h
    by_cases c : e - s ≤ 8
    · rw [if_pos c] at h
      have hb := enc_b (a := t) (s := s) (e - s) (fun i hi => (hlt i hi).2)
      have hp : 256 ^ (e - s) ≤ 256 ^ 8 := Nat.pow_le_pow_right (by omega) c
      have h1 := Jl_inj (by omega) hc.2 h
      obtain ⟨h2, h3⟩ := enc_inj (e - s) (tln L) (fun i hi => by have := hlt i hi; omega) (fun i hi => by have := spc_ok L hL i hi; rw [Nat.zero_add]; omega) h1
      exact ⟨h2, fun k hk => by have := h3 k (by omega); rwa [Nat.zero_add] at this⟩
    · rw [if_neg c] at h
      have := Jl_inj (a := 0) (by decide) hc.2 h
      omega
  · rintro ⟨h1, h2⟩
    unfold wrd
    rw [if_pos (by omega), h1]
    unfold cL
    rw [enc_c (b := spc L) (r := 0) (tln L) (fun i hi => by rw [Nat.zero_add]; exact h2 i hi)]
theorem lwd_s {t : Nat → Nat} {s e σ L : Nat} (hσ : σ < 4) (hw : ∀ j, s ≤ j → j < e → isLt (t j) = true) (h : lwd t s e σ = some L) : fS σ ≤ L ∧ L < fS (σ + 1) ∧ wrd t s e = Jl (cL L) := by
  have hfl := fS_le σ hσ
  unfold lwd at h
  cases hf : fstI (fun j => spB t s e (fS σ + j)) (fS (σ + 1) - fS σ) with
  | none => rw [hf] at h; cases h
  | some x =>
    rw [hf] at h
    obtain ⟨h1, h2, -⟩ := fstI_s hf
    have h3 : fS σ + x = L := Option.some.inj h
    subst h3
    exact ⟨by omega, by omega, (wrd_iff hw (by omega)).mpr h2⟩
theorem lwd_n {t : Nat → Nat} {s e σ : Nat} (hσ : σ < 4) (hw : ∀ j, s ≤ j → j < e → isLt (t j) = true) (h : lwd t s e σ = none) : ∀ L, fS σ ≤ L → L < fS (σ + 1) → wrd t s e ≠ Jl (cL L) := by
  have hfl := fS_le σ hσ
  unfold lwd at h
  cases hf : fstI (fun j => spB t s e (fS σ + j)) (fS (σ + 1) - fS σ) with
  | some x => rw [hf] at h; cases h
  | none =>
    intro L h1 h2 h3
    have h4 := (wrd_iff hw (by omega)).mp h3
    have h5 := fstI_n hf (L - fS σ) (by omega)
    rw [show fS σ + (L - fS σ) = L by omega, h4] at h5
    cases h5
theorem lg0 {x y : Int64} : (lg_cmp x y = 0) ↔ x = y := by
  unfold lg_cmp
  by_cases h1 : x > y
  · rw [if_pos h1]
    refine ⟨fun z => absurd z (by decide), fun z => ?_⟩
    subst z
    exact absurd h1 (Int64.lt_irrefl)
  · rw [if_neg h1]
    by_cases h2 : x = y
    · rw [if_pos h2]; exact ⟨fun _ => h2, fun _ => rfl⟩
    · rw [if_neg h2]; exact ⟨fun z => absurd z (by decide), fun z => absurd z h2⟩
