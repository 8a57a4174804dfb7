/-! a text is kept, both sides -/
theorem max_J {a b : Nat} (ha : a < 1000) (hb : b < 1000) : (if J a < J b then J b else J a : Int32) = J (max a b) := by
  by_cases h : a < b
  · rw [if_pos ((J_lt (by omega) (by omega)).mpr h), show max a b = b by omega]
  · rw [if_neg (fun z => h ((J_lt (by omega) (by omega)).mp z)), show max a b = a by omega]
def updc (c : Nat → Nat) (σ x : Nat) : Nat → Nat := fun s => if s = σ then x else c s
theorem updc_1 {c : Nat → Nat} {σ x : Nat} : updc c σ x σ = x := if_pos rfl
theorem updc_o {c : Nat → Nat} {σ x s : Nat} (h : s ≠ σ) : updc c σ x s = c s := if_neg h
def updv (c : Nat → zV) (σ : Nat) (x : zV) : Nat → zV := fun s => if s = σ then x else c s
theorem updv_1 {c : Nat → zV} {σ : Nat} {x : zV} : updv c σ x σ = x := if_pos rfl
theorem updv_o {c : Nat → zV} {σ s : Nat} {x : zV} (h : s ≠ σ) : updv c σ x s = c s := if_neg h
/-- the class's place of a text: where it lies in what is told, where in the reader, how wide -/
def plA (σ k : Nat) : Nat := match σ with
  | 0 => 4 + 11 * k
  | 1 => 27 + 4 * k
  | 2 => 36 + 3 * k
  | _ => 43 + 5 * k
def plW (σ : Nat) : Nat := match σ with
  | 0 => 10
  | 1 => 3
  | 2 => 2
  | _ => 4
/-- counts and the rest, when one sort's slot k has been written -/
theorem TRc_k {U U1 U' : zCS} {a : Nat} {M M1 : zMS} {c : Nat → Nat} {vs ds ls ss : Nat → zV} {σ k : Nat} (h : TRc U a M 0 c vs ds ls ss) (hσ : σ < 4) (hk : k < 2) (hkc : k ≤ c σ) (hF : Ufr U U1 (fun q => a + plA σ k ≤ q ∧ q ≤ a + plA σ k + plW σ)) (hU' : U' = csA U1 (a + 2) (upd (U1.2.1 (a + 2)) σ (J (max (c σ) (k + 1))))) (h5 : M1.2.2 5 = upd (M.2.2 5) σ (J (max (c σ) (k + 1)))) (hM : ∀ j, (1 ≤ j ∧ j ≤ 4) → M1.2.2 j = M.2.2 j)
    (hn : ∀ τ, τ < 4 → τ ≠ σ → M1.2.2 (6 + τ) = M.2.2 (6 + τ)) :
    Ufr U U' (fun q => a ≤ q ∧ q ≤ a + 52) ∧ Ufr U1 U' (fun q => q = a + 2) ∧ tpR U' a M1 0 ∧ (∃ n, n ≤ 600 ∧ U'.1 a 1 = J n ∧ M1.2.2 2 0 = J n) ∧ M1.2.2 3 0 = U'.1 a 2 ∧ M1.2.2 4 0 = U'.1 a 3 ∧ (∀ s, s < 4 → updc c σ (max (c σ) (k + 1)) s ≤ 2 ∧ U'.2.1 (a + 2) s = J (updc c σ (max (c σ) (k + 1)) s) ∧ M1.2.2 5 (4 * 0 + s) = J (updc c σ (max (c σ) (k + 1)) s)) ∧
    (σ ≠ 0 → ∀ k, k < c 0 → isVal U' (a + 4 + 11 * k) (vs k) ∧ VOK (vs k) ∧ ∀ j, j < 57 → M1.2.2 6 (114 * 0 + (57 * k + j)) = J (vs k j)) ∧ (σ ≠ 1 → ∀ k, k < c 1 → isDay U' (a + 27 + 4 * k) (ds k) ∧ DOK (ds k) ∧ rDy (fun q => M1.2.2 7 (242 * 0 + q)) (121 * k) (ds k)) ∧ (σ ≠ 2 → ∀ k, k < c 2 → isLe U' (a + 36 + 3 * k) (ls k) ∧ LOK (ls k) ∧ ∀ j, j < 22 → M1.2.2 8 (44 * 0 + (22 * k + j)) = J (ls k j)) ∧ (σ ≠ 3 → ∀ k, k < c 3 → isSi U' (a + 43 + 5 * k) (ss k) ∧ SOK (ss k) ∧ ∀ j, j < 33 → M1.2.2 9 (66 * 0 + (33 * k + j)) = J (ss k j)) := by
  obtain ⟨h1, ⟨n, h2, h3, h4⟩, h6, h7, h8, h9, h10, h11, h12⟩ := h
  have c0 := (h8 0 (by omega)).1
  have c1 := (h8 1 (by omega)).1
  have c2 := (h8 2 (by omega)).1
  have c3 := (h8 3 (by omega)).1
  have hcs := (h8 σ hσ).1
  have hpl : 3 ≤ plA σ k ∧ plA σ k + plW σ ≤ 52 := by
    match σ, hσ with
    | 0, _ => show 3 ≤ 4 + 11 * k ∧ 4 + 11 * k + 10 ≤ 52; omega
    | 1, _ => show 3 ≤ 27 + 4 * k ∧ 27 + 4 * k + 3 ≤ 52; omega
    | 2, _ => show 3 ≤ 36 + 3 * k ∧ 36 + 3 * k + 2 ≤ 52; omega
    | 3, _ => show 3 ≤ 43 + 5 * k ∧ 43 + 5 * k + 4 ≤ 52; omega
  have f1 : Ufr U1 U' (fun q => q = a + 2) := by rw [hU']; exact Ufr_A rfl
  have f0 : ∀ q, ¬ (a + plA σ k ≤ q ∧ q ≤ a + plA σ k + plW σ) → q ≠ a + 2 → U'.1 q = U.1 q ∧ U'.2.1 q = U.2.1 q := fun q z1 z2 => ⟨(f1.1 q z2).1.trans (hF.1 q z1).1, (f1.1 q z2).2.trans (hF.1 q z1).2⟩
  have fall : Ufr U U' (fun q => (a + plA σ k ≤ q ∧ q ≤ a + plA σ k + plW σ) ∨ q = a + 2) := ⟨fun q hq => f0 q (fun z => hq (.inl z)) (fun z => hq (.inr z)), f1.2.trans hF.2⟩
  have hs2 : U1.2.1 (a + 2) = U.2.1 (a + 2) := (hF.1 (a + 2) (by omega)).2
  refine ⟨Ufr_m fall (fun q hq => by omega), f1, fun q hq => ?_, ⟨n, h2, by rw [(f0 a (by omega) (by omega)).1]; exact h3, by rw [hM 2 (by omega)]; exact h4⟩, by rw [hM 3 (by omega), (f0 a (by omega) (by omega)).1]; exact h6, by rw [hM 4 (by omega), (f0 a (by omega) (by omega)).1]; exact h7, fun s hs => ?_, fun z q hq => ?_, fun z q hq => ?_, fun z q hq => ?_, fun z q hq => ?_⟩
  · rw [hM 1 (by omega), (f0 (a + 1) (by omega) (by omega)).2]; exact h1 q hq
  · have hss := h8 s hs
    rw [hU', csA_1, hs2, h5, Nat.mul_zero, Nat.zero_add]
    rw [Nat.mul_zero, Nat.zero_add] at hss
    by_cases e : s = σ
    · subst e
      rw [upd_1, upd_1, updc_1]
      exact ⟨by omega, rfl, rfl⟩
    · rw [upd_o e, upd_o e, updc_o e]; exact hss
  · obtain ⟨x1, x2, x3⟩ := h9 q hq
    have hd : ∀ j, j ≤ 10 → ¬ ((a + plA σ k ≤ a + 4 + 11 * q + j ∧ a + 4 + 11 * q + j ≤ a + plA σ k + plW σ) ∨ a + 4 + 11 * q + j = a + 2) := by
      intro j hj
      match σ, hσ, z with
      | 0, _, z => exact absurd rfl z
      | 1, _, _ => show ¬ ((a + (27 + 4 * k) ≤ _ ∧ _ ≤ a + (27 + 4 * k) + 3) ∨ _); omega
      | 2, _, _ => show ¬ ((a + (36 + 3 * k) ≤ _ ∧ _ ≤ a + (36 + 3 * k) + 2) ∨ _); omega
      | 3, _, _ => show ¬ ((a + (43 + 5 * k) ≤ _ ∧ _ ≤ a + (43 + 5 * k) + 4) ∨ _); omega
    exact ⟨isVal_F fall hd x1, x2, fun j hj => by rw [hn 0 (by omega) (fun y => z y.symm)]; exact x3 j hj⟩
  · obtain ⟨x1, x2, x3⟩ := h10 q hq
    have hd : ∀ j, j ≤ 3 → ¬ ((a + plA σ k ≤ a + 27 + 4 * q + j ∧ a + 27 + 4 * q + j ≤ a + plA σ k + plW σ) ∨ a + 27 + 4 * q + j = a + 2) := by
      intro j hj
      match σ, hσ, z with
      | 1, _, z => exact absurd rfl z
      | 0, _, _ => show ¬ ((a + (4 + 11 * k) ≤ _ ∧ _ ≤ a + (4 + 11 * k) + 10) ∨ _); omega
      | 2, _, _ => show ¬ ((a + (36 + 3 * k) ≤ _ ∧ _ ≤ a + (36 + 3 * k) + 2) ∨ _); omega
      | 3, _, _ => show ¬ ((a + (43 + 5 * k) ≤ _ ∧ _ ≤ a + (43 + 5 * k) + 4) ∨ _); omega
    exact ⟨isDay_F fall hd x1, x2, by rw [hn 1 (by omega) (fun y => z y.symm)]; exact x3⟩
  · obtain ⟨x1, x2, x3⟩ := h11 q hq
    have hd : ∀ j, j ≤ 2 → ¬ ((a + plA σ k ≤ a + 36 + 3 * q + j ∧ a + 36 + 3 * q + j ≤ a + plA σ k + plW σ) ∨ a + 36 + 3 * q + j = a + 2) := by
      intro j hj
      match σ, hσ, z with
      | 2, _, z => exact absurd rfl z
      | 0, _, _ => show ¬ ((a + (4 + 11 * k) ≤ _ ∧ _ ≤ a + (4 + 11 * k) + 10) ∨ _); omega
      | 1, _, _ => show ¬ ((a + (27 + 4 * k) ≤ _ ∧ _ ≤ a + (27 + 4 * k) + 3) ∨ _); omega
      | 3, _, _ => show ¬ ((a + (43 + 5 * k) ≤ _ ∧ _ ≤ a + (43 + 5 * k) + 4) ∨ _); omega
    exact ⟨isLe_F fall hd x1, x2, fun j hj => by rw [hn 2 (by omega) (fun y => z y.symm)]; exact x3 j hj⟩
  · obtain ⟨x1, x2, x3⟩ := h12 q hq
    have hd : ∀ j, j ≤ 4 → ¬ ((a + plA σ k ≤ a + 43 + 5 * q + j ∧ a + 43 + 5 * q + j ≤ a + plA σ k + plW σ) ∨ a + 43 + 5 * q + j = a + 2) := by
      intro j hj
      match σ, hσ, z with
      | 3, _, z => exact absurd rfl z
      | 0, _, _ => show ¬ ((a + (4 + 11 * k) ≤ _ ∧ _ ≤ a + (4 + 11 * k) + 10) ∨ _); omega
      | 1, _, _ => show ¬ ((a + (27 + 4 * k) ≤ _ ∧ _ ≤ a + (27 + 4 * k) + 3) ∨ _); omega
      | 2, _, _ => show ¬ ((a + (36 + 3 * k) ≤ _ ∧ _ ≤ a + (36 + 3 * k) + 2) ∨ _); omega
    exact ⟨isSi_F fall hd x1, x2, fun j hj => by rw [hn 3 (by omega) (fun y => z y.symm)]; exact x3 j hj⟩
theorem MC_k {M M1 : zMS} {σ x : Nat} (hσ : σ < 4) {y : Nat} (hy : 1 ≤ y) (h5 : M1.2.2 5 = upd (M.2.2 5) σ (J x)) (hM : ∀ j, (1 ≤ j ∧ j ≤ 4) → M1.2.2 j = M.2.2 j) (h6 : ∀ q, 114 ≤ q → M1.2.2 6 q = M.2.2 6 q) (h7 : ∀ q, 242 ≤ q → M1.2.2 7 q = M.2.2 7 q) (h8 : ∀ q, 44 ≤ q → M1.2.2 8 q = M.2.2 8 q) (h9 : ∀ q, 66 ≤ q → M1.2.2 9 q = M.2.2 9 q) : MC M y M1 y :=
  ⟨fun k _ => by rw [hM 1 (by omega)], by rw [hM 2 (by omega)], by rw [hM 3 (by omega)], by rw [hM 4 (by omega)], fun k hk => by rw [h5, upd_o (by omega)], fun k hk => h6 _ (by omega), fun k hk => h7 _ (by omega), fun k hk => h8 _ (by omega), fun k hk => h9 _ (by omega)⟩
theorem J_keep {ν : zM} {sh : Nat → Nat} {U : zCS} {M : zMS} {a r σ k : Nat} {c : Nat → Nat} {vs ds ls ss : Nat → zV} (ha : isX7 sh a) (h4 : isX4 sh r) (har : a + 52 < r) (hσ : σ < 4) (hk : k < 2) (hkc : k ≤ c σ) (hT : TRc U a M 0 c vs ds ls ss) (hD : DRf σ U M r) :
    ∃ U' M', fX7_keep (cmem ν sh U) a (J σ) (J k) r = some (cmem ν sh U') ∧ gX12_storeAll (zsA M 5 (upd (M.2.2 5) σ (J (max (c σ) (k + 1))))) (J σ) (J k) = some M' ∧ TR U' a M' 0 ∧ Ufr U U' (fun q => a ≤ q ∧ q ≤ a + 52) ∧ (∀ y, 1 ≤ y → MC M y M' y) ∧ (∀ j, 10 ≤ j → M'.2.2 j = M.2.2 j) ∧ M'.1 = M.1 := by
  have hcs := hT.2.2.2.2.1 σ hσ
  obtain ⟨m0, hm0⟩ : ∃ m, m = zsA M 5 (upd (M.2.2 5) σ (J (max (c σ) (k + 1)))) := ⟨_, rfl⟩
  rw [← hm0]
  have g5 : m0.2.2 5 = upd (M.2.2 5) σ (J (max (c σ) (k + 1))) := by rw [hm0, zsA_1]
  have go : ∀ j, j ≠ 5 → m0.2.2 j = M.2.2 j := fun j hj => by rw [hm0, zsA_o hj]
  have htail : ∀ U1 : zCS, Ufr U U1 (fun q => a + plA σ k ≤ q ∧ q ≤ a + plA σ k + plW σ) → 3 ≤ plA σ k → (zb1 (zm_gR (cmem ν sh U1) 7 a 4) fun v3 => zb1 (zm_gR (cmem ν sh U1) 7 a 4) fun v5 => zb1 (zm_aI (cmem ν sh U1) 0 v5 (J σ)) fun v7 => zb1 (zm_sI (cmem ν sh U1) 0 v3 (J σ) (if v7 < (J k + 1) then (J k + 1) else v7 : Int32)) fun m9 => some m9) = some (cmem ν sh (csA U1 (a + 2) (upd (U1.2.1 (a + 2)) σ (J (max (c σ) (k + 1)))))) := by
    intro U1 hF hpl
    rw [cgr_X7_4 ha, wb1, wb1, ca_1004 (isX7_2 ha), zag_J hσ (by omega), wb1, (hF.1 (a + 2) (by omega)).2, hcs.2.1, show (J k + 1 : Int32) = J (k + 1) from J_add k 1, max_J (by omega) (by omega), csr_1004 (isX7_2 ha), zas_J hσ (by omega), zmap_some, wb1, (hF.1 (a + 2) (by omega)).2]
  match σ, hσ, hkc, hD, hcs, g5, htail with
  | 0, hσ, hkc, ⟨v, v1, v2, v3⟩, hcs, g5, htail =>
    obtain ⟨U1, e1, e2⟩ := C_cpV (U := U) (a := r + 1) (b := a + 4 + 11 * k) (fun j hj => by omega)
    have hF : Ufr U U1 (fun q => a + plA 0 k ≤ q ∧ q ≤ a + plA 0 k + plW 0) := Ufr_m e2.1 (fun q hq => by show a + (4 + 11 * k) ≤ q ∧ q ≤ a + (4 + 11 * k) + 10; omega)
    obtain ⟨M', s1, s2, s3, s4, s5, s6⟩ := R_store (M := m0) (x0 := 6) (n := 57) (k := k) (by omega) (show 57 * k + 57 ≤ 456 by omega) (show 456 < 100000 by omega) (by omega)
    have q5 : M'.2.2 5 = upd (M.2.2 5) 0 (J (max (c 0) (k + 1))) := by rw [s4 5 (by omega), g5]
    have qM : ∀ j, (1 ≤ j ∧ j ≤ 4) → M'.2.2 j = M.2.2 j := fun j hj => by rw [s4 j (by omega), go j (by omega)]
    obtain ⟨t1, t2, t3, t4, t5, t6, t7, t8, t9, t10, t11⟩ := TRc_k (U1 := U1) (M1 := M') hT hσ hk hkc hF rfl q5 qM (fun τ h1 h2 => by rw [s4 (6 + τ) (by omega), go (6 + τ) (by omega)])
    refine ⟨_, M', ?_, ?_, ⟨updc c 0 (max (c 0) (k + 1)), updv vs k v, ds, ls, ss, t3, t4, t5, t6, t7, fun q hq => ?_, fun q hq => t9 (by omega) q (by rw [updc_o (by omega)] at hq; exact hq), fun q hq => t10 (by omega) q (by rw [updc_o (by omega)] at hq; exact hq), fun q hq => t11 (by omega) q (by rw [updc_o (by omega)] at hq; exact hq)⟩, t1, fun y hy => MC_k hσ hy q5 qM (fun q hq => by rw [s6 q (by omega), go 6 (by omega)]) (fun q hq => by rw [s4 7 (by omega), go 7 (by omega)]) (fun q hq => by rw [s4 8 (by omega), go 8 (by omega)]) (fun q hq => by rw [s4 9 (by omega), go 9 (by omega)]), fun j hj => by rw [s4 j (by omega), go j (by omega)], by rw [s2, hm0]; rfl⟩
    · unfold fX7_keep
      rw [ck_X7 ha, zgd_t, if_pos (show J 0 = 0 from rfl), cgr_X7_5 ha, wb1, cq_9004 (isX7_3 ha), zel_J hk, wb1, cgr_X4_0 h4, wb1, wb1, eX9_copyFrom (isX7_v ha hk) (isX4_1 h4), show gX9_copyFrom U (a + 3 + 1 + 11 * k) (r + 1) = some U1 from e1, zmap_some, wb1, wc1]
      exact htail U1 hF (show 3 ≤ 4 + 11 * k by omega)
    · unfold gX12_storeAll
      rw [if_pos (show J 0 = 0 from rfl), show gX12_store m0 6 57 (J k) = some M' from s1, wb1]
    · by_cases hqk : q = k
      · subst hqk
        rw [updv_1]
        refine ⟨isVal_F t2 (fun j hj z => by omega) (isVal_C v3 v2 (CPi_C e2)), v3, fun j hj => ?_⟩
        rw [Nat.mul_zero, Nat.zero_add, s5 j hj, go 19 (by omega)]; exact v1 j hj
      · rw [updv_o hqk]
        rw [updc_1] at hq
        obtain ⟨x1, x2, x3⟩ := hT.2.2.2.2.2.1 q (by omega)
        refine ⟨isVal_F t2 (fun j hj z => by omega) (isVal_F e2.1 (fun j hj z => by omega) x1), x2, fun j hj => ?_⟩
        have := x3 j hj
        rw [Nat.mul_zero, Nat.zero_add] at this ⊢
        rw [s6 _ (by omega), go 6 (by omega)]; exact this
  | 1, hσ, hkc, ⟨d, v1, v2, v3⟩, hcs, g5, htail =>
    obtain ⟨U1, e1, e2⟩ := C_cpD (U := U) (a := r + 12) (b := a + 27 + 4 * k) (fun j hj => by omega)
    have hF : Ufr U U1 (fun q => a + plA 1 k ≤ q ∧ q ≤ a + plA 1 k + plW 1) := Ufr_m e2.1 (fun q hq => by show a + (27 + 4 * k) ≤ q ∧ q ≤ a + (27 + 4 * k) + 3; omega)
    obtain ⟨M', s1, s2, s3, s4, s5, s6⟩ := R_store (M := m0) (x0 := 7) (n := 121) (k := k) (by omega) (show 121 * k + 121 ≤ 968 by omega) (show 968 < 100000 by omega) (by omega)
    have q5 : M'.2.2 5 = upd (M.2.2 5) 1 (J (max (c 1) (k + 1))) := by rw [s4 5 (by omega), g5]
    have qM : ∀ j, (1 ≤ j ∧ j ≤ 4) → M'.2.2 j = M.2.2 j := fun j hj => by rw [s4 j (by omega), go j (by omega)]
    obtain ⟨t1, t2, t3, t4, t5, t6, t7, t8, t9, t10, t11⟩ := TRc_k (U1 := U1) (M1 := M') hT hσ hk hkc hF rfl q5 qM (fun τ h1 h2 => by rw [s4 (6 + τ) (by omega), go (6 + τ) (by omega)])
    have hd40 := v3.1
    refine ⟨_, M', ?_, ?_, ⟨updc c 1 (max (c 1) (k + 1)), vs, updv ds k d, ls, ss, t3, t4, t5, t6, t7, fun q hq => t8 (by omega) q (by rw [updc_o (by omega)] at hq; exact hq), fun q hq => ?_, fun q hq => t10 (by omega) q (by rw [updc_o (by omega)] at hq; exact hq), fun q hq => t11 (by omega) q (by rw [updc_o (by omega)] at hq; exact hq)⟩, t1, fun y hy => MC_k hσ hy q5 qM (fun q hq => by rw [s4 6 (by omega), go 6 (by omega)]) (fun q hq => by rw [s6 q (by omega), go 7 (by omega)]) (fun q hq => by rw [s4 8 (by omega), go 8 (by omega)]) (fun q hq => by rw [s4 9 (by omega), go 9 (by omega)]), fun j hj => by rw [s4 j (by omega), go j (by omega)], by rw [s2, hm0]; rfl⟩
    · unfold fX7_keep
      rw [ck_X7 ha, zgd_t, if_neg (show ¬ J 1 = 0 by decide), if_pos (show J 1 = 1 from rfl), cgr_X7_6 ha, wb1, cq_9005 (isX7_26 ha), zel_J hk, wb1, cgr_X4_1 h4, wb1, wb1, eX2_copyFrom (isX7_d ha hk) (isX4_12 h4), show gX2_copyFrom U (a + 26 + 1 + 4 * k) (r + 12) = some U1 from e1, zmap_some, wb1, wc1]
      exact htail U1 hF (show 3 ≤ 27 + 4 * k by omega)
    · unfold gX12_storeAll
      rw [if_neg (show ¬ J 1 = 0 by decide), if_pos (show J 1 = 1 from rfl), show gX12_store m0 7 121 (J k) = some M' from s1, wb1]
    · by_cases hqk : q = k
      · subst hqk
        rw [updv_1]
        refine ⟨isDay_F t2 (fun j hj z => by omega) (isDay_C v3 v2 (CPi_C e2)), v3, ?_, fun j hj => ?_⟩
        · show M'.2.2 7 (242 * 0 + 121 * q) = _
          have := s5 0 (by omega)
          rw [Nat.add_zero] at this
          rw [Nat.mul_zero, Nat.zero_add, this, go 19 (by omega)]; exact v1.1
        · show M'.2.2 7 (242 * 0 + (121 * q + 1 + 3 * j)) = _ ∧ M'.2.2 7 (242 * 0 + (121 * q + 1 + 3 * j + 1)) = _ ∧ M'.2.2 7 (242 * 0 + (121 * q + 1 + 3 * j + 2)) = _
          have w1 := s5 (1 + 3 * j) (by omega)
          have w2 := s5 (2 + 3 * j) (by omega)
          have w3 := s5 (3 + 3 * j) (by omega)
          rw [go 19 (by omega)] at w1 w2 w3
          have hj2 := v1.2 j hj
          rw [← w1, ← w2, ← w3] at hj2
          rw [show 242 * 0 + (121 * q + 1 + 3 * j) = 121 * q + (1 + 3 * j) by omega, show 242 * 0 + (121 * q + 1 + 3 * j + 1) = 121 * q + (2 + 3 * j) by omega, show 242 * 0 + (121 * q + 1 + 3 * j + 2) = 121 * q + (3 + 3 * j) by omega]
          exact hj2
      · rw [updv_o hqk]
        rw [updc_1] at hq
        obtain ⟨x1, x2, x3⟩ := hT.2.2.2.2.2.2.1 q (by omega)
        have hx40 := x2.1
        refine ⟨isDay_F t2 (fun j hj z => by omega) (isDay_F e2.1 (fun j hj z => by omega) x1), x2, ?_, fun j hj => ?_⟩
        · show M'.2.2 7 (242 * 0 + 121 * q) = _
          rw [s6 _ (by omega), go 7 (by omega)]; exact x3.1
        · show M'.2.2 7 (242 * 0 + (121 * q + 1 + 3 * j)) = _ ∧ M'.2.2 7 (242 * 0 + (121 * q + 1 + 3 * j + 1)) = _ ∧ M'.2.2 7 (242 * 0 + (121 * q + 1 + 3 * j + 2)) = _
          rw [s6 _ (by omega), s6 _ (by omega), s6 _ (by omega), go 7 (by omega)]; exact x3.2 j hj
  | 2, hσ, hkc, ⟨l, v1, v2, v3⟩, hcs, g5, htail =>
    obtain ⟨U1, e1, e2⟩ := C_cpL (U := U) (a := r + 16) (b := a + 36 + 3 * k) (fun j hj => by omega)
    have hF : Ufr U U1 (fun q => a + plA 2 k ≤ q ∧ q ≤ a + plA 2 k + plW 2) := Ufr_m e2.1 (fun q hq => by show a + (36 + 3 * k) ≤ q ∧ q ≤ a + (36 + 3 * k) + 2; omega)
    obtain ⟨M', s1, s2, s3, s4, s5, s6⟩ := R_store (M := m0) (x0 := 8) (n := 22) (k := k) (by omega) (show 22 * k + 22 ≤ 176 by omega) (show 176 < 100000 by omega) (by omega)
    have q5 : M'.2.2 5 = upd (M.2.2 5) 2 (J (max (c 2) (k + 1))) := by rw [s4 5 (by omega), g5]
    have qM : ∀ j, (1 ≤ j ∧ j ≤ 4) → M'.2.2 j = M.2.2 j := fun j hj => by rw [s4 j (by omega), go j (by omega)]
    obtain ⟨t1, t2, t3, t4, t5, t6, t7, t8, t9, t10, t11⟩ := TRc_k (U1 := U1) (M1 := M') hT hσ hk hkc hF rfl q5 qM (fun τ h1 h2 => by rw [s4 (6 + τ) (by omega), go (6 + τ) (by omega)])
    refine ⟨_, M', ?_, ?_, ⟨updc c 2 (max (c 2) (k + 1)), vs, ds, updv ls k l, ss, t3, t4, t5, t6, t7, fun q hq => t8 (by omega) q (by rw [updc_o (by omega)] at hq; exact hq), fun q hq => t9 (by omega) q (by rw [updc_o (by omega)] at hq; exact hq), fun q hq => ?_, fun q hq => t11 (by omega) q (by rw [updc_o (by omega)] at hq; exact hq)⟩, t1, fun y hy => MC_k hσ hy q5 qM (fun q hq => by rw [s4 6 (by omega), go 6 (by omega)]) (fun q hq => by rw [s4 7 (by omega), go 7 (by omega)]) (fun q hq => by rw [s6 q (by omega), go 8 (by omega)]) (fun q hq => by rw [s4 9 (by omega), go 9 (by omega)]), fun j hj => by rw [s4 j (by omega), go j (by omega)], by rw [s2, hm0]; rfl⟩
    · unfold fX7_keep
      rw [ck_X7 ha, zgd_t, if_neg (show ¬ J 2 = 0 by decide), if_neg (show ¬ J 2 = 1 by decide), if_pos (show J 2 = 2 from rfl), cgr_X7_7 ha, wb1, cq_9006 (isX7_35 ha), zel_J hk, wb1, cgr_X4_2 h4, wb1, wb1, eX3_copyFrom (isX7_l ha hk) (isX4_16 h4), show gX3_copyFrom U (a + 35 + 1 + 3 * k) (r + 16) = some U1 from e1, zmap_some, wb1, wc1]
      exact htail U1 hF (show 3 ≤ 36 + 3 * k by omega)
    · unfold gX12_storeAll
      rw [if_neg (show ¬ J 2 = 0 by decide), if_neg (show ¬ J 2 = 1 by decide), if_pos (show J 2 = 2 from rfl), show gX12_store m0 8 22 (J k) = some M' from s1, wb1]
    · by_cases hqk : q = k
      · subst hqk
        rw [updv_1]
        refine ⟨isLe_F t2 (fun j hj z => by omega) (isLe_C v3 v2 (CPi_C e2)), v3, fun j hj => ?_⟩
        rw [Nat.mul_zero, Nat.zero_add, s5 j hj, go 19 (by omega)]; exact v1 j hj
      · rw [updv_o hqk]
        rw [updc_1] at hq
        obtain ⟨x1, x2, x3⟩ := hT.2.2.2.2.2.2.2.1 q (by omega)
        refine ⟨isLe_F t2 (fun j hj z => by omega) (isLe_F e2.1 (fun j hj z => by omega) x1), x2, fun j hj => ?_⟩
        have := x3 j hj
        rw [Nat.mul_zero, Nat.zero_add] at this ⊢
        rw [s6 _ (by omega), go 8 (by omega)]; exact this
  | 3, hσ, hkc, ⟨s, v1, v2, v3⟩, hcs, g5, htail =>
    obtain ⟨U1, e1, e2⟩ := C_cpS (U := U) (a := r + 19) (b := a + 43 + 5 * k) (fun j hj => by omega)
    have hF : Ufr U U1 (fun q => a + plA 3 k ≤ q ∧ q ≤ a + plA 3 k + plW 3) := Ufr_m e2.1 (fun q hq => by show a + (43 + 5 * k) ≤ q ∧ q ≤ a + (43 + 5 * k) + 4; omega)
    obtain ⟨M', s1, s2, s3, s4, s5, s6⟩ := R_store (M := m0) (x0 := 9) (n := 33) (k := k) (by omega) (show 33 * k + 33 ≤ 264 by omega) (show 264 < 100000 by omega) (by omega)
    have q5 : M'.2.2 5 = upd (M.2.2 5) 3 (J (max (c 3) (k + 1))) := by rw [s4 5 (by omega), g5]
    have qM : ∀ j, (1 ≤ j ∧ j ≤ 4) → M'.2.2 j = M.2.2 j := fun j hj => by rw [s4 j (by omega), go j (by omega)]
    obtain ⟨t1, t2, t3, t4, t5, t6, t7, t8, t9, t10, t11⟩ := TRc_k (U1 := U1) (M1 := M') hT hσ hk hkc hF rfl q5 qM (fun τ h1 h2 => by rw [s4 (6 + τ) (by omega), go (6 + τ) (by omega)])
    refine ⟨_, M', ?_, ?_, ⟨updc c 3 (max (c 3) (k + 1)), vs, ds, ls, updv ss k s, t3, t4, t5, t6, t7, fun q hq => t8 (by omega) q (by rw [updc_o (by omega)] at hq; exact hq), fun q hq => t9 (by omega) q (by rw [updc_o (by omega)] at hq; exact hq), fun q hq => t10 (by omega) q (by rw [updc_o (by omega)] at hq; exact hq), fun q hq => ?_⟩, t1, fun y hy => MC_k hσ hy q5 qM (fun q hq => by rw [s4 6 (by omega), go 6 (by omega)]) (fun q hq => by rw [s4 7 (by omega), go 7 (by omega)]) (fun q hq => by rw [s4 8 (by omega), go 8 (by omega)]) (fun q hq => by rw [s6 q (by omega), go 9 (by omega)]), fun j hj => by rw [s4 j (by omega), go j (by omega)], by rw [s2, hm0]; rfl⟩
    · unfold fX7_keep
      rw [ck_X7 ha, zgd_t, if_neg (show ¬ J 3 = 0 by decide), if_neg (show ¬ J 3 = 1 by decide), if_neg (show ¬ J 3 = 2 by decide), cgr_X7_8 ha, wb1, cq_9007 (isX7_42 ha), zel_J hk, wb1, cgr_X4_3 h4, wb1, wb1, eX6_copyFrom (isX7_s ha hk) (isX4_19 h4), show gX6_copyFrom U (a + 42 + 1 + 5 * k) (r + 19) = some U1 from e1, zmap_some, wb1, wc1]
      exact htail U1 hF (show 3 ≤ 43 + 5 * k by omega)
    · unfold gX12_storeAll
      rw [if_neg (show ¬ J 3 = 0 by decide), if_neg (show ¬ J 3 = 1 by decide), if_neg (show ¬ J 3 = 2 by decide), show gX12_store m0 9 33 (J k) = some M' from s1, wb1]
    · by_cases hqk : q = k
      · subst hqk
        rw [updv_1]
        refine ⟨isSi_F t2 (fun j hj z => by omega) (isSi_C v3 v2 (CPi_C e2)), v3, fun j hj => ?_⟩
        rw [Nat.mul_zero, Nat.zero_add, s5 j hj, go 19 (by omega)]; exact v1 j hj
      · rw [updv_o hqk]
        rw [updc_1] at hq
        obtain ⟨x1, x2, x3⟩ := hT.2.2.2.2.2.2.2.2 q (by omega)
        refine ⟨isSi_F t2 (fun j hj z => by omega) (isSi_F e2.1 (fun j hj z => by omega) x1), x2, fun j hj => ?_⟩
        have := x3 j hj
        rw [Nat.mul_zero, Nat.zero_add] at this ⊢
        rw [s6 _ (by omega), go 9 (by omega)]; exact this
