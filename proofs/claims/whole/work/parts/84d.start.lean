/-! the start -/
def M0 : zMS := (fun _ => 0, fun _ => 0, fun k => if k = 4 then upd (fun _ => 0) 0 (-1) else fun _ => 0)
def U0 (B : Nat) : zCS := (fun q => (zZ 1 55 (q - B)).1 q, fun _ _ => 0, fun _ => none)
theorem cz12_m (B : Nat) : cz12 B = (List.range 28).map (mdlC B M0) := rfl
theorem cz11_l {B : Nat} : (cz11 B).length = 95 := by
  rw [← czk_l (cz11_k B)]; rfl
theorem s11_0 : ∀ c ∈ s11, c ≠ 0 := by decide
theorem st_mm {sa : Nat → Nat} {base : Nat} : al (al (zm0 sa, base, sa) (cz11 base)) (cz12 (base + 95)) = mm base (zm0 sa, base + 123, sa) (shz s11 base (fun _ => 0)) (U0 base) M0 := by
  have hl : (al (zm0 sa, base, sa) (cz11 base)).2.1 = base + 95 := by
    show base + (cz11 base).length = _
    rw [cz11_l]
  have l12 : (cz12 (base + 95)).length = 28 := by rw [cz12_m, List.length_map, List.length_range]
  have hs : s11.length = 95 := rfl
  refine Eq.symm ?_
  refine al_ext ?_ ?_ ?_ ?_ rfl
  · intro q hq
    rw [hl] at hq
    by_cases c : q < base
    · rw [al_lo (show q < base from c)]
      show (if shz s11 base (fun _ => 0) q = 0 then (if base + 95 ≤ q ∧ q < base + 95 + 28 then some (mdlC (base + 95) M0 (q - (base + 95))) else zm0 sa q) else some (ccell q (shz s11 base (fun _ => 0) q) (U0 base))) = zm0 sa q
      rw [if_pos (shz_lo c), if_neg (by omega)]
    · obtain ⟨i, rfl⟩ : ∃ i, q = base + i := ⟨q - base, by omega⟩
      obtain ⟨c', h1, h2⟩ := czk_at (cz11_k base) (j := i) (by rw [cz11_l]; omega)
      rw [show (al (zm0 sa, base, sa) (cz11 base)).1 (base + i) = _ from al_in h2]
      unfold mm
      rw [cm_at (shz_at h1) (s11_0 c' (List.mem_of_getElem? h1)), Nat.zero_add]
      refine congrArg some (ccell_c ?_ rfl rfl)
      show (zZ 1 55 (base + i - base)).1 (base + i) = _
      rw [Nat.add_sub_cancel_left]
  · intro j e he
    rw [hl]
    have hj : j < 28 := by
      have := (List.getElem?_eq_some_iff.mp he).1
      rw [l12] at this; exact this
    rw [cz12_m, List.getElem?_map, List.getElem?_range hj] at he
    have he : some (mdlC (base + 95) M0 j) = some e := he
    show (if shz s11 base (fun _ => 0) (base + 95 + j) = 0 then (if base + 95 ≤ base + 95 + j ∧ base + 95 + j < base + 95 + 28 then some (mdlC (base + 95) M0 (base + 95 + j - (base + 95))) else zm0 sa (base + 95 + j)) else some (ccell (base + 95 + j) (shz s11 base (fun _ => 0) (base + 95 + j)) (U0 base))) = some e
    rw [if_pos (shz_hi (by rw [hs]; omega)), if_pos ⟨by omega, by omega⟩, Nat.add_sub_cancel_left, he]
  · intro q hq
    rw [hl, l12] at hq
    rw [al_hi (show base + (cz11 base).length ≤ q by rw [cz11_l]; omega)]
    show (if shz s11 base (fun _ => 0) q = 0 then (if base + 95 ≤ q ∧ q < base + 95 + 28 then some (mdlC (base + 95) M0 (q - (base + 95))) else zm0 sa q) else some (ccell q (shz s11 base (fun _ => 0) q) (U0 base))) = zm0 sa q
    rw [if_pos (shz_hi (by rw [hs]; omega)), if_neg (by omega)]
  · rw [hl, l12]; rfl
theorem st_ws {sa : Nat → Nat} {base : Nat} (hD : zD sa base) : WSt base (zm0 sa, base + 123, sa) (shz s11 base (fun _ => 0)) (U0 base) M0 := by
  obtain ⟨d1, d2, d3, d4⟩ := hD
  have hs : s11.length = 95 := rfl
  have hr : ∀ k, (U0 base).1 (base + 1) k = (if (1 = 1 ∧ k = 3) ∨ (1 = 55 ∧ k = 5) then -1 else 0) := fun k => by
    show (if (base + 1 - base = 1 ∧ k = 3) ∨ (base + 1 - base = 55 ∧ k = 5) then (-1 : Int32) else 0) = _
    rw [Nat.add_sub_cancel_left]
  refine ⟨⟨isX11_z, fun k hk => ⟨(d1 k hk).1, shz_lo (d1 k hk).2⟩, ⟨fun i hi => ⟨(d2 i hi).1, shz_lo (d2 i hi).2⟩, d3⟩, fun k hk => (d1 k hk).2, fun i hi => (d2 i hi).2, fun j hj => shz_hi (by rw [hs]; omega), Nat.le_refl _, fun q hq => shz_hi (by rw [hs]; have : base + 123 ≤ q := hq; omega), fun q hq => ?_⟩, ⟨fun _ => 0, fun _ => vB, fun _ => zB, fun _ => zB, fun _ => zB, fun q hq => ⟨by unfold isB; rfl, rfl⟩, ⟨0, by omega, by rw [hr]; rfl, rfl⟩, by rw [hr]; rfl, by rw [hr]; rfl, fun s hs => ⟨Nat.zero_le _, rfl, rfl⟩, fun k hk => absurd hk (Nat.not_lt_zero _), fun k hk => absurd hk (Nat.not_lt_zero _), fun k hk => absurd hk (Nat.not_lt_zero _), fun k hk => absurd hk (Nat.not_lt_zero _)⟩, fun k hk => .inl ⟨rfl, rfl⟩⟩
  by_cases c : q < base
  · rw [shz_lo c] at hq
    exact absurd hq (by decide)
  · by_cases c2 : base + 95 ≤ q
    · rw [shz_hi (by rw [hs]; exact c2)] at hq
      exact absurd hq (by decide)
    · obtain ⟨i, rfl⟩ : ∃ i, q = base + i := ⟨q - base, by omega⟩
      have hi : i < s11.length := by rw [hs]; omega
      rw [shz_at (List.getElem?_eq_getElem hi)] at hq
      have hk : ∀ i : Fin 95, s11[i.1]? = some 9003 → i.1 = 54 := by decide
      have h54 : i = 54 := hk ⟨i, by omega⟩ (by rw [← hq]; exact List.getElem?_eq_getElem hi)
      rw [h54]
/-- both objects made: the state holds -/
theorem T_start {sa : Nat → Nat} {base : Nat} (hD : zD sa base) : ∃ m4 m8, fX11_init (zm_nw (zm0 sa, base, sa) o11) base = some m4 ∧ m4.2.1 = base + 95 ∧ fX12_init (zm_nw m4 o12) m4.2.1 = some m8 ∧ WS base m8 := by
  have hl : (al (zm0 sa, base, sa) (cz11 base)).2.1 = base + 95 := by
    show base + (cz11 base).length = _
    rw [cz11_l]
  refine ⟨al (zm0 sa, base, sa) (cz11 base), al (al (zm0 sa, base, sa) (cz11 base)) (cz12 (base + 95)), ?_, hl, ?_, _, _, _, _, st_mm, st_ws hD⟩
  · rw [al_1]; exact F11 _
  · rw [al_1]
    have := F12 (al (zm0 sa, base, sa) (cz11 base))
    rw [hl] at this ⊢
    exact this
