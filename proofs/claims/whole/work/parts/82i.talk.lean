/-! the call that makes a new cell -/
theorem mm_nw {X : Nat} {ν : zM} {sh : Nat → Nat} {U : zCS} {M : zMS} (h : SHp X ν sh) (e : zE) : zm_nw (mm X ν sh U M) e = mm X (zm_nw ν e) sh U M := by
  obtain ⟨-, -, -, -, -, -, h1, h2, -⟩ := h
  refine Prod.ext (funext fun q => ?_) rfl
  show (if q = ν.2.1 then some e else if sh q = 0 then (if X + 95 ≤ q ∧ q < X + 95 + 28 then some (mdlC (X + 95) M (q - (X + 95))) else ν.1 q) else some (ccell q (sh q) U)) = (if sh q = 0 then (if X + 95 ≤ q ∧ q < X + 95 + 28 then some (mdlC (X + 95) M (q - (X + 95))) else (if q = ν.2.1 then some e else ν.1 q)) else some (ccell q (sh q) U))
  by_cases c : q = ν.2.1
  · rw [if_pos c, if_pos c, if_pos (h2 q (by omega)), if_neg (by omega)]
  · rw [if_neg c, if_neg c]
theorem SHp_nw {X : Nat} {ν : zM} {sh : Nat → Nat} (h : SHp X ν sh) (e : zE) : SHp X (zm_nw ν e) sh := by
  obtain ⟨h1, h2, h3, h4, h5, h6, h7, h8, h9⟩ := h
  refine ⟨h1, fun k hk => ⟨?_, (h2 k hk).2⟩, ⟨fun i hi => ⟨?_, (h3.1 i hi).2⟩, h3.2⟩, h4, h5, h6, ?_, fun q hq => h8 q ?_, h9⟩
  · show (if ν.2.2 k = ν.2.1 then some e else ν.1 (ν.2.2 k)) = _
    have := h4 k hk
    rw [if_neg (by omega)]; exact (h2 k hk).1
  · show (if ν.2.2 (100 + i) = ν.2.1 then some e else ν.1 (ν.2.2 (100 + i))) = _
    have := h5 i hi
    rw [if_neg (by omega)]; exact (h3.1 i hi).1
  · show X + 123 ≤ ν.2.1 + 1
    omega
  · have : ν.2.1 + 1 ≤ q := hq
    omega
theorem WSt_nw {X : Nat} {ν : zM} {sh : Nat → Nat} {U : zCS} {M : zMS} (h : WSt X ν sh U M) (e : zE) : WSt X (zm_nw ν e) sh U M := by
  refine ⟨SHp_nw h.1 e, h.2.1, fun k hk => ?_⟩
  rcases h.2.2 k hk with z | ⟨b, z1, z2, z3, z4, z5, z6, z7⟩
  · exact .inl z
  · exact .inr ⟨b, z1, z2, z3, z4, Nat.lt_succ_of_lt z5, z6, z7⟩
theorem OKc_n {R : Type} {X : Nat} {ν : zM} {sh : Nat → Nat} {U : zCS} {M : zMS} {A : Option (R × zM)} {B : zM → Option (R × zM)} {g : zMS → Option (R × zMS)} (h : WSt X ν sh U M) (e : zE) (hB : ∀ ν' m, B (mdl ν' (X + 95) m) = Option.map (zq2 (mdl ν' (X + 95))) (g m)) {v : R} {M' : zMS} (a1 : A = some (v, zm_nw (mm X ν sh U M) e)) (a2 : g M = some (v, M')) (a4 : Msame M M') : OKc X A B := by
  have h' := WSt_nw h e
  refine ⟨v, _, mdl (cmem (zm_nw ν e) sh U) (X + 95) M', a1, ?_, zm_nw ν e, sh, U, M', (mm_sw h'.1).symm, WS_q h' Ufr_r a4⟩
  rw [mm_nw h.1, mm_sw h'.1, hB, a2]; rfl
theorem T_talk {X : Nat} {ν : zM} {sh : Nat → Nat} {U : zCS} {M : zMS} (h : WSt X ν sh U M) (x1 x2 : Int32) : OKc X (fX11_talk (mm X ν sh U M) X x1 x2) (fun μ => fX12_talk μ (X + 95) x1 x2) := by
  have hX := h.1.1
  have hck : zm_ck (mm X ν sh U M) 11 X = true := ck_X11 hX
  rcases V_at h x1 with ⟨n1, n2⟩ | ⟨a, v, v1, h9, hv, hV, l1, l2, hm⟩
  · obtain ⟨M4, e1, e2⟩ := n2 (zsI M 0 (J 0)) Msame_I
    have e1 : gX12_hand (zsI M 0 0) x1 = some (0, M4) := e1
    exact OKc_q (g := fun m => gX12_talk m x1 x2) h (fun ν' m => eX12_talk) ⟨-1, U, M4, by unfold fX11_talk; rw [hck, zgd_t, n1, wb1, wmn], by unfold gX12_talk; rw [wb1, e1, wb2, if_pos rfl], Ufr_r, e2⟩
  · obtain ⟨M4, e1, e2, e3, -⟩ := hm (zsI M 0 (J 0)) Msame_I
    have hF : ∀ n, n ≤ 7 → ∃ g, fX10_fewestAnswers (mm X ν sh U M) a (J n) = some (J (fT (hvy (wwt v)) n 8 1), RM (mm X ν sh U M) g) := fun n hn => F_fewestAnswers (b := a + 3) (f := U.2.1 (a + 3)) (w := wwt v) (cgr_X9_3 h9) (cm_at (isX9_3 h9) (by decide)) (fun k hk => ⟨V_we hv hk, (v (19 + k)).2⟩) hn
    by_cases cn : x2 = NN
    · subst cn
      obtain ⟨g, hg⟩ := hF 7 (by omega)
      obtain ⟨M5, r1, r2, -⟩ := R_talkN e1 e2
      refine OKc_n (g := fun m => gX12_talk m x1 NN) h (.inl (0, 8, .inl g)) (fun ν' m => eX12_talk) ?_ r1 (Msame_t e3 r2)
      · unfold fX11_talk
        rw [hck, zgd_t, v1, wb1, wms, if_pos (show NN = -1 from rfl), show (7 : Int32) = J 7 from rfl, hg, wb2]; rfl
    · have cn' : ¬ x2 = -1 := cn
      have hi : gX12_in x2 3 7 = some (bJ (decide (¬ x2 < 3 ∧ ¬ 7 < x2))) := R_in
      have hno : ¬ (¬ x2 < 3 ∧ ¬ 7 < x2) → gX12_talk M x1 x2 = some (-1, M4) := by
        intro z
        rw [decide_eq_false z] at hi
        unfold gX12_talk
        rw [wb1, show gX12_hand (zsI M 0 0) x1 = some (1, M4) from e1, wb2, if_neg (show ¬ (1 : Int32) = 0 by decide), if_neg cn', hi, wb1, if_pos (show bJ false = 0 from rfl)]
      by_cases c3 : x2 < 3
      · exact OKc_q (g := fun m => gX12_talk m x1 x2) h (fun ν' m => eX12_talk) ⟨-1, U, M4, by unfold fX11_talk; rw [hck, zgd_t, v1, wb1, wms, if_neg cn', if_pos c3], hno (fun z => z.1 c3), Ufr_r, e3⟩
      · by_cases c7 : x2 ≤ 7
        · obtain ⟨n, hn, rfl⟩ | hx := J_all x2
          · have a3 : 3 ≤ n := by rw [show (3 : Int32) = J 3 from rfl, J_lt hn (by omega)] at c3; omega
            have a7 : n ≤ 7 := by rw [show (7 : Int32) = J 7 from rfl, J_le hn (by omega)] at c7; omega
            obtain ⟨g, hg⟩ := hF n a7
            obtain ⟨M5, r1, r2, -⟩ := R_talkT e1 e2 a3 a7
            refine OKc_n (g := fun m => gX12_talk m x1 (J n)) h (.inl (0, 8, .inl g)) (fun ν' m => eX12_talk) ?_ r1 (Msame_t e3 r2)
            · unfold fX11_talk
              rw [hck, zgd_t, v1, wb1, wms, if_neg cn', if_neg c3, if_pos c7, hg, wb2]; rfl
          · exfalso
            rw [Int32.lt_iff_toInt_lt, J_toInt (by omega)] at hx
            rw [Int32.lt_iff_toInt_lt, show (3 : Int32).toInt = 3 from rfl] at c3
            omega
        · refine OKc_q (g := fun m => gX12_talk m x1 x2) h (fun ν' m => eX12_talk) ⟨-1, U, M4, by unfold fX11_talk; rw [hck, zgd_t, v1, wb1, wms, if_neg cn', if_neg c3, if_neg c7], hno (fun z => z.2 ?_), Ufr_r, e3⟩
          rw [Int32.le_iff_toInt_le] at c7
          rw [Int32.lt_iff_toInt_lt]; omega
