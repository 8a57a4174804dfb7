/-! days, lessons, sights asked for by their numbers; the match, the talk, days drawn -/
theorem R_hasT {M : zMS} {k n : Nat} (h : M.2.2 5 k = J n) (hn : n < 1000) (hk : k < 16) (x : Int32) : (zb1 (gX12_is M (J k) x) fun v4 => zb1 (zbz v4) fun v5 => some (v5, M)) = some (bJ (inb n x), M) := by
  rw [R_isX h hn hk, wb1, zbz_b, wb1]
def isD (X : Nat) (ν : zM) (sh : Nat → Nat) (U : zCS) (M : zMS) (x : Int32) (a : Nat) (d : zV) : Prop := fX11_dayAt (mm X ν sh U M) X x = some (some a) ∧ isX2 sh a ∧ isDay U a d ∧ DOK d ∧ X < a ∧ a + 3 < X + 55 ∧ ∀ m, Msame M m → ∃ M4, gX12_hasDay m x = some (J 1, M4) ∧ Msame M M4 ∧ ∀ m', m'.1 26 = M4.1 26 → Msame M m' → isMD m' d
def noD (X : Nat) (ν : zM) (sh : Nat → Nat) (U : zCS) (M : zMS) (x : Int32) : Prop := fX11_dayAt (mm X ν sh U M) X x = some none ∧ ∀ m, Msame M m → ∃ M4, gX12_hasDay m x = some (J 0, M4) ∧ Msame M M4
theorem D_at {X : Nat} {ν : zM} {sh : Nat → Nat} {U : zCS} {M : zMS} (h : WSt X ν sh U M) (x : Int32) : noD X ν sh U M x ∨ ∃ a d, isD X ν sh U M x a d := by
  obtain ⟨hS, ⟨c, vs, ds, ls, ss, hT⟩, -⟩ := h
  have hX := hS.1
  have h7 := isX11_1 hX
  have hc := hT.2.2.2.2.1 1 (by omega)
  have hza : zm_aI (mm X ν sh U M) 0 (X + 1 + 2) 1 = some (J (c 1)) := by
    unfold mm
    rw [ca_1004 (isX7_2 h7), show (1 : Int32) = J 1 from rfl, zag_J (by omega) (by omega), hc.2.1]
  have hh : ∀ m, Msame M m → gX12_hasDay m x = some (bJ (inb (c 1) x), zsI m 26 x) := by
    intro m hm
    unfold gX12_hasDay
    rw [wb1]
    exact R_hasT (k := 1) (M := zsI m 26 x) (by rw [zsI_a, hm 5 (by omega)]; exact hc.2.2) (by omega) (by omega) x
  cases hi : inb (c 1) x with
  | true =>
    obtain ⟨k, hk, rfl⟩ := inb_t (by omega) hi
    have hk2 : k < 2 := by omega
    obtain ⟨q1, q2, q3⟩ := hT.2.2.2.2.2.2.1 k hk
    refine .inr ⟨X + 1 + 27 + 4 * k, ds k, ?_, isX7_d h7 hk2, q1, q2, by omega, by omega, fun m hm => ⟨_, (hh m hm).trans (by rw [hi]; rfl), Msame_t hm Msame_I, fun m' h26 hm' => ⟨k, hk2, by rw [h26, zsI_1], ?_⟩⟩⟩
    · unfold fX11_dayAt
      rw [show zm_ck (mm X ν sh U M) 11 X = true from ck_X11 hX, zgd_t, if_neg (show ¬ J k < 0 by rw [show (0 : Int32) = J 0 from rfl, J_lt (by omega) (by omega)]; omega), show zm_gR (mm X ν sh U M) 11 X 0 = some (X + 1) from cgr_X11_0 hX, wb1, show zm_gR (mm X ν sh U M) 7 (X + 1) 4 = some (X + 1 + 2) from cgr_X7_4 h7, wb1, hza, wb1, if_pos (show J k < J (c 1) by rw [J_lt (by omega) (by omega)]; exact hk), wb1, show zm_gR (mm X ν sh U M) 7 (X + 1) 6 = some (X + 1 + 26) from cgr_X7_6 h7, wb1, show zm_aQ (mm X ν sh U M) 5 (X + 1 + 26) (J k) = zel 4 (X + 1 + 26) (J k) from cq_9005 (isX7_26 h7), zel_J hk2, wb1, wb1]
    · unfold isMDs
      rw [hm' 7 (by omega)]
      have q3a : M.2.2 7 (242 * 0 + 121 * k) = J (ds k 0) := q3.1
      have q3b : ∀ j, j < (ds k 0 : Nat) → M.2.2 7 (242 * 0 + (121 * k + 1 + 3 * j)) = J (ds k (1 + 3 * j)) ∧ M.2.2 7 (242 * 0 + (121 * k + 1 + 3 * j + 1)) = J (ds k (2 + 3 * j)) ∧ M.2.2 7 (242 * 0 + (121 * k + 1 + 3 * j + 2)) = sec (ds k) j := q3.2
      rw [Nat.mul_zero, Nat.zero_add] at q3a
      refine ⟨q3a, fun j hj => ?_⟩
      have := q3b j hj
      rw [Nat.mul_zero, Nat.zero_add, Nat.zero_add, Nat.zero_add] at this
      exact this
  | false =>
    refine .inl ⟨?_, fun m hm => ⟨_, (hh m hm).trans (by rw [hi]; rfl), Msame_t hm Msame_I⟩⟩
    unfold fX11_dayAt
    rw [show zm_ck (mm X ν sh U M) 11 X = true from ck_X11 hX, zgd_t, show zm_gR (mm X ν sh U M) 11 X 0 = some (X + 1) from cgr_X11_0 hX, wb1, show zm_gR (mm X ν sh U M) 7 (X + 1) 4 = some (X + 1 + 2) from cgr_X7_4 h7, wb1, hza, wb1, at_no (by omega) hi, wb1]
def isLn (X : Nat) (ν : zM) (sh : Nat → Nat) (U : zCS) (M : zMS) (x : Int32) (a : Nat) (l : zV) : Prop := fX11_lessonAt (mm X ν sh U M) X x = some (some a) ∧ isX3 sh a ∧ isLe U a l ∧ LOK l ∧ ∀ m, Msame M m → ∃ M4, gX12_hasLesson m x = some (J 1, M4) ∧ Msame M M4 ∧ isML M4 l
def noLn (X : Nat) (ν : zM) (sh : Nat → Nat) (U : zCS) (M : zMS) (x : Int32) : Prop := fX11_lessonAt (mm X ν sh U M) X x = some none ∧ ∀ m, Msame M m → ∃ M4, gX12_hasLesson m x = some (J 0, M4) ∧ Msame M M4
theorem L_at {X : Nat} {ν : zM} {sh : Nat → Nat} {U : zCS} {M : zMS} (h : WSt X ν sh U M) (x : Int32) : noLn X ν sh U M x ∨ ∃ a l, isLn X ν sh U M x a l := by
  obtain ⟨hS, ⟨c, vs, ds, ls, ss, hT⟩, -⟩ := h
  have hX := hS.1
  have h7 := isX11_1 hX
  have hc := hT.2.2.2.2.1 2 (by omega)
  have hza : zm_aI (mm X ν sh U M) 0 (X + 1 + 2) 2 = some (J (c 2)) := by
    unfold mm
    rw [ca_1004 (isX7_2 h7), show (2 : Int32) = J 2 from rfl, zag_J (by omega) (by omega), hc.2.1]
  have hh : ∀ m, Msame M m → gX12_hasLesson m x = some (bJ (inb (c 2) x), zsI m 44 x) := by
    intro m hm
    unfold gX12_hasLesson
    rw [wb1]
    exact R_hasT (k := 2) (M := zsI m 44 x) (by rw [zsI_a, hm 5 (by omega)]; exact hc.2.2) (by omega) (by omega) x
  cases hi : inb (c 2) x with
  | true =>
    obtain ⟨k, hk, rfl⟩ := inb_t (by omega) hi
    have hk2 : k < 2 := by omega
    obtain ⟨q1, q2, q3⟩ := hT.2.2.2.2.2.2.2.1 k hk
    refine .inr ⟨X + 1 + 36 + 3 * k, ls k, ?_, isX7_l h7 hk2, q1, q2, fun m hm => ⟨_, (hh m hm).trans (by rw [hi]; rfl), Msame_t hm Msame_I, ⟨k, hk2, zsI_1, fun j hj => ?_⟩⟩⟩
    · unfold fX11_lessonAt
      rw [show zm_ck (mm X ν sh U M) 11 X = true from ck_X11 hX, zgd_t, if_neg (show ¬ J k < 0 by rw [show (0 : Int32) = J 0 from rfl, J_lt (by omega) (by omega)]; omega), show zm_gR (mm X ν sh U M) 11 X 0 = some (X + 1) from cgr_X11_0 hX, wb1, show zm_gR (mm X ν sh U M) 7 (X + 1) 4 = some (X + 1 + 2) from cgr_X7_4 h7, wb1, hza, wb1, if_pos (show J k < J (c 2) by rw [J_lt (by omega) (by omega)]; exact hk), wb1, show zm_gR (mm X ν sh U M) 7 (X + 1) 7 = some (X + 1 + 35) from cgr_X7_7 h7, wb1, show zm_aQ (mm X ν sh U M) 6 (X + 1 + 35) (J k) = zel 3 (X + 1 + 35) (J k) from cq_9006 (isX7_35 h7), zel_J hk2, wb1, wb1]
    · have := q3 j hj
      rw [Nat.mul_zero, Nat.zero_add] at this
      rw [zsI_a, hm 8 (by omega)]; exact this
  | false =>
    refine .inl ⟨?_, fun m hm => ⟨_, (hh m hm).trans (by rw [hi]; rfl), Msame_t hm Msame_I⟩⟩
    unfold fX11_lessonAt
    rw [show zm_ck (mm X ν sh U M) 11 X = true from ck_X11 hX, zgd_t, show zm_gR (mm X ν sh U M) 11 X 0 = some (X + 1) from cgr_X11_0 hX, wb1, show zm_gR (mm X ν sh U M) 7 (X + 1) 4 = some (X + 1 + 2) from cgr_X7_4 h7, wb1, hza, wb1, at_no (by omega) hi, wb1]
def isSg (X : Nat) (ν : zM) (sh : Nat → Nat) (U : zCS) (M : zMS) (x : Int32) (a : Nat) (s : zV) : Prop := fX11_sightAt (mm X ν sh U M) X x = some (some a) ∧ isX6 sh a ∧ isSi U a s ∧ SOK s ∧ X < a ∧ a + 4 < X + 55 ∧ ∀ m, Msame M m → ∃ M4, gX12_hasSight m x = some (J 1, M4) ∧ Msame M M4 ∧ ∀ m', m'.1 46 = M4.1 46 → Msame M m' → isMS m' s
def noSg (X : Nat) (ν : zM) (sh : Nat → Nat) (U : zCS) (M : zMS) (x : Int32) : Prop := fX11_sightAt (mm X ν sh U M) X x = some none ∧ ∀ m, Msame M m → ∃ M4, gX12_hasSight m x = some (J 0, M4) ∧ Msame M M4
theorem S_at {X : Nat} {ν : zM} {sh : Nat → Nat} {U : zCS} {M : zMS} (h : WSt X ν sh U M) (x : Int32) : noSg X ν sh U M x ∨ ∃ a s, isSg X ν sh U M x a s := by
  obtain ⟨hS, ⟨c, vs, ds, ls, ss, hT⟩, -⟩ := h
  have hX := hS.1
  have h7 := isX11_1 hX
  have hc := hT.2.2.2.2.1 3 (by omega)
  have hza : zm_aI (mm X ν sh U M) 0 (X + 1 + 2) 3 = some (J (c 3)) := by
    unfold mm
    rw [ca_1004 (isX7_2 h7), show (3 : Int32) = J 3 from rfl, zag_J (by omega) (by omega), hc.2.1]
  have hh : ∀ m, Msame M m → gX12_hasSight m x = some (bJ (inb (c 3) x), zsI m 46 x) := by
    intro m hm
    unfold gX12_hasSight
    rw [wb1]
    exact R_hasT (k := 3) (M := zsI m 46 x) (by rw [zsI_a, hm 5 (by omega)]; exact hc.2.2) (by omega) (by omega) x
  cases hi : inb (c 3) x with
  | true =>
    obtain ⟨k, hk, rfl⟩ := inb_t (by omega) hi
    have hk2 : k < 2 := by omega
    obtain ⟨q1, q2, q3⟩ := hT.2.2.2.2.2.2.2.2 k hk
    refine .inr ⟨X + 1 + 43 + 5 * k, ss k, ?_, isX7_s h7 hk2, q1, q2, by omega, by omega, fun m hm => ⟨_, (hh m hm).trans (by rw [hi]; rfl), Msame_t hm Msame_I, fun m' h46 hm' => ⟨k, hk2, by rw [h46, zsI_1], ?_, fun i hi j hj => ?_⟩⟩⟩
    · unfold fX11_sightAt
      rw [show zm_ck (mm X ν sh U M) 11 X = true from ck_X11 hX, zgd_t, if_neg (show ¬ J k < 0 by rw [show (0 : Int32) = J 0 from rfl, J_lt (by omega) (by omega)]; omega), show zm_gR (mm X ν sh U M) 11 X 0 = some (X + 1) from cgr_X11_0 hX, wb1, show zm_gR (mm X ν sh U M) 7 (X + 1) 4 = some (X + 1 + 2) from cgr_X7_4 h7, wb1, hza, wb1, if_pos (show J k < J (c 3) by rw [J_lt (by omega) (by omega)]; exact hk), wb1, show zm_gR (mm X ν sh U M) 7 (X + 1) 8 = some (X + 1 + 42) from cgr_X7_8 h7, wb1, show zm_aQ (mm X ν sh U M) 7 (X + 1 + 42) (J k) = zel 5 (X + 1 + 42) (J k) from cq_9007 (isX7_42 h7), zel_J hk2, wb1, wb1]
    · have := q3 0 (by omega)
      rw [Nat.mul_zero, Nat.zero_add, Nat.add_zero] at this
      rw [hm' 9 (by omega)]; exact this
    · have h8 := q2.1
      have := q3 (1 + 4 * i + j) (by omega)
      rw [Nat.mul_zero, Nat.zero_add] at this
      rw [hm' 9 (by omega), show 33 * k + 1 + 4 * i + j = 33 * k + (1 + 4 * i + j) by omega]; exact this
  | false =>
    refine .inl ⟨?_, fun m hm => ⟨_, (hh m hm).trans (by rw [hi]; rfl), Msame_t hm Msame_I⟩⟩
    unfold fX11_sightAt
    rw [show zm_ck (mm X ν sh U M) 11 X = true from ck_X11 hX, zgd_t, show zm_gR (mm X ν sh U M) 11 X 0 = some (X + 1) from cgr_X11_0 hX, wb1, show zm_gR (mm X ν sh U M) 7 (X + 1) 4 = some (X + 1 + 2) from cgr_X7_4 h7, wb1, hza, wb1, at_no (by omega) hi, wb1]
/-! deeds, lessons, facts told -/
theorem T_deed {X : Nat} {ν : zM} {sh : Nat → Nat} {U : zCS} {M : zMS} (h : WSt X ν sh U M) (x1 x2 x3 : Int32) : OKq X (mm X ν sh U M) (fX11_deed (mm X ν sh U M) X x1 x2 x3) (fun μ => fX12_deed μ (X + 95) x1 x2 x3) := by
  refine OKq_q (g := fun m => gX12_deed m x1 x2 x3) h (fun ν' m => eX12_deed) ?_
  have hX := h.1.1
  have hck : zm_ck (mm X ν sh U M) 11 X = true := ck_X11 hX
  rcases D_at h x1 with ⟨n1, n2⟩ | ⟨a, d, v1, h2, hd, hD, l1, l2, hm⟩
  · obtain ⟨M4, e1, e2⟩ := n2 (zsI M 0 (J 0)) Msame_I
    have e1 : gX12_hasDay (zsI M 0 0) x1 = some (0, M4) := e1
    exact ⟨-2, M4, by unfold fX11_deed; rw [hck, zgd_t, n1, wb1, wmn, wb1], by unfold gX12_deed; rw [wb1, e1, wb2, if_pos rfl], e2⟩
  · obtain ⟨M4, e1, e2, e3⟩ := hm (zsI M 0 (J 0)) Msame_I
    unfold mm at v1 hck ⊢
    exact ⟨tld d x2 x3, M4, by unfold fX11_deed; rw [hck, zgd_t, v1, wb1, wms, eX2_tell h2, C_tellD hd hD, wb1, wb1], R_deedT e1 (e3 M4 rfl e2) hD x2 x3, e2⟩
theorem T_fact {X : Nat} {ν : zM} {sh : Nat → Nat} {U : zCS} {M : zMS} (h : WSt X ν sh U M) (x1 x2 x3 : Int32) : OKq X (mm X ν sh U M) (fX11_fact (mm X ν sh U M) X x1 x2 x3) (fun μ => fX12_fact μ (X + 95) x1 x2 x3) := by
  refine OKq_q (g := fun m => gX12_fact m x1 x2 x3) h (fun ν' m => eX12_fact) ?_
  have hX := h.1.1
  have hck : zm_ck (mm X ν sh U M) 11 X = true := ck_X11 hX
  rcases S_at h x1 with ⟨n1, n2⟩ | ⟨a, s, v1, h6, hs, hS, l1, l2, hm⟩
  · obtain ⟨M4, e1, e2⟩ := n2 (zsI M 0 (J 0)) Msame_I
    have e1 : gX12_hasSight (zsI M 0 0) x1 = some (0, M4) := e1
    exact ⟨-2, M4, by unfold fX11_fact; rw [hck, zgd_t, n1, wb1, wmn, wb1], by unfold gX12_fact; rw [wb1, e1, wb2, if_pos rfl], e2⟩
  · obtain ⟨M4, e1, e2, e3⟩ := hm (zsI M 0 (J 0)) Msame_I
    unfold mm at v1 hck ⊢
    exact ⟨tlf s x2 x3, M4, by unfold fX11_fact; rw [hck, zgd_t, v1, wb1, wms, eX6_tell h6, C_tellF hs hS, wb1, wb1], R_factT e1 (e3 M4 rfl e2) hS x2 x3, e2⟩
theorem T_lesson {X : Nat} {ν : zM} {sh : Nat → Nat} {U : zCS} {M : zMS} (h : WSt X ν sh U M) (x1 x2 : Int32) : OKq X (mm X ν sh U M) (fX11_lesson (mm X ν sh U M) X x1 x2) (fun μ => fX12_lesson μ (X + 95) x1 x2) := by
  refine OKq_q (g := fun m => gX12_lesson m x1 x2) h (fun ν' m => eX12_lesson) ?_
  have hX := h.1.1
  have hck : zm_ck (mm X ν sh U M) 11 X = true := ck_X11 hX
  rcases L_at h x1 with ⟨n1, n2⟩ | ⟨a, l, v1, h3, hl, hL, hm⟩
  · obtain ⟨M4, e1, e2⟩ := n2 (zsI M 0 (J 0)) Msame_I
    have e1 : gX12_hasLesson (zsI M 0 0) x1 = some (0, M4) := e1
    exact ⟨-1, M4, by unfold fX11_lesson; rw [hck, zgd_t, n1, wb1, wmn, wb1], by unfold gX12_lesson; rw [wb1, e1, wb2, if_pos rfl], e2⟩
  · obtain ⟨M4, e1, e2, e3⟩ := hm (zsI M 0 (J 0)) Msame_I
    unfold mm at v1 hck ⊢
    obtain ⟨k, hk, rfl⟩ | hx := J_all x2
    · exact ⟨tll l k, M4, by unfold fX11_lesson; rw [hck, zgd_t, v1, wb1, wms, eX3_tell h3, C_tellL hl hL hk, wb1, wb1], R_lessonT e1 e3 hL hk, e2⟩
    · exact ⟨NN, M4, by unfold fX11_lesson; rw [hck, zgd_t, v1, wb1, wms, eX3_tell h3, C_tellLn hx, wb1, wb1], R_lessonN e1 hx, e2⟩
