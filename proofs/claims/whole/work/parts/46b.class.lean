noncomputable def gX1_draw_l13 (x3 : Int32) (x0 : Nat) (x1 : Nat) (F7 : Int32 → zCS → Option (zCS)) (x4_5 : Int32) (m6 : zCS) : Option (zCS) :=
  if x3 ≤ x4_5 then (
  some m6)
  else (
  zb2 (gX1_below m6 x0 (m6.1 x1 4)) fun v15 U14 =>
  zb2 (gX1_below U14 x0 (Int32.ofNat 6)) fun v20 U19 =>
  zb1 (zag 6 (fun j => (zrow 1).getD j 0) v20) fun v21 =>
  zc1 (if v21 = 4 then (
  zb2 (gX1_below U19 x0 9) fun v37 U36 =>
  zb2 (gX1_perform U36 x0 x1 4 (1 + v37) (-1)) fun v40 U39 =>
  some U39)
  else (
  zb1 (if v21 = 3 then (
  some ((U19.1 x1 0) + 1))
  else (
  some 8) : Option (Int32)) fun (s25 : Int32) =>
  zb2 (gX1_below U19 x0 s25) fun v29 U28 =>
  zb2 (gX1_perform U28 x0 x1 v21 v15 v29) fun v32 U31 =>
  some U31) : Option (zCS)) fun (m23 : zCS) =>
  F7 (x4_5 + 1) m23)
noncomputable def gX1_draw (U : zCS) (x0 : Nat) (x1 : Nat) (x2 : Int32) (x3 : Int32) : Option (zCS) :=
  zb1 (gX1_begin U x0 x1) fun U2 =>
  zb1 (some (csI U2 x0 2 x2)) fun U3 =>
  zb1 (zf2 (gX1_draw_l13 x3 x0 x1) zfu 0 U3 : Option (zCS)) fun (m9 : zCS) =>
  some m9
set_option maxRecDepth 100000 in
theorem eX1_draw_l13 {ν : zM} {sh : Nat → Nat} {x3 : Int32} {x1 : Nat} {x0 : Nat} {x4_5 : Int32} {m6 : zCS} (h0 : isX1 sh x0) (h1 : isX9 sh x1) (hst : stOk ν sh)  (n : Nat) : zf2 (fX1_draw_l13 x3 x1 x0) n x4_5 (cmem ν sh m6) = Option.map (cmem ν sh) (zf2 (gX1_draw_l13 x3 x0 x1) n x4_5 m6) := by
  refine zf2_m (fun F7 G7 hF7 x4_5 m6 => ?_) n x4_5 m6
  simp only [fX1_draw_l13, gX1_draw_l13, zgd_t, zmap_ite, zmap_some, zmap_none, zmap_zb0, zmap_zni, zq2_k, zq3_k, zq4_k, zq5_k, zzc1_some, zzc2_some, zzc3_some, zzc4_some, zzc5_some, zzc6_some, zzb1_q, zzb2_q, zzb3_q, zzb4_q, zzb5_q, zzc1_q, zzc2_q, zzc3_q, zzc4_q, zzc5_q, zmap_zb1, zmap_zb2, zmap_zb3, zmap_zb4, zmap_zb5, zmap_zb6, zzc1_ite, zzc2_ite, zzc3_ite, zzc4_ite, zmap_zc1, zmap_zc2, zmap_zc3, zmap_zc4, zzc1_zb0, zzc1_zb1, zzc1_zb2, zzc1_zb3, zzc1_zb4, zzc2_zb0, zzc2_zb1, zzc2_zb2, zzc2_zb3, zzc2_zb4, zzc3_zb0, zzc3_zb1, zzc3_zb2, zzc3_zb3, zzc3_zb4, zzc4_zb0, zzc4_zb1, zzc4_zb2, zzc4_zb3, zzc4_zb4, (eX1_begin (h0 := h0) (h1 := h1)), (eX1_below (h0 := h0)), (eX1_perform (h0 := h0) (h1 := h1) (hst := hst)), cg_X9_0 h1, cg_X9_4 h1, cp_X1_2 h0, cr_1 hst, crl_1 hst, ck_X1 h0, hF7]
set_option maxRecDepth 100000 in
theorem eX1_draw {ν : zM} {sh : Nat → Nat} {U : zCS} {x0 : Nat} {x1 : Nat} {x2 : Int32} {x3 : Int32} (h0 : isX1 sh x0) (h1 : isX9 sh x1) (hst : stOk ν sh) : fX1_draw (cmem ν sh U) x0 x1 x2 x3 = Option.map (cmem ν sh) (gX1_draw U x0 x1 x2 x3) := by simp only [fX1_draw, gX1_draw, zgd_t, zmap_ite, zmap_some, zmap_none, zmap_zb0, zmap_zni, zq2_k, zq3_k, zq4_k, zq5_k, zzc1_some, zzc2_some, zzc3_some, zzc4_some, zzc5_some, zzc6_some, zzb1_q, zzb2_q, zzb3_q, zzb4_q, zzb5_q, zzc1_q, zzc2_q, zzc3_q, zzc4_q, zzc5_q, zmap_zb1, zmap_zb2, zmap_zb3, zmap_zb4, zmap_zb5, zmap_zb6, zzc1_ite, zzc2_ite, zzc3_ite, zzc4_ite, zmap_zc1, zmap_zc2, zmap_zc3, zmap_zc4, zzc1_zb0, zzc1_zb1, zzc1_zb2, zzc1_zb3, zzc1_zb4, zzc2_zb0, zzc2_zb1, zzc2_zb2, zzc2_zb3, zzc2_zb4, zzc3_zb0, zzc3_zb1, zzc3_zb2, zzc3_zb3, zzc3_zb4, zzc4_zb0, zzc4_zb1, zzc4_zb2, zzc4_zb3, zzc4_zb4, (eX1_begin (h0 := h0) (h1 := h1)), (eX1_below (h0 := h0)), (eX1_perform (h0 := h0) (h1 := h1) (hst := hst)), cg_X9_0 h1, cg_X9_4 h1, cp_X1_2 h0, cr_1 hst, crl_1 hst, ck_X1 h0, (eX1_draw_l13 (h0 := h0) (h1 := h1) (hst := hst))]
noncomputable def gX1_isClash (U : zCS) (x0 : Nat) (x1 : Int32) (x2 : Int32) : Option (Int32) :=
  zb1 (zag 600 (U.2.1 (x0 + 2)) ((x1 * 100) + x2)) fun v3 =>
  zb1 (gJ6_bitCount_0f7a4 v3) fun v6 =>
  zb1 (if v6 ≤ 1 then (
  some 0)
  else (
  some 1) : Option (Int32)) fun (s7 : Int32) =>
  zb1 (zbz s7) fun v9 =>
  some v9
set_option maxRecDepth 100000 in
theorem eX1_isClash {ν : zM} {sh : Nat → Nat} {U : zCS} {x0 : Nat} {x1 : Int32} {x2 : Int32} (h0 : isX1 sh x0) : fX1_isClash (cmem ν sh U) x0 x1 x2 = gX1_isClash U x0 x1 x2 := by simp only [fX1_isClash, gX1_isClash, zgd_t, zmap_ite, zmap_some, zmap_none, zmap_zb0, zmap_zni, zq2_k, zq3_k, zq4_k, zq5_k, zzb1_q, zzb2_q, zzb3_q, zzb4_q, zzb5_q, zmap_zb1, zmap_zb2, zmap_zb3, zmap_zb4, zmap_zb5, zmap_zb6, zmap_zc1, zmap_zc2, zmap_zc3, zmap_zc4, ca_1600 (isX1_2 h0), cg_X1_4 h0, eJ6_bitCount_0f7a4, ck_X1 h0]
noncomputable def gX1_clashes_l15 (U : zCS) (x0 : Nat) (x3_2 : Int32) (F11 : Int32 → Int32 → Option (Int32)) (x2_9 : Int32) (x4_10 : Int32) : Option (Int32) :=
  if (U.1 x0 0) < x4_10 then (
  some x2_9)
  else (
  zb1 (gX1_isClash U x0 x3_2 x4_10) fun v18 =>
  zb1 (if v18 = 0 then (
  some x2_9)
  else (
  some (x2_9 + 1)) : Option (Int32)) fun (x2_19 : Int32) =>
  F11 x2_19 (x4_10 + 1))
noncomputable def gX1_clashes_l4 (U : zCS) (x1 : Nat) (x0 : Nat) (F3 : Int32 → Int32 → Option (Int32)) (x2_1 : Int32) (x3_2 : Int32) : Option (Int32) :=
  if (U.1 x1 4) ≤ x3_2 then (
  some x2_1)
  else (
  zb1 (zf2 (gX1_clashes_l15 U x0 x3_2) zfu x2_1 0 : Option (Int32)) fun (x2_13 : Int32) =>
  F3 x2_13 (x3_2 + 1))
noncomputable def gX1_clashes (U : zCS) (x0 : Nat) (x1 : Nat) : Option (Int32) :=
  zb1 (zf2 (gX1_clashes_l4 U x1 x0) zfu 0 0 : Option (Int32)) fun (x2_5 : Int32) =>
  some x2_5
set_option maxRecDepth 100000 in
theorem eX1_clashes_l15 {ν : zM} {sh : Nat → Nat} {U : zCS} {x0 : Nat} {x3_2 : Int32} {x2_9 : Int32} {x4_10 : Int32} {x1 : Nat} (h0 : isX1 sh x0) (h1 : isX9 sh x1)  (n : Nat) : zf2 (fX1_clashes_l15 (cmem ν sh U) x0 x3_2) n x2_9 x4_10 = zf2 (gX1_clashes_l15 U x0 x3_2) n x2_9 x4_10 := by
  refine zf2_c (fun F11 G11 hF11 x2_9 x4_10 => ?_) n x2_9 x4_10
  simp only [fX1_clashes_l15, gX1_clashes_l15, zgd_t, zmap_ite, zmap_some, zmap_none, zmap_zb0, zmap_zni, zq2_k, zq3_k, zq4_k, zq5_k, zzb1_q, zzb2_q, zzb3_q, zzb4_q, zzb5_q, zmap_zb1, zmap_zb2, zmap_zb3, zmap_zb4, zmap_zb5, zmap_zb6, zmap_zc1, zmap_zc2, zmap_zc3, zmap_zc4, (eX1_isClash (h0 := h0)), cg_X1_0 h0, cg_X9_4 h1, ck_X1 h0, hF11]
set_option maxRecDepth 100000 in
theorem eX1_clashes_l4 {ν : zM} {sh : Nat → Nat} {U : zCS} {x1 : Nat} {x0 : Nat} {x2_1 : Int32} {x3_2 : Int32} (h0 : isX1 sh x0) (h1 : isX9 sh x1)  (n : Nat) : zf2 (fX1_clashes_l4 (cmem ν sh U) x1 x0) n x2_1 x3_2 = zf2 (gX1_clashes_l4 U x1 x0) n x2_1 x3_2 := by
  refine zf2_c (fun F3 G3 hF3 x2_1 x3_2 => ?_) n x2_1 x3_2
  simp only [fX1_clashes_l4, gX1_clashes_l4, zgd_t, zmap_ite, zmap_some, zmap_none, zmap_zb0, zmap_zni, zq2_k, zq3_k, zq4_k, zq5_k, zzb1_q, zzb2_q, zzb3_q, zzb4_q, zzb5_q, zmap_zb1, zmap_zb2, zmap_zb3, zmap_zb4, zmap_zb5, zmap_zb6, zmap_zc1, zmap_zc2, zmap_zc3, zmap_zc4, (eX1_isClash (h0 := h0)), cg_X1_0 h0, cg_X9_4 h1, ck_X1 h0, (eX1_clashes_l15 (h0 := h0) (h1 := h1)), hF3]
set_option maxRecDepth 100000 in
theorem eX1_clashes {ν : zM} {sh : Nat → Nat} {U : zCS} {x0 : Nat} {x1 : Nat} (h0 : isX1 sh x0) (h1 : isX9 sh x1) : fX1_clashes (cmem ν sh U) x0 x1 = gX1_clashes U x0 x1 := by simp only [fX1_clashes, gX1_clashes, zgd_t, zmap_ite, zmap_some, zmap_none, zmap_zb0, zmap_zni, zq2_k, zq3_k, zq4_k, zq5_k, zzb1_q, zzb2_q, zzb3_q, zzb4_q, zzb5_q, zmap_zb1, zmap_zb2, zmap_zb3, zmap_zb4, zmap_zb5, zmap_zb6, zmap_zc1, zmap_zc2, zmap_zc3, zmap_zc4, (eX1_isClash (h0 := h0)), cg_X1_0 h0, cg_X9_4 h1, ck_X1 h0, (eX1_clashes_l15 (h0 := h0) (h1 := h1)), (eX1_clashes_l4 (h0 := h0) (h1 := h1))]
noncomputable def gX1_firstClash_l13 (U : zCS) (x1 : Nat) (F2 : Int32 → Option (Int32)) (x3_1 : Int32) (x0 : Nat) (x2 : Int32) (F7 : Int32 → Option (Int32)) (x4_6 : Int32) : Option (Int32) :=
  if (U.1 x1 4) ≤ x4_6 then (
  F2 (x3_1 + 1))
  else (
  zb1 (gX1_isClash U x0 x4_6 x3_1) fun v12 =>
  if v12 = 0 then (
  F7 (x4_6 + 1))
  else (
  zb1 (if x2 = 0 then (
  some x4_6)
  else (
  some x3_1) : Option (Int32)) fun (s13 : Int32) =>
  some s13))
noncomputable def gX1_firstClash_l2 (U : zCS) (x0 : Nat) (x1 : Nat) (x2 : Int32) (F2 : Int32 → Option (Int32)) (x3_1 : Int32) : Option (Int32) :=
  if (U.1 x0 0) < x3_1 then (
  some (-1))
  else (
  zf1 (gX1_firstClash_l13 U x1 F2 x3_1 x0 x2) zfu 0)
noncomputable def gX1_firstClash (U : zCS) (x0 : Nat) (x1 : Nat) (x2 : Int32) : Option (Int32) :=
  zf1 (gX1_firstClash_l2 U x0 x1 x2) zfu 0
set_option maxRecDepth 100000 in
theorem eX1_firstClash_l13 {ν : zM} {sh : Nat → Nat} {U : zCS} {x1 : Nat} {x3_1 : Int32} {x0 : Nat} {x2 : Int32} {x4_6 : Int32} (h0 : isX1 sh x0) (h1 : isX9 sh x1) {F2 : Int32 → Option (Int32)} {G2 : Int32 → Option (Int32)} (hF2 : ∀ (x3_1 : Int32), F2 x3_1 = G2 x3_1) (n : Nat) : zf1 (fX1_firstClash_l13 (cmem ν sh U) x1 F2 x3_1 x0 x2) n x4_6 = zf1 (gX1_firstClash_l13 U x1 G2 x3_1 x0 x2) n x4_6 := by
  refine zf1_c (fun F7 G7 hF7 x4_6 => ?_) n x4_6
  simp only [fX1_firstClash_l13, gX1_firstClash_l13, zgd_t, zmap_ite, zmap_some, zmap_none, zmap_zb0, zmap_zni, zq2_k, zq3_k, zq4_k, zq5_k, zzb1_q, zzb2_q, zzb3_q, zzb4_q, zzb5_q, zmap_zb1, zmap_zb2, zmap_zb3, zmap_zb4, zmap_zb5, zmap_zb6, zmap_zc1, zmap_zc2, zmap_zc3, zmap_zc4, (eX1_isClash (h0 := h0)), cg_X1_0 h0, cg_X9_4 h1, ck_X1 h0, hF2, hF7]
set_option maxRecDepth 100000 in
theorem eX1_firstClash_l2 {ν : zM} {sh : Nat → Nat} {U : zCS} {x0 : Nat} {x1 : Nat} {x2 : Int32} {x3_1 : Int32} (h0 : isX1 sh x0) (h1 : isX9 sh x1)  (n : Nat) : zf1 (fX1_firstClash_l2 (cmem ν sh U) x0 x1 x2) n x3_1 = zf1 (gX1_firstClash_l2 U x0 x1 x2) n x3_1 := by
  refine zf1_c (fun F2 G2 hF2 x3_1 => ?_) n x3_1
  simp only [fX1_firstClash_l2, gX1_firstClash_l2, zgd_t, zmap_ite, zmap_some, zmap_none, zmap_zb0, zmap_zni, zq2_k, zq3_k, zq4_k, zq5_k, zzb1_q, zzb2_q, zzb3_q, zzb4_q, zzb5_q, zmap_zb1, zmap_zb2, zmap_zb3, zmap_zb4, zmap_zb5, zmap_zb6, zmap_zc1, zmap_zc2, zmap_zc3, zmap_zc4, (eX1_isClash (h0 := h0)), cg_X1_0 h0, cg_X9_4 h1, ck_X1 h0, (eX1_firstClash_l13 (h0 := h0) (h1 := h1) (hF2 := hF2)), hF2]
set_option maxRecDepth 100000 in
theorem eX1_firstClash {ν : zM} {sh : Nat → Nat} {U : zCS} {x0 : Nat} {x1 : Nat} {x2 : Int32} (h0 : isX1 sh x0) (h1 : isX9 sh x1) : fX1_firstClash (cmem ν sh U) x0 x1 x2 = gX1_firstClash U x0 x1 x2 := by simp only [fX1_firstClash, gX1_firstClash, zgd_t, zmap_ite, zmap_some, zmap_none, zmap_zb0, zmap_zni, zq2_k, zq3_k, zq4_k, zq5_k, zzb1_q, zzb2_q, zzb3_q, zzb4_q, zzb5_q, zmap_zb1, zmap_zb2, zmap_zb3, zmap_zb4, zmap_zb5, zmap_zb6, zmap_zc1, zmap_zc2, zmap_zc3, zmap_zc4, (eX1_isClash (h0 := h0)), cg_X1_0 h0, cg_X9_4 h1, ck_X1 h0, (eX1_firstClash_l2 (h0 := h0) (h1 := h1))]
noncomputable def gX1_wordsHeard_l4 (U : zCS) (x0 : Nat) (x1 : Int32) (F3 : Int32 → Int32 → Option (Int32)) (x2_1 : Int32) (x3_2 : Int32) : Option (Int32) :=
  if (U.1 x0 0) < x3_2 then (
  some x2_1)
  else (
  zb1 (zag 600 (U.2.1 (x0 + 2)) ((x1 * 100) + x3_2)) fun v11 =>
  F3 (x2_1 ||| v11) (x3_2 + 1))
noncomputable def gX1_wordsHeard (U : zCS) (x0 : Nat) (x1 : Int32) : Option (Int32) :=
  zb1 (zf2 (gX1_wordsHeard_l4 U x0 x1) zfu 0 0 : Option (Int32)) fun (x2_5 : Int32) =>
  some x2_5
set_option maxRecDepth 100000 in
theorem eX1_wordsHeard_l4 {ν : zM} {sh : Nat → Nat} {U : zCS} {x0 : Nat} {x1 : Int32} {x2_1 : Int32} {x3_2 : Int32} (h0 : isX1 sh x0)  (n : Nat) : zf2 (fX1_wordsHeard_l4 (cmem ν sh U) x0 x1) n x2_1 x3_2 = zf2 (gX1_wordsHeard_l4 U x0 x1) n x2_1 x3_2 := by
  refine zf2_c (fun F3 G3 hF3 x2_1 x3_2 => ?_) n x2_1 x3_2
  simp only [fX1_wordsHeard_l4, gX1_wordsHeard_l4, zgd_t, zmap_ite, zmap_some, zmap_none, zmap_zb0, zmap_zni, zq2_k, zq3_k, zq4_k, zq5_k, zzb1_q, zzb2_q, zzb3_q, zzb4_q, zzb5_q, zmap_zb1, zmap_zb2, zmap_zb3, zmap_zb4, zmap_zb5, zmap_zb6, zmap_zc1, zmap_zc2, zmap_zc3, zmap_zc4, ca_1600 (isX1_2 h0), cg_X1_0 h0, cg_X1_4 h0, ck_X1 h0, hF3]
set_option maxRecDepth 100000 in
theorem eX1_wordsHeard {ν : zM} {sh : Nat → Nat} {U : zCS} {x0 : Nat} {x1 : Int32} (h0 : isX1 sh x0) : fX1_wordsHeard (cmem ν sh U) x0 x1 = gX1_wordsHeard U x0 x1 := by simp only [fX1_wordsHeard, gX1_wordsHeard, zgd_t, zmap_ite, zmap_some, zmap_none, zmap_zb0, zmap_zni, zq2_k, zq3_k, zq4_k, zq5_k, zzb1_q, zzb2_q, zzb3_q, zzb4_q, zzb5_q, zmap_zb1, zmap_zb2, zmap_zb3, zmap_zb4, zmap_zb5, zmap_zb6, zmap_zc1, zmap_zc2, zmap_zc3, zmap_zc4, ca_1600 (isX1_2 h0), cg_X1_0 h0, cg_X1_4 h0, ck_X1 h0, (eX1_wordsHeard_l4 (h0 := h0))]
noncomputable def gX1_howOften_l4 (U : zCS) (x0 : Nat) (x1 : Int32) (F3 : Int32 → Int32 → Option (Int32)) (x2_1 : Int32) (x3_2 : Int32) : Option (Int32) :=
  if (U.1 x0 0) < x3_2 then (
  some x2_1)
  else (
  zb1 (zag 600 (U.2.1 (x0 + 3)) ((x1 * 100) + x3_2)) fun v11 =>
  F3 (x2_1 + v11) (x3_2 + 1))
noncomputable def gX1_howOften (U : zCS) (x0 : Nat) (x1 : Int32) : Option (Int32) :=
  zb1 (zf2 (gX1_howOften_l4 U x0 x1) zfu 0 0 : Option (Int32)) fun (x2_5 : Int32) =>
  some x2_5
set_option maxRecDepth 100000 in
theorem eX1_howOften_l4 {ν : zM} {sh : Nat → Nat} {U : zCS} {x0 : Nat} {x1 : Int32} {x2_1 : Int32} {x3_2 : Int32} (h0 : isX1 sh x0)  (n : Nat) : zf2 (fX1_howOften_l4 (cmem ν sh U) x0 x1) n x2_1 x3_2 = zf2 (gX1_howOften_l4 U x0 x1) n x2_1 x3_2 := by
  refine zf2_c (fun F3 G3 hF3 x2_1 x3_2 => ?_) n x2_1 x3_2
  simp only [fX1_howOften_l4, gX1_howOften_l4, zgd_t, zmap_ite, zmap_some, zmap_none, zmap_zb0, zmap_zni, zq2_k, zq3_k, zq4_k, zq5_k, zzb1_q, zzb2_q, zzb3_q, zzb4_q, zzb5_q, zmap_zb1, zmap_zb2, zmap_zb3, zmap_zb4, zmap_zb5, zmap_zb6, zmap_zc1, zmap_zc2, zmap_zc3, zmap_zc4, ca_1600 (isX1_3 h0), cg_X1_0 h0, cg_X1_5 h0, ck_X1 h0, hF3]
set_option maxRecDepth 100000 in
theorem eX1_howOften {ν : zM} {sh : Nat → Nat} {U : zCS} {x0 : Nat} {x1 : Int32} (h0 : isX1 sh x0) : fX1_howOften (cmem ν sh U) x0 x1 = gX1_howOften U x0 x1 := by simp only [fX1_howOften, gX1_howOften, zgd_t, zmap_ite, zmap_some, zmap_none, zmap_zb0, zmap_zni, zq2_k, zq3_k, zq4_k, zq5_k, zzb1_q, zzb2_q, zzb3_q, zzb4_q, zzb5_q, zmap_zb1, zmap_zb2, zmap_zb3, zmap_zb4, zmap_zb5, zmap_zb6, zmap_zc1, zmap_zc2, zmap_zc3, zmap_zc4, ca_1600 (isX1_3 h0), cg_X1_0 h0, cg_X1_5 h0, ck_X1 h0, (eX1_howOften_l4 (h0 := h0))]
noncomputable def gX1_firstHearing_l2 (U : zCS) (x0 : Nat) (x1 : Int32) (F2 : Int32 → Option (Int32)) (x2_1 : Int32) : Option (Int32) :=
  if (U.1 x0 0) < x2_1 then (
  some (-1))
  else (
  zb1 (zag 600 (U.2.1 (x0 + 3)) ((x1 * 100) + x2_1)) fun v8 =>
  if v8 ≤ 0 then (
  F2 (x2_1 + 1))
  else (
  some x2_1))
noncomputable def gX1_firstHearing (U : zCS) (x0 : Nat) (x1 : Int32) : Option (Int32) :=
  zf1 (gX1_firstHearing_l2 U x0 x1) zfu 0
set_option maxRecDepth 100000 in
theorem eX1_firstHearing_l2 {ν : zM} {sh : Nat → Nat} {U : zCS} {x0 : Nat} {x1 : Int32} {x2_1 : Int32} (h0 : isX1 sh x0)  (n : Nat) : zf1 (fX1_firstHearing_l2 (cmem ν sh U) x0 x1) n x2_1 = zf1 (gX1_firstHearing_l2 U x0 x1) n x2_1 := by
  refine zf1_c (fun F2 G2 hF2 x2_1 => ?_) n x2_1
  simp only [fX1_firstHearing_l2, gX1_firstHearing_l2, zgd_t, zmap_ite, zmap_some, zmap_none, zmap_zb0, zmap_zni, zq2_k, zq3_k, zq4_k, zq5_k, zzb1_q, zzb2_q, zzb3_q, zzb4_q, zzb5_q, zmap_zb1, zmap_zb2, zmap_zb3, zmap_zb4, zmap_zb5, zmap_zb6, zmap_zc1, zmap_zc2, zmap_zc3, zmap_zc4, ca_1600 (isX1_3 h0), cg_X1_0 h0, cg_X1_5 h0, ck_X1 h0, hF2]
set_option maxRecDepth 100000 in
theorem eX1_firstHearing {ν : zM} {sh : Nat → Nat} {U : zCS} {x0 : Nat} {x1 : Int32} (h0 : isX1 sh x0) : fX1_firstHearing (cmem ν sh U) x0 x1 = gX1_firstHearing U x0 x1 := by simp only [fX1_firstHearing, gX1_firstHearing, zgd_t, zmap_ite, zmap_some, zmap_none, zmap_zb0, zmap_zni, zq2_k, zq3_k, zq4_k, zq5_k, zzb1_q, zzb2_q, zzb3_q, zzb4_q, zzb5_q, zmap_zb1, zmap_zb2, zmap_zb3, zmap_zb4, zmap_zb5, zmap_zb6, zmap_zc1, zmap_zc2, zmap_zc3, zmap_zc4, ca_1600 (isX1_3 h0), cg_X1_0 h0, cg_X1_5 h0, ck_X1 h0, (eX1_firstHearing_l2 (h0 := h0))]
noncomputable def gX1_tellPerson (U : zCS) (x0 : Nat) (x1 : Int32) (x2 : Int32) : Option (Int32) :=
  if x1 = 1 then (
  zb1 (zag 6 (U.2.1 (x0 + 1)) x2) fun v3 =>
  some v3)
  else (
  if x1 = 2 then (
  zb1 (gX1_wordsHeard U x0 x2) fun v7 =>
  some v7)
  else (
  if x1 = 3 then (
  zb1 (gX1_howOften U x0 x2) fun v10 =>
  some v10)
  else (
  if x1 = 4 then (
  zb1 (gX1_firstHearing U x0 x2) fun v13 =>
  some v13)
  else (
  some (-2)))))
set_option maxRecDepth 100000 in
theorem eX1_tellPerson {ν : zM} {sh : Nat → Nat} {U : zCS} {x0 : Nat} {x1 : Int32} {x2 : Int32} (h0 : isX1 sh x0) : fX1_tellPerson (cmem ν sh U) x0 x1 x2 = gX1_tellPerson U x0 x1 x2 := by simp only [fX1_tellPerson, gX1_tellPerson, zgd_t, zmap_ite, zmap_some, zmap_none, zmap_zb0, zmap_zni, zq2_k, zq3_k, zq4_k, zq5_k, zzb1_q, zzb2_q, zzb3_q, zzb4_q, zzb5_q, zmap_zb1, zmap_zb2, zmap_zb3, zmap_zb4, zmap_zb5, zmap_zb6, zmap_zc1, zmap_zc2, zmap_zc3, zmap_zc4, (eX1_firstHearing (h0 := h0)), (eX1_howOften (h0 := h0)), (eX1_wordsHeard (h0 := h0)), ca_1006 (isX1_1 h0), cg_X1_3 h0, ck_X1 h0]
noncomputable def gX1_tell_b52 (x2 : Int32) (U : zCS) (x0 : Nat) (x1 : Nat) : Option (Int32) :=
  zb1 (if x2 = 3 then (
  some 1)
  else (
  some 0) : Option (Int32)) fun (s1 : Int32) =>
  zb1 (gX1_firstClash U x0 x1 s1) fun v4 =>
  some v4
noncomputable def gX1_tell (U : zCS) (x0 : Nat) (x1 : Nat) (x2 : Int32) : Option (Int32) :=
  if x2 = 0 then (
  some (U.1 x0 0))
  else (
  if x2 = 1 then (
  some (U.1 x0 1))
  else (
  if x2 = 2 then (
  zb1 (gX1_clashes U x0 x1) fun v13 =>
  some v13)
  else (
  if x2 = 3 then (
  gX1_tell_b52 x2 U x0 x1)
  else (
  if x2 = 4 then (
  gX1_tell_b52 x2 U x0 x1)
  else (
  zb1 (if x2 < 10 then (
  some (-2))
  else (
  zb1 (gX9_hasPerson U x1 (x2 - x2 / 10 * 10)) fun v20 =>
  if v20 = 0 then (
  some (-2))
  else (
  zb1 (gX1_tellPerson U x0 (x2 / 10) (x2 - x2 / 10 * 10)) fun v22 =>
  some v22)) : Option (Int32)) fun (s17 : Int32) =>
  some s17)))))
set_option maxRecDepth 100000 in
theorem eX1_tell_b52 {ν : zM} {sh : Nat → Nat} {x2 : Int32} {U : zCS} {x0 : Nat} {x1 : Nat} (h0 : isX1 sh x0) (h1 : isX9 sh x1)  : fX1_tell_b52 x2 (cmem ν sh U) x0 x1  = gX1_tell_b52 x2 U x0 x1  := by simp only [fX1_tell_b52, gX1_tell_b52, zgd_t, zmap_ite, zmap_some, zmap_none, zmap_zb0, zmap_zni, zq2_k, zq3_k, zq4_k, zq5_k, zzb1_q, zzb2_q, zzb3_q, zzb4_q, zzb5_q, zmap_zb1, zmap_zb2, zmap_zb3, zmap_zb4, zmap_zb5, zmap_zb6, zmap_zc1, zmap_zc2, zmap_zc3, zmap_zc4, (eX1_clashes (h0 := h0) (h1 := h1)), (eX1_firstClash (h0 := h0) (h1 := h1)), (eX1_tellPerson (h0 := h0)), (eX9_hasPerson (h0 := h1)), cg_X1_0 h0, cg_X1_1 h0, ck_X1 h0]
set_option maxRecDepth 100000 in
theorem eX1_tell {ν : zM} {sh : Nat → Nat} {U : zCS} {x0 : Nat} {x1 : Nat} {x2 : Int32} (h0 : isX1 sh x0) (h1 : isX9 sh x1) : fX1_tell (cmem ν sh U) x0 x1 x2 = gX1_tell U x0 x1 x2 := by simp only [fX1_tell, gX1_tell, zgd_t, zmap_ite, zmap_some, zmap_none, zmap_zb0, zmap_zni, zq2_k, zq3_k, zq4_k, zq5_k, zzb1_q, zzb2_q, zzb3_q, zzb4_q, zzb5_q, zmap_zb1, zmap_zb2, zmap_zb3, zmap_zb4, zmap_zb5, zmap_zb6, zmap_zc1, zmap_zc2, zmap_zc3, zmap_zc4, (eX1_clashes (h0 := h0) (h1 := h1)), (eX1_firstClash (h0 := h0) (h1 := h1)), (eX1_tellPerson (h0 := h0)), (eX9_hasPerson (h0 := h1)), cg_X1_0 h0, cg_X1_1 h0, ck_X1 h0, (eX1_tell_b52 (h0 := h0) (h1 := h1))]
noncomputable def gX2_clear (U : zCS) (x0 : Nat) : Option (zCS) :=
  zb1 (some (csI U x0 0 0)) fun U1 =>
  some U1
set_option maxRecDepth 100000 in
theorem eX2_clear {ν : zM} {sh : Nat → Nat} {U : zCS} {x0 : Nat} (h0 : isX2 sh x0) : fX2_clear (cmem ν sh U) x0 = Option.map (cmem ν sh) (gX2_clear U x0) := by simp only [fX2_clear, gX2_clear, zgd_t, zmap_ite, zmap_some, zmap_none, zmap_zb0, zmap_zni, zq2_k, zq3_k, zq4_k, zq5_k, zzb1_q, zzb2_q, zzb3_q, zzb4_q, zzb5_q, zmap_zb1, zmap_zb2, zmap_zb3, zmap_zb4, zmap_zb5, zmap_zb6, zmap_zc1, zmap_zc2, zmap_zc3, zmap_zc4, cp_X2_0 h0, ck_X2 h0]
noncomputable def gX2_copyFrom (U : zCS) (x0 : Nat) (x1 : Nat) : Option (zCS) :=
  zb1 (some (csI U x0 0 (U.1 x1 0))) fun U3 =>
  zb1 (zcp 0 40 40 (U3.2.1 (x1 + 1)) (U3.2.1 (x0 + 1)) 0 0 40) fun f9 =>
  zb1 (some (csA U3 (x0 + 1) f9)) fun U9 =>
  zb1 (zcp 0 40 40 (U9.2.1 (x1 + 2)) (U9.2.1 (x0 + 2)) 0 0 40) fun f15 =>
  zb1 (some (csA U9 (x0 + 2) f15)) fun U15 =>
  zb1 (zcp 0 40 40 (U15.2.1 (x1 + 3)) (U15.2.1 (x0 + 3)) 0 0 40) fun f21 =>
  zb1 (some (csA U15 (x0 + 3) f21)) fun U21 =>
  some U21
set_option maxRecDepth 100000 in
theorem eX2_copyFrom {ν : zM} {sh : Nat → Nat} {U : zCS} {x0 : Nat} {x1 : Nat} (h0 : isX2 sh x0) (h1 : isX2 sh x1) : fX2_copyFrom (cmem ν sh U) x0 x1 = Option.map (cmem ν sh) (gX2_copyFrom U x0 x1) := by simp only [fX2_copyFrom, gX2_copyFrom, zgd_t, zmap_ite, zmap_some, zmap_none, zmap_zb0, zmap_zni, zq2_k, zq3_k, zq4_k, zq5_k, zzb1_q, zzb2_q, zzb3_q, zzb4_q, zzb5_q, zmap_zb1, zmap_zb2, zmap_zb3, zmap_zb4, zmap_zb5, zmap_zb6, zmap_zc1, zmap_zc2, zmap_zc3, zmap_zc4, cg_X2_0 h1, cg_X2_1 h0, cg_X2_1 h1, cg_X2_2 h0, cg_X2_2 h1, cg_X2_3 h0, cg_X2_3 h1, cp_X2_0 h0, cy_1040 (isX2_1 h1) (isX2_1 h0), cy_1040 (isX2_2 h1) (isX2_2 h0), cy_1040 (isX2_3 h1) (isX2_3 h0), ck_X2 h0]
noncomputable def gX2_add (U : zCS) (x0 : Nat) (x1 : Int32) (x2 : Int32) (x3 : Int32) : Option (zCS) :=
  if (U.1 x0 0) < 40 then (
  zb1 (zas 40 (U.2.1 (x0 + 1)) (U.1 x0 0) x1) fun f7 =>
  zb1 (some (csA U (x0 + 1) f7)) fun U7 =>
  zb1 (zas 40 (U7.2.1 (x0 + 2)) (U7.1 x0 0) x2) fun f13 =>
  zb1 (some (csA U7 (x0 + 2) f13)) fun U13 =>
  zb1 (zas 40 (U13.2.1 (x0 + 3)) (U13.1 x0 0) x3) fun f19 =>
  zb1 (some (csA U13 (x0 + 3) f19)) fun U19 =>
  zb1 (some (csI U19 x0 0 ((U19.1 x0 0) + 1))) fun U23 =>
  some U23)
  else (
  some U)
set_option maxRecDepth 100000 in
theorem eX2_add {ν : zM} {sh : Nat → Nat} {U : zCS} {x0 : Nat} {x1 : Int32} {x2 : Int32} {x3 : Int32} (h0 : isX2 sh x0) : fX2_add (cmem ν sh U) x0 x1 x2 x3 = Option.map (cmem ν sh) (gX2_add U x0 x1 x2 x3) := by simp only [fX2_add, gX2_add, zgd_t, zmap_ite, zmap_some, zmap_none, zmap_zb0, zmap_zni, zq2_k, zq3_k, zq4_k, zq5_k, zzb1_q, zzb2_q, zzb3_q, zzb4_q, zzb5_q, zmap_zb1, zmap_zb2, zmap_zb3, zmap_zb4, zmap_zb5, zmap_zb6, zmap_zc1, zmap_zc2, zmap_zc3, zmap_zc4, cg_X2_0 h0, cg_X2_1 h0, cg_X2_2 h0, cg_X2_3 h0, cp_X2_0 h0, cs_1040 (isX2_1 h0), cs_1040 (isX2_2 h0), cs_1040 (isX2_3 h0), ck_X2 h0]
noncomputable def gX2_tell (U : zCS) (x0 : Nat) (x1 : Int32) (x2 : Int32) : Option (Int32) :=
  if x1 = (-1) then (
  zb1 (if x2 = 0 then (
  some (U.1 x0 0))
  else (
  some (-2)) : Option (Int32)) fun (s18 : Int32) =>
  some s18)
  else (
  if x1 < 0 then (
  some (-2))
  else (
  if x1 < (U.1 x0 0) then (
  if x2 = 0 then (
  zb1 (zag 40 (U.2.1 (x0 + 1)) x1) fun v5 =>
  some v5)
  else (
  if x2 = 1 then (
  zb1 (zag 40 (U.2.1 (x0 + 2)) x1) fun v10 =>
  some v10)
  else (
  if x2 = 2 then (
  zb1 (zag 40 (U.2.1 (x0 + 3)) x1) fun v15 =>
  some v15)
  else (
  some (-2)))))
  else (
  some (-2))))
set_option maxRecDepth 100000 in
theorem eX2_tell {ν : zM} {sh : Nat → Nat} {U : zCS} {x0 : Nat} {x1 : Int32} {x2 : Int32} (h0 : isX2 sh x0) : fX2_tell (cmem ν sh U) x0 x1 x2 = gX2_tell U x0 x1 x2 := by simp only [fX2_tell, gX2_tell, zgd_t, zmap_ite, zmap_some, zmap_none, zmap_zb0, zmap_zni, zq2_k, zq3_k, zq4_k, zq5_k, zzb1_q, zzb2_q, zzb3_q, zzb4_q, zzb5_q, zmap_zb1, zmap_zb2, zmap_zb3, zmap_zb4, zmap_zb5, zmap_zb6, zmap_zc1, zmap_zc2, zmap_zc3, zmap_zc4, ca_1040 (isX2_1 h0), ca_1040 (isX2_2 h0), ca_1040 (isX2_3 h0), cg_X2_0 h0, cg_X2_1 h0, cg_X2_2 h0, cg_X2_3 h0, ck_X2 h0]
noncomputable def gX3_clear (U : zCS) (x0 : Nat) : Option (zCS) :=
  zb1 (some (csI U x0 0 0)) fun U1 =>
  zb1 (some (csI U1 x0 1 0)) fun U3 =>
  some U3
set_option maxRecDepth 100000 in
theorem eX3_clear {ν : zM} {sh : Nat → Nat} {U : zCS} {x0 : Nat} (h0 : isX3 sh x0) : fX3_clear (cmem ν sh U) x0 = Option.map (cmem ν sh) (gX3_clear U x0) := by simp only [fX3_clear, gX3_clear, zgd_t, zmap_ite, zmap_some, zmap_none, zmap_zb0, zmap_zni, zq2_k, zq3_k, zq4_k, zq5_k, zzb1_q, zzb2_q, zzb3_q, zzb4_q, zzb5_q, zmap_zb1, zmap_zb2, zmap_zb3, zmap_zb4, zmap_zb5, zmap_zb6, zmap_zc1, zmap_zc2, zmap_zc3, zmap_zc4, cp_X3_0 h0, cp_X3_1 h0, ck_X3 h0]
noncomputable def gX3_copyFrom (U : zCS) (x0 : Nat) (x1 : Nat) : Option (zCS) :=
  zb1 (some (csI U x0 0 (U.1 x1 0))) fun U3 =>
  zb1 (some (csI U3 x0 1 (U3.1 x1 1))) fun U7 =>
  zb1 (zcp 0 10 10 (U7.2.1 (x1 + 1)) (U7.2.1 (x0 + 1)) 0 0 10) fun f13 =>
  zb1 (some (csA U7 (x0 + 1) f13)) fun U13 =>
  zb1 (zcp 0 10 10 (U13.2.1 (x1 + 2)) (U13.2.1 (x0 + 2)) 0 0 10) fun f19 =>
  zb1 (some (csA U13 (x0 + 2) f19)) fun U19 =>
  some U19
set_option maxRecDepth 100000 in
theorem eX3_copyFrom {ν : zM} {sh : Nat → Nat} {U : zCS} {x0 : Nat} {x1 : Nat} (h0 : isX3 sh x0) (h1 : isX3 sh x1) : fX3_copyFrom (cmem ν sh U) x0 x1 = Option.map (cmem ν sh) (gX3_copyFrom U x0 x1) := by simp only [fX3_copyFrom, gX3_copyFrom, zgd_t, zmap_ite, zmap_some, zmap_none, zmap_zb0, zmap_zni, zq2_k, zq3_k, zq4_k, zq5_k, zzb1_q, zzb2_q, zzb3_q, zzb4_q, zzb5_q, zmap_zb1, zmap_zb2, zmap_zb3, zmap_zb4, zmap_zb5, zmap_zb6, zmap_zc1, zmap_zc2, zmap_zc3, zmap_zc4, cg_X3_0 h1, cg_X3_1 h1, cg_X3_2 h0, cg_X3_2 h1, cg_X3_3 h0, cg_X3_3 h1, cp_X3_0 h0, cp_X3_1 h0, cy_1010 (isX3_1 h1) (isX3_1 h0), cy_1010 (isX3_2 h1) (isX3_2 h0), ck_X3 h0]
noncomputable def gX3_add (U : zCS) (x0 : Nat) (x1 : Int32) (x2 : Int32) : Option (zCS) :=
  if (U.1 x0 1) < 10 then (
  zb1 (zas 10 (U.2.1 (x0 + 1)) (U.1 x0 1) x1) fun f7 =>
  zb1 (some (csA U (x0 + 1) f7)) fun U7 =>
  zb1 (zas 10 (U7.2.1 (x0 + 2)) (U7.1 x0 1) x2) fun f13 =>
  zb1 (some (csA U7 (x0 + 2) f13)) fun U13 =>
  zb1 (some (csI U13 x0 1 ((U13.1 x0 1) + 1))) fun U17 =>
  some U17)
  else (
  some U)
set_option maxRecDepth 100000 in
theorem eX3_add {ν : zM} {sh : Nat → Nat} {U : zCS} {x0 : Nat} {x1 : Int32} {x2 : Int32} (h0 : isX3 sh x0) : fX3_add (cmem ν sh U) x0 x1 x2 = Option.map (cmem ν sh) (gX3_add U x0 x1 x2) := by simp only [fX3_add, gX3_add, zgd_t, zmap_ite, zmap_some, zmap_none, zmap_zb0, zmap_zni, zq2_k, zq3_k, zq4_k, zq5_k, zzb1_q, zzb2_q, zzb3_q, zzb4_q, zzb5_q, zmap_zb1, zmap_zb2, zmap_zb3, zmap_zb4, zmap_zb5, zmap_zb6, zmap_zc1, zmap_zc2, zmap_zc3, zmap_zc4, cg_X3_1 h0, cg_X3_2 h0, cg_X3_3 h0, cp_X3_1 h0, cs_1010 (isX3_1 h0), cs_1010 (isX3_2 h0), ck_X3 h0]
noncomputable def gX3_tell_b46 (x1 : Int32) (U : zCS) (x0 : Nat) : Option (Int32) :=
  zb1 (if x1 < 20 then (
  some (-1))
  else (
  if (20 + (U.1 x0 1)) ≤ x1 then (
  some (-1))
  else (
  zb1 (zag 10 (U.2.1 (x0 + 2)) (x1 - 20)) fun v7 =>
  some v7)) : Option (Int32)) fun (s1 : Int32) =>
  some s1
noncomputable def gX3_tell (U : zCS) (x0 : Nat) (x1 : Int32) : Option (Int32) :=
  if x1 = 0 then (
  some (U.1 x0 0))
  else (
  if x1 = 1 then (
  some (U.1 x0 1))
  else (
  if x1 < 10 then (
  gX3_tell_b46 x1 U x0)
  else (
  if (10 + (U.1 x0 1)) ≤ x1 then (
  gX3_tell_b46 x1 U x0)
  else (
  zb1 (zag 10 (U.2.1 (x0 + 1)) (x1 - 10)) fun v14 =>
  some v14))))
set_option maxRecDepth 100000 in
theorem eX3_tell_b46 {ν : zM} {sh : Nat → Nat} {x1 : Int32} {U : zCS} {x0 : Nat} (h0 : isX3 sh x0)  : fX3_tell_b46 x1 (cmem ν sh U) x0  = gX3_tell_b46 x1 U x0  := by simp only [fX3_tell_b46, gX3_tell_b46, zgd_t, zmap_ite, zmap_some, zmap_none, zmap_zb0, zmap_zni, zq2_k, zq3_k, zq4_k, zq5_k, zzb1_q, zzb2_q, zzb3_q, zzb4_q, zzb5_q, zmap_zb1, zmap_zb2, zmap_zb3, zmap_zb4, zmap_zb5, zmap_zb6, zmap_zc1, zmap_zc2, zmap_zc3, zmap_zc4, ca_1010 (isX3_1 h0), ca_1010 (isX3_2 h0), cg_X3_0 h0, cg_X3_1 h0, cg_X3_2 h0, cg_X3_3 h0, ck_X3 h0]
set_option maxRecDepth 100000 in
theorem eX3_tell {ν : zM} {sh : Nat → Nat} {U : zCS} {x0 : Nat} {x1 : Int32} (h0 : isX3 sh x0) : fX3_tell (cmem ν sh U) x0 x1 = gX3_tell U x0 x1 := by simp only [fX3_tell, gX3_tell, zgd_t, zmap_ite, zmap_some, zmap_none, zmap_zb0, zmap_zni, zq2_k, zq3_k, zq4_k, zq5_k, zzb1_q, zzb2_q, zzb3_q, zzb4_q, zzb5_q, zmap_zb1, zmap_zb2, zmap_zb3, zmap_zb4, zmap_zb5, zmap_zb6, zmap_zc1, zmap_zc2, zmap_zc3, zmap_zc4, ca_1010 (isX3_1 h0), ca_1010 (isX3_2 h0), cg_X3_0 h0, cg_X3_1 h0, cg_X3_2 h0, cg_X3_3 h0, ck_X3 h0, (eX3_tell_b46 (h0 := h0))]
noncomputable def gX3_comes  (x0 : Int32) (x1 : Int32) : Option (Int32) :=
  some ((((x0 >>> (3 &&& 31)) * x1) + (x0 &&& 7)) &&& 7)
set_option maxRecDepth 100000 in
theorem eX3_comes {μ : zM} {x0 : Int32} {x1 : Int32} : fX3_comes μ x0 x1 = gX3_comes x0 x1 := by simp only [fX3_comes, gX3_comes, zgd_t, zmap_ite, zmap_some, zmap_none, zmap_zb0, zmap_zni, zq2_k, zq3_k, zq4_k, zq5_k, zzb1_q, zzb2_q, zzb3_q, zzb4_q, zzb5_q, zmap_zb1, zmap_zb2, zmap_zb3, zmap_zb4, zmap_zb5, zmap_zb6, zmap_zc1, zmap_zc2, zmap_zc3, zmap_zc4]
noncomputable def gX3_misses_l4 (U : zCS) (x0 : Nat) (x1 : Int32) (F3 : Int32 → Int32 → Option (Int32)) (x2_1 : Int32) (x3_2 : Int32) : Option (Int32) :=
  if (U.1 x0 1) ≤ x3_2 then (
  some x2_1)
  else (
  zb1 (zag 10 (U.2.1 (x0 + 1)) x3_2) fun v11 =>
  zb1 (gX3_comes x1 v11) fun v14 =>
  zb1 (zag 10 (U.2.1 (x0 + 2)) x3_2) fun v17 =>
  zb1 (if v14 = v17 then (
  some x2_1)
  else (
  some (x2_1 + 1)) : Option (Int32)) fun (x2_19 : Int32) =>
  F3 x2_19 (x3_2 + 1))
noncomputable def gX3_misses (U : zCS) (x0 : Nat) (x1 : Int32) : Option (Int32) :=
  zb1 (zf2 (gX3_misses_l4 U x0 x1) zfu 0 0 : Option (Int32)) fun (x2_5 : Int32) =>
  some x2_5
set_option maxRecDepth 100000 in
theorem eX3_misses_l4 {ν : zM} {sh : Nat → Nat} {U : zCS} {x0 : Nat} {x1 : Int32} {x2_1 : Int32} {x3_2 : Int32} (h0 : isX3 sh x0)  (n : Nat) : zf2 (fX3_misses_l4 (cmem ν sh U) x0 x1) n x2_1 x3_2 = zf2 (gX3_misses_l4 U x0 x1) n x2_1 x3_2 := by
  refine zf2_c (fun F3 G3 hF3 x2_1 x3_2 => ?_) n x2_1 x3_2
  simp only [fX3_misses_l4, gX3_misses_l4, zgd_t, zmap_ite, zmap_some, zmap_none, zmap_zb0, zmap_zni, zq2_k, zq3_k, zq4_k, zq5_k, zzb1_q, zzb2_q, zzb3_q, zzb4_q, zzb5_q, zmap_zb1, zmap_zb2, zmap_zb3, zmap_zb4, zmap_zb5, zmap_zb6, zmap_zc1, zmap_zc2, zmap_zc3, zmap_zc4, ca_1010 (isX3_1 h0), ca_1010 (isX3_2 h0), cg_X3_1 h0, cg_X3_2 h0, cg_X3_3 h0, eX3_comes, ck_X3 h0, hF3]
set_option maxRecDepth 100000 in
theorem eX3_misses {ν : zM} {sh : Nat → Nat} {U : zCS} {x0 : Nat} {x1 : Int32} (h0 : isX3 sh x0) : fX3_misses (cmem ν sh U) x0 x1 = gX3_misses U x0 x1 := by simp only [fX3_misses, gX3_misses, zgd_t, zmap_ite, zmap_some, zmap_none, zmap_zb0, zmap_zni, zq2_k, zq3_k, zq4_k, zq5_k, zzb1_q, zzb2_q, zzb3_q, zzb4_q, zzb5_q, zmap_zb1, zmap_zb2, zmap_zb3, zmap_zb4, zmap_zb5, zmap_zb6, zmap_zc1, zmap_zc2, zmap_zc3, zmap_zc4, ca_1010 (isX3_1 h0), ca_1010 (isX3_2 h0), cg_X3_1 h0, cg_X3_2 h0, cg_X3_3 h0, eX3_comes, ck_X3 h0, (eX3_misses_l4 (h0 := h0))]
noncomputable def gX3_fits_l4 (U : zCS) (x0 : Nat) (F3 : Int32 → Int32 → Option (Int32)) (x1_1 : Int32) (x2_2 : Int32) : Option (Int32) :=
  if 64 ≤ x2_2 then (
  some x1_1)
  else (
  zb1 (gX3_misses U x0 x2_2) fun v8 =>
  zb1 (if (U.1 x0 0) < v8 then (
  some x1_1)
  else (
  some (x1_1 + 1)) : Option (Int32)) fun (x1_11 : Int32) =>
  F3 x1_11 (x2_2 + 1))
noncomputable def gX3_fits (U : zCS) (x0 : Nat) : Option (Int32) :=
  zb1 (zf2 (gX3_fits_l4 U x0) zfu 0 0 : Option (Int32)) fun (x1_5 : Int32) =>
  some x1_5
set_option maxRecDepth 100000 in
theorem eX3_fits_l4 {ν : zM} {sh : Nat → Nat} {U : zCS} {x0 : Nat} {x1_1 : Int32} {x2_2 : Int32} (h0 : isX3 sh x0)  (n : Nat) : zf2 (fX3_fits_l4 (cmem ν sh U) x0) n x1_1 x2_2 = zf2 (gX3_fits_l4 U x0) n x1_1 x2_2 := by
  refine zf2_c (fun F3 G3 hF3 x1_1 x2_2 => ?_) n x1_1 x2_2
  simp only [fX3_fits_l4, gX3_fits_l4, zgd_t, zmap_ite, zmap_some, zmap_none, zmap_zb0, zmap_zni, zq2_k, zq3_k, zq4_k, zq5_k, zzb1_q, zzb2_q, zzb3_q, zzb4_q, zzb5_q, zmap_zb1, zmap_zb2, zmap_zb3, zmap_zb4, zmap_zb5, zmap_zb6, zmap_zc1, zmap_zc2, zmap_zc3, zmap_zc4, (eX3_misses (h0 := h0)), cg_X3_0 h0, ck_X3 h0, hF3]
set_option maxRecDepth 100000 in
theorem eX3_fits {ν : zM} {sh : Nat → Nat} {U : zCS} {x0 : Nat} (h0 : isX3 sh x0) : fX3_fits (cmem ν sh U) x0 = gX3_fits U x0 := by simp only [fX3_fits, gX3_fits, zgd_t, zmap_ite, zmap_some, zmap_none, zmap_zb0, zmap_zni, zq2_k, zq3_k, zq4_k, zq5_k, zzb1_q, zzb2_q, zzb3_q, zzb4_q, zzb5_q, zmap_zb1, zmap_zb2, zmap_zb3, zmap_zb4, zmap_zb5, zmap_zb6, zmap_zc1, zmap_zc2, zmap_zc3, zmap_zc4, (eX3_misses (h0 := h0)), cg_X3_0 h0, ck_X3 h0, (eX3_fits_l4 (h0 := h0))]
noncomputable def gX3_bestRule_l4 (U : zCS) (x0 : Nat) (F3 : Int32 → Int32 → Option (Int32)) (x1_1 : Int32) (x2_2 : Int32) : Option (Int32) :=
  if 64 ≤ x2_2 then (
  some x1_1)
  else (
  zb1 (gX3_misses U x0 x2_2) fun v8 =>
  zb1 (gX3_misses U x0 x1_1) fun v10 =>
  zb1 (if v10 ≤ v8 then (
  some x1_1)
  else (
  some x2_2) : Option (Int32)) fun (x1_11 : Int32) =>
  F3 x1_11 (x2_2 + 1))
noncomputable def gX3_bestRule (U : zCS) (x0 : Nat) : Option (Int32) :=
  zb1 (zf2 (gX3_bestRule_l4 U x0) zfu 0 1 : Option (Int32)) fun (x1_5 : Int32) =>
  some x1_5
set_option maxRecDepth 100000 in
theorem eX3_bestRule_l4 {ν : zM} {sh : Nat → Nat} {U : zCS} {x0 : Nat} {x1_1 : Int32} {x2_2 : Int32} (h0 : isX3 sh x0)  (n : Nat) : zf2 (fX3_bestRule_l4 (cmem ν sh U) x0) n x1_1 x2_2 = zf2 (gX3_bestRule_l4 U x0) n x1_1 x2_2 := by
  refine zf2_c (fun F3 G3 hF3 x1_1 x2_2 => ?_) n x1_1 x2_2
  simp only [fX3_bestRule_l4, gX3_bestRule_l4, zgd_t, zmap_ite, zmap_some, zmap_none, zmap_zb0, zmap_zni, zq2_k, zq3_k, zq4_k, zq5_k, zzb1_q, zzb2_q, zzb3_q, zzb4_q, zzb5_q, zmap_zb1, zmap_zb2, zmap_zb3, zmap_zb4, zmap_zb5, zmap_zb6, zmap_zc1, zmap_zc2, zmap_zc3, zmap_zc4, (eX3_misses (h0 := h0)), ck_X3 h0, hF3]
set_option maxRecDepth 100000 in
theorem eX3_bestRule {ν : zM} {sh : Nat → Nat} {U : zCS} {x0 : Nat} (h0 : isX3 sh x0) : fX3_bestRule (cmem ν sh U) x0 = gX3_bestRule U x0 := by simp only [fX3_bestRule, gX3_bestRule, zgd_t, zmap_ite, zmap_some, zmap_none, zmap_zb0, zmap_zni, zq2_k, zq3_k, zq4_k, zq5_k, zzb1_q, zzb2_q, zzb3_q, zzb4_q, zzb5_q, zmap_zb1, zmap_zb2, zmap_zb3, zmap_zb4, zmap_zb5, zmap_zb6, zmap_zc1, zmap_zc2, zmap_zc3, zmap_zc4, (eX3_misses (h0 := h0)), ck_X3 h0, (eX3_bestRule_l4 (h0 := h0))]
noncomputable def gX3_surelyComes_l4 (U : zCS) (x0 : Nat) (x1 : Int32) (F3 : Int32 → Int32 → Option (Int32)) (x2_1 : Int32) (x3_2 : Int32) : Option (Int32) :=
  if 64 ≤ x3_2 then (
  some x2_1)
  else (
  zb1 (gX3_misses U x0 x3_2) fun v6 =>
  if v6 ≤ (U.1 x0 0) then (
  zb1 (gX3_comes x3_2 x1) fun v10 =>
  if x2_1 = (-1) then (
  F3 v10 (x3_2 + 1))
  else (
  if x2_1 = v10 then (
  F3 v10 (x3_2 + 1))
  else (
  some (-1))))
  else (
  F3 x2_1 (x3_2 + 1)))
noncomputable def gX3_surelyComes (U : zCS) (x0 : Nat) (x1 : Int32) : Option (Int32) :=
  zf2 (gX3_surelyComes_l4 U x0 x1) zfu (-1) 0
set_option maxRecDepth 100000 in
theorem eX3_surelyComes_l4 {ν : zM} {sh : Nat → Nat} {U : zCS} {x0 : Nat} {x1 : Int32} {x2_1 : Int32} {x3_2 : Int32} (h0 : isX3 sh x0)  (n : Nat) : zf2 (fX3_surelyComes_l4 (cmem ν sh U) x0 x1) n x2_1 x3_2 = zf2 (gX3_surelyComes_l4 U x0 x1) n x2_1 x3_2 := by
  refine zf2_c (fun F3 G3 hF3 x2_1 x3_2 => ?_) n x2_1 x3_2
  simp only [fX3_surelyComes_l4, gX3_surelyComes_l4, zgd_t, zmap_ite, zmap_some, zmap_none, zmap_zb0, zmap_zni, zq2_k, zq3_k, zq4_k, zq5_k, zzb1_q, zzb2_q, zzb3_q, zzb4_q, zzb5_q, zmap_zb1, zmap_zb2, zmap_zb3, zmap_zb4, zmap_zb5, zmap_zb6, zmap_zc1, zmap_zc2, zmap_zc3, zmap_zc4, (eX3_misses (h0 := h0)), cg_X3_0 h0, eX3_comes, ck_X3 h0, hF3]
set_option maxRecDepth 100000 in
theorem eX3_surelyComes {ν : zM} {sh : Nat → Nat} {U : zCS} {x0 : Nat} {x1 : Int32} (h0 : isX3 sh x0) : fX3_surelyComes (cmem ν sh U) x0 x1 = gX3_surelyComes U x0 x1 := by simp only [fX3_surelyComes, gX3_surelyComes, zgd_t, zmap_ite, zmap_some, zmap_none, zmap_zb0, zmap_zni, zq2_k, zq3_k, zq4_k, zq5_k, zzb1_q, zzb2_q, zzb3_q, zzb4_q, zzb5_q, zmap_zb1, zmap_zb2, zmap_zb3, zmap_zb4, zmap_zb5, zmap_zb6, zmap_zc1, zmap_zc2, zmap_zc3, zmap_zc4, (eX3_misses (h0 := h0)), cg_X3_0 h0, eX3_comes, ck_X3 h0, (eX3_surelyComes_l4 (h0 := h0))]
noncomputable def gX3_left_l5 (x1 : Int32) (x2 : Int32) (U : zCS) (x0 : Nat) (F3 : Int32 → Int32 → Option (Int32)) (x3_1 : Int32) (x4_2 : Int32) : Option (Int32) :=
  if 64 ≤ x4_2 then (
  some x3_1)
  else (
  zb1 (gX3_comes x4_2 x1) fun v8 =>
  zb1 (if v8 = x2 then (
  zb1 (gX3_misses U x0 x4_2) fun v12 =>
  if (U.1 x0 0) < v12 then (
  some x3_1)
  else (
  some (x3_1 + 1)))
  else (
  some x3_1) : Option (Int32)) fun (x3_9 : Int32) =>
  F3 x3_9 (x4_2 + 1))
noncomputable def gX3_left (U : zCS) (x0 : Nat) (x1 : Int32) (x2 : Int32) : Option (Int32) :=
  zb1 (zf2 (gX3_left_l5 x1 x2 U x0) zfu 0 0 : Option (Int32)) fun (x3_5 : Int32) =>
  some x3_5
set_option maxRecDepth 100000 in
theorem eX3_left_l5 {ν : zM} {sh : Nat → Nat} {U : zCS} {x1 : Int32} {x2 : Int32} {x0 : Nat} {x3_1 : Int32} {x4_2 : Int32} (h0 : isX3 sh x0)  (n : Nat) : zf2 (fX3_left_l5 (cmem ν sh U) x1 x2 x0) n x3_1 x4_2 = zf2 (gX3_left_l5 x1 x2 U x0) n x3_1 x4_2 := by
  refine zf2_c (fun F3 G3 hF3 x3_1 x4_2 => ?_) n x3_1 x4_2
  simp only [fX3_left_l5, gX3_left_l5, zgd_t, zmap_ite, zmap_some, zmap_none, zmap_zb0, zmap_zni, zq2_k, zq3_k, zq4_k, zq5_k, zzb1_q, zzb2_q, zzb3_q, zzb4_q, zzb5_q, zmap_zb1, zmap_zb2, zmap_zb3, zmap_zb4, zmap_zb5, zmap_zb6, zmap_zc1, zmap_zc2, zmap_zc3, zmap_zc4, (eX3_misses (h0 := h0)), cg_X3_0 h0, eX3_comes, ck_X3 h0, hF3]
set_option maxRecDepth 100000 in
theorem eX3_left {ν : zM} {sh : Nat → Nat} {U : zCS} {x0 : Nat} {x1 : Int32} {x2 : Int32} (h0 : isX3 sh x0) : fX3_left (cmem ν sh U) x0 x1 x2 = gX3_left U x0 x1 x2 := by simp only [fX3_left, gX3_left, zgd_t, zmap_ite, zmap_some, zmap_none, zmap_zb0, zmap_zni, zq2_k, zq3_k, zq4_k, zq5_k, zzb1_q, zzb2_q, zzb3_q, zzb4_q, zzb5_q, zmap_zb1, zmap_zb2, zmap_zb3, zmap_zb4, zmap_zb5, zmap_zb6, zmap_zc1, zmap_zc2, zmap_zc3, zmap_zc4, (eX3_misses (h0 := h0)), cg_X3_0 h0, eX3_comes, ck_X3 h0, (eX3_left_l5 (h0 := h0))]
noncomputable def gX3_mostLeft_l4 (U : zCS) (x0 : Nat) (x1 : Int32) (F3 : Int32 → Int32 → Option (Int32)) (x2_1 : Int32) (x3_2 : Int32) : Option (Int32) :=
  if 8 ≤ x3_2 then (
  some x2_1)
  else (
  zb1 (gX3_left U x0 x1 x3_2) fun v8 =>
  F3 (if x2_1 < v8 then v8 else x2_1 : Int32) (x3_2 + 1))
noncomputable def gX3_mostLeft (U : zCS) (x0 : Nat) (x1 : Int32) : Option (Int32) :=
  zb1 (zf2 (gX3_mostLeft_l4 U x0 x1) zfu 0 0 : Option (Int32)) fun (x2_5 : Int32) =>
  some x2_5
set_option maxRecDepth 100000 in
theorem eX3_mostLeft_l4 {ν : zM} {sh : Nat → Nat} {U : zCS} {x0 : Nat} {x1 : Int32} {x2_1 : Int32} {x3_2 : Int32} (h0 : isX3 sh x0)  (n : Nat) : zf2 (fX3_mostLeft_l4 (cmem ν sh U) x0 x1) n x2_1 x3_2 = zf2 (gX3_mostLeft_l4 U x0 x1) n x2_1 x3_2 := by
  refine zf2_c (fun F3 G3 hF3 x2_1 x3_2 => ?_) n x2_1 x3_2
  simp only [fX3_mostLeft_l4, gX3_mostLeft_l4, zgd_t, zmap_ite, zmap_some, zmap_none, zmap_zb0, zmap_zni, zq2_k, zq3_k, zq4_k, zq5_k, zzb1_q, zzb2_q, zzb3_q, zzb4_q, zzb5_q, zmap_zb1, zmap_zb2, zmap_zb3, zmap_zb4, zmap_zb5, zmap_zb6, zmap_zc1, zmap_zc2, zmap_zc3, zmap_zc4, (eX3_left (h0 := h0)), ck_X3 h0, hF3]
set_option maxRecDepth 100000 in
theorem eX3_mostLeft {ν : zM} {sh : Nat → Nat} {U : zCS} {x0 : Nat} {x1 : Int32} (h0 : isX3 sh x0) : fX3_mostLeft (cmem ν sh U) x0 x1 = gX3_mostLeft U x0 x1 := by simp only [fX3_mostLeft, gX3_mostLeft, zgd_t, zmap_ite, zmap_some, zmap_none, zmap_zb0, zmap_zni, zq2_k, zq3_k, zq4_k, zq5_k, zzb1_q, zzb2_q, zzb3_q, zzb4_q, zzb5_q, zmap_zb1, zmap_zb2, zmap_zb3, zmap_zb4, zmap_zb5, zmap_zb6, zmap_zc1, zmap_zc2, zmap_zc3, zmap_zc4, (eX3_left (h0 := h0)), ck_X3 h0, (eX3_mostLeft_l4 (h0 := h0))]
noncomputable def gX3_wordToCall_l7 (U : zCS) (x0 : Nat) (F4 : Int32 → Int32 → Int32 → Option (Int32)) (x1_1 : Int32) (x2_2 : Int32) (x3_3 : Int32) : Option (Int32) :=
  if 8 ≤ x3_3 then (
  some x1_1)
  else (
  zb1 (gX3_fits U x0) fun v9 =>
  if v9 ≤ 0 then (
  some x1_1)
  else (
  zb1 (gX3_mostLeft U x0 x3_3) fun v11 =>
  zb2 (if x2_2 ≤ v11 then (
  some (x1_1, x2_2))
  else (
  some (x3_3, v11)) : Option (Int32 × Int32)) fun (x1_12 : Int32) (x2_13 : Int32) =>
  F4 x1_12 x2_13 (x3_3 + 1)))
noncomputable def gX3_wordToCall (U : zCS) (x0 : Nat) : Option (Int32) :=
  zb1 (zf3 (gX3_wordToCall_l7 U x0) zfu (-1) 65 0 : Option (Int32)) fun (x1_6 : Int32) =>
  some x1_6
set_option maxRecDepth 100000 in
theorem eX3_wordToCall_l7 {ν : zM} {sh : Nat → Nat} {U : zCS} {x0 : Nat} {x1_1 : Int32} {x2_2 : Int32} {x3_3 : Int32} (h0 : isX3 sh x0)  (n : Nat) : zf3 (fX3_wordToCall_l7 (cmem ν sh U) x0) n x1_1 x2_2 x3_3 = zf3 (gX3_wordToCall_l7 U x0) n x1_1 x2_2 x3_3 := by
  refine zf3_c (fun F4 G4 hF4 x1_1 x2_2 x3_3 => ?_) n x1_1 x2_2 x3_3
  simp only [fX3_wordToCall_l7, gX3_wordToCall_l7, zgd_t, zmap_ite, zmap_some, zmap_none, zmap_zb0, zmap_zni, zq2_k, zq3_k, zq4_k, zq5_k, zzb1_q, zzb2_q, zzb3_q, zzb4_q, zzb5_q, zmap_zb1, zmap_zb2, zmap_zb3, zmap_zb4, zmap_zb5, zmap_zb6, zmap_zc1, zmap_zc2, zmap_zc3, zmap_zc4, (eX3_fits (h0 := h0)), (eX3_mostLeft (h0 := h0)), ck_X3 h0, hF4]
set_option maxRecDepth 100000 in
theorem eX3_wordToCall {ν : zM} {sh : Nat → Nat} {U : zCS} {x0 : Nat} (h0 : isX3 sh x0) : fX3_wordToCall (cmem ν sh U) x0 = gX3_wordToCall U x0 := by simp only [fX3_wordToCall, gX3_wordToCall, zgd_t, zmap_ite, zmap_some, zmap_none, zmap_zb0, zmap_zni, zq2_k, zq3_k, zq4_k, zq5_k, zzb1_q, zzb2_q, zzb3_q, zzb4_q, zzb5_q, zmap_zb1, zmap_zb2, zmap_zb3, zmap_zb4, zmap_zb5, zmap_zb6, zmap_zc1, zmap_zc2, zmap_zc3, zmap_zc4, (eX3_fits (h0 := h0)), (eX3_mostLeft (h0 := h0)), ck_X3 h0, (eX3_wordToCall_l7 (h0 := h0))]
noncomputable def gX9_clear_l8 (x0 : Nat) (F5 : Int32 → zCS → Option (zCS)) (x1_3 : Int32) (m4 : zCS) : Option (zCS) :=
  if 8 ≤ x1_3 then (
  some m4)
  else (
  zb1 (zas 8 (m4.2.1 (x0 + 1)) x1_3 x1_3) fun f11 =>
  zb1 (some (csA m4 (x0 + 1) f11)) fun U11 =>
  zb1 (zas 8 (U11.2.1 (x0 + 2)) x1_3 0) fun f15 =>
  zb1 (some (csA U11 (x0 + 2) f15)) fun U15 =>
  zb1 (zas 8 (U15.2.1 (x0 + 3)) x1_3 1) fun f19 =>
  zb1 (some (csA U15 (x0 + 3) f19)) fun U19 =>
  F5 (x1_3 + 1) U19)
noncomputable def gX9_clear (U : zCS) (x0 : Nat) : Option (zCS) :=
  zb1 (some (csI U x0 0 12)) fun U1 =>
  zb1 (zf2 (gX9_clear_l8 x0) zfu 0 U1 : Option (zCS)) fun (m7 : zCS) =>
  zb1 (some (csI m7 x0 4 0)) fun U22 =>
  zb1 (some (csI U22 x0 8 0)) fun U24 =>
  zb1 (gfill 100 U24 (x0 + 10) 0) fun U29 =>
  some U29
set_option maxRecDepth 100000 in
theorem eX9_clear_l8 {ν : zM} {sh : Nat → Nat} {x0 : Nat} {x1_3 : Int32} {m4 : zCS} (h0 : isX9 sh x0)  (n : Nat) : zf2 (fX9_clear_l8 x0) n x1_3 (cmem ν sh m4) = Option.map (cmem ν sh) (zf2 (gX9_clear_l8 x0) n x1_3 m4) := by
  refine zf2_m (fun F5 G5 hF5 x1_3 m4 => ?_) n x1_3 m4
  simp only [fX9_clear_l8, gX9_clear_l8, zgd_t, zmap_ite, zmap_some, zmap_none, zmap_zb0, zmap_zni, zq2_k, zq3_k, zq4_k, zq5_k, zzb1_q, zzb2_q, zzb3_q, zzb4_q, zzb5_q, zmap_zb1, zmap_zb2, zmap_zb3, zmap_zb4, zmap_zb5, zmap_zb6, zmap_zc1, zmap_zc2, zmap_zc3, zmap_zc4, (eJ7_fill_53178_1100 (h0 := (isX9_10 h0))), cg_X9_1 h0, cg_X9_12 h0, cg_X9_2 h0, cg_X9_3 h0, cp_X9_0 h0, cp_X9_4 h0, cp_X9_8 h0, cs_1008 (isX9_1 h0), cs_1008 (isX9_2 h0), cs_1008 (isX9_3 h0), ck_X9 h0, hF5]
set_option maxRecDepth 100000 in
theorem eX9_clear {ν : zM} {sh : Nat → Nat} {U : zCS} {x0 : Nat} (h0 : isX9 sh x0) : fX9_clear (cmem ν sh U) x0 = Option.map (cmem ν sh) (gX9_clear U x0) := by simp only [fX9_clear, gX9_clear, zgd_t, zmap_ite, zmap_some, zmap_none, zmap_zb0, zmap_zni, zq2_k, zq3_k, zq4_k, zq5_k, zzb1_q, zzb2_q, zzb3_q, zzb4_q, zzb5_q, zmap_zb1, zmap_zb2, zmap_zb3, zmap_zb4, zmap_zb5, zmap_zb6, zmap_zc1, zmap_zc2, zmap_zc3, zmap_zc4, (eJ7_fill_53178_1100 (h0 := (isX9_10 h0))), cg_X9_1 h0, cg_X9_12 h0, cg_X9_2 h0, cg_X9_3 h0, cp_X9_0 h0, cp_X9_4 h0, cp_X9_8 h0, cs_1008 (isX9_1 h0), cs_1008 (isX9_2 h0), cs_1008 (isX9_3 h0), ck_X9 h0, (eX9_clear_l8 (h0 := h0))]
noncomputable def gX6_clear (U : zCS) (x0 : Nat) : Option (zCS) :=
  zb1 (some (csI U x0 0 0)) fun U1 =>
  some U1
set_option maxRecDepth 100000 in
theorem eX6_clear {ν : zM} {sh : Nat → Nat} {U : zCS} {x0 : Nat} (h0 : isX6 sh x0) : fX6_clear (cmem ν sh U) x0 = Option.map (cmem ν sh) (gX6_clear U x0) := by simp only [fX6_clear, gX6_clear, zgd_t, zmap_ite, zmap_some, zmap_none, zmap_zb0, zmap_zni, zq2_k, zq3_k, zq4_k, zq5_k, zzb1_q, zzb2_q, zzb3_q, zzb4_q, zzb5_q, zmap_zb1, zmap_zb2, zmap_zb3, zmap_zb4, zmap_zb5, zmap_zb6, zmap_zc1, zmap_zc2, zmap_zc3, zmap_zc4, cp_X6_0 h0, ck_X6 h0]
noncomputable def gX4_clearDraft (U : zCS) (x0 : Nat) (x1 : Int32) : Option (zCS) :=
  zc1 (if x1 = 0 then (
  zb1 (gX9_clear U (x0 + 1)) fun U6 =>
  some U6)
  else (
  if x1 = 1 then (
  zb1 (gX2_clear U (x0 + 12)) fun U11 =>
  some U11)
  else (
  if x1 = 2 then (
  zb1 (gX3_clear U (x0 + 16)) fun U16 =>
  some U16)
  else (
  zb1 (gX6_clear U (x0 + 19)) fun U21 =>
  some U21))) : Option (zCS)) fun (m1 : zCS) =>
  some m1
set_option maxRecDepth 100000 in
theorem eX4_clearDraft {ν : zM} {sh : Nat → Nat} {U : zCS} {x0 : Nat} {x1 : Int32} (h0 : isX4 sh x0) : fX4_clearDraft (cmem ν sh U) x0 x1 = Option.map (cmem ν sh) (gX4_clearDraft U x0 x1) := by simp only [fX4_clearDraft, gX4_clearDraft, zgd_t, zmap_ite, zmap_some, zmap_none, zmap_zb0, zmap_zni, zq2_k, zq3_k, zq4_k, zq5_k, zzc1_some, zzc2_some, zzc3_some, zzc4_some, zzc5_some, zzc6_some, zzb1_q, zzb2_q, zzb3_q, zzb4_q, zzb5_q, zzc1_q, zzc2_q, zzc3_q, zzc4_q, zzc5_q, zmap_zb1, zmap_zb2, zmap_zb3, zmap_zb4, zmap_zb5, zmap_zb6, zzc1_ite, zzc2_ite, zzc3_ite, zzc4_ite, zmap_zc1, zmap_zc2, zmap_zc3, zmap_zc4, zzc1_zb0, zzc1_zb1, zzc1_zb2, zzc1_zb3, zzc1_zb4, zzc2_zb0, zzc2_zb1, zzc2_zb2, zzc2_zb3, zzc2_zb4, zzc3_zb0, zzc3_zb1, zzc3_zb2, zzc3_zb3, zzc3_zb4, zzc4_zb0, zzc4_zb1, zzc4_zb2, zzc4_zb3, zzc4_zb4, (eX2_clear (h0 := (isX4_12 h0))), (eX3_clear (h0 := (isX4_16 h0))), (eX6_clear (h0 := (isX4_19 h0))), (eX9_clear (h0 := (isX4_1 h0))), cg_X4_0 h0, cg_X4_1 h0, cg_X4_2 h0, cg_X4_3 h0, ck_X4 h0]
noncomputable def gX4_isBlank  (x0 : Int32) : Option (Int32) :=
  zb1 (if x0 = 10 then (
  some 1)
  else (
  if x0 = 32 then (
  some 1)
  else (
  some 0)) : Option (Int32)) fun (s1 : Int32) =>
  zb1 (zbz s1) fun v3 =>
  some v3
set_option maxRecDepth 100000 in
theorem eX4_isBlank {μ : zM} {x0 : Int32} : fX4_isBlank μ x0 = gX4_isBlank x0 := by simp only [fX4_isBlank, gX4_isBlank, zgd_t, zmap_ite, zmap_some, zmap_none, zmap_zb0, zmap_zni, zq2_k, zq3_k, zq4_k, zq5_k, zzb1_q, zzb2_q, zzb3_q, zzb4_q, zzb5_q, zmap_zb1, zmap_zb2, zmap_zb3, zmap_zb4, zmap_zb5, zmap_zb6, zmap_zc1, zmap_zc2, zmap_zc3, zmap_zc4]
noncomputable def gX4_isLetter  (x0 : Int32) : Option (Int32) :=
  zb1 (if x0 < 97 then (
  some 0)
  else (
  if 122 < x0 then (
  some 0)
  else (
  some 1)) : Option (Int32)) fun (s1 : Int32) =>
  zb1 (zbz s1) fun v3 =>
  some v3
set_option maxRecDepth 100000 in
theorem eX4_isLetter {μ : zM} {x0 : Int32} : fX4_isLetter μ x0 = gX4_isLetter x0 := by simp only [fX4_isLetter, gX4_isLetter, zgd_t, zmap_ite, zmap_some, zmap_none, zmap_zb0, zmap_zni, zq2_k, zq3_k, zq4_k, zq5_k, zzb1_q, zzb2_q, zzb3_q, zzb4_q, zzb5_q, zmap_zb1, zmap_zb2, zmap_zb3, zmap_zb4, zmap_zb5, zmap_zb6, zmap_zc1, zmap_zc2, zmap_zc3, zmap_zc4]
noncomputable def gX4_isDigit  (x0 : Int32) : Option (Int32) :=
  zb1 (if x0 < 48 then (
  some 0)
  else (
  if 57 < x0 then (
  some 0)
  else (
  some 1)) : Option (Int32)) fun (s1 : Int32) =>
  zb1 (zbz s1) fun v3 =>
  some v3
set_option maxRecDepth 100000 in
theorem eX4_isDigit {μ : zM} {x0 : Int32} : fX4_isDigit μ x0 = gX4_isDigit x0 := by simp only [fX4_isDigit, gX4_isDigit, zgd_t, zmap_ite, zmap_some, zmap_none, zmap_zb0, zmap_zni, zq2_k, zq3_k, zq4_k, zq5_k, zzb1_q, zzb2_q, zzb3_q, zzb4_q, zzb5_q, zmap_zb1, zmap_zb2, zmap_zb3, zmap_zb4, zmap_zb5, zmap_zb6, zmap_zc1, zmap_zc2, zmap_zc3, zmap_zc4]
noncomputable def gX4_advance_l5 (U : zCS) (x0 : Nat) (F4 : Int32 → Option (Int32)) (x1_3 : Int32) : Option (Int32) :=
  if (U.1 x0 7) ≤ x1_3 then (
  some x1_3)
  else (
  zb1 (zag 600 (U.2.1 (x0 - 53)) x1_3) fun v12 =>
  zb1 (gX4_isBlank v12) fun v15 =>
  if v15 = 0 then (
  some x1_3)
  else (
  F4 (x1_3 + 1)))
noncomputable def gX4_advance_l110 (U17 : zCS) (x0 : Nat) (F47 : Int32 → Option (Int32)) (x1_46 : Int32) : Option (Int32) :=
  if (U17.1 x0 7) ≤ x1_46 then (
  some x1_46)
  else (
  zb1 (zag 600 (U17.2.1 (x0 - 53)) x1_46) fun v55 =>
  zb1 (gX4_isDigit v55) fun v58 =>
  if v58 = 0 then (
  some x1_46)
  else (
  F47 (x1_46 + 1)))
noncomputable def gX4_advance_l64 (U17 : zCS) (x0 : Nat) (F67 : Int32 → Option (Int32)) (x1_66 : Int32) : Option (Int32) :=
  if (U17.1 x0 7) ≤ x1_66 then (
  some x1_66)
  else (
  zb1 (zag 600 (U17.2.1 (x0 - 53)) x1_66) fun v75 =>
  zb1 (gX4_isLetter v75) fun v78 =>
  if v78 = 0 then (
  some x1_66)
  else (
  F67 (x1_66 + 1)))
noncomputable def gX4_advance (U : zCS) (x0 : Nat) : Option (zCS) :=
  zb1 (zf1 (gX4_advance_l5 U x0) zfu (U.1 x0 10) : Option (Int32)) fun (x1_6 : Int32) =>
  zb1 (some (csI U x0 9 x1_6)) fun U17 =>
  zc2 (if x1_6 < (U17.1 x0 7) then (
  zb1 (zag 600 (U17.2.1 (x0 - 53)) x1_6) fun v28 =>
  zb1 (gX4_isLetter v28) fun v31 =>
  if v31 = 0 then (
  zb1 (zag 600 (U17.2.1 (x0 - 53)) x1_6) fun v34 =>
  zb1 (gX4_isDigit v34) fun v37 =>
  if v37 = 0 then (
  zb1 (zag 600 (U17.2.1 (x0 - 53)) x1_6) fun v40 =>
  zb1 (if v40 = 59 then (
  some 3)
  else (
  some 4) : Option (Int32)) fun (s42 : Int32) =>
  zb1 (some (csI U17 x0 8 s42)) fun U44 =>
  some ((x1_6 + 1), U44))
  else (
  zb1 (zf1 (gX4_advance_l110 U17 x0) zfu x1_6 : Option (Int32)) fun (x1_49 : Int32) =>
  zb1 (if 2 < (x1_49 - (U17.1 x0 9)) then (
  some 4)
  else (
  some 2) : Option (Int32)) fun (s62 : Int32) =>
  zb1 (some (csI U17 x0 8 s62)) fun U64 =>
  some (x1_49, U64)))
  else (
  zb1 (zf1 (gX4_advance_l64 U17 x0) zfu x1_6 : Option (Int32)) fun (x1_69 : Int32) =>
  zb1 (some (csI U17 x0 8 1)) fun U80 =>
  some (x1_69, U80)))
  else (
  zb1 (some (csI U17 x0 8 0)) fun U82 =>
  some (x1_6, U82)) : Option (Int32 × zCS)) fun (x1_21 : Int32) (m22 : zCS) =>
  zb1 (some (csI m22 x0 10 x1_21)) fun U24 =>
  some U24
set_option maxRecDepth 100000 in
theorem eX4_advance_l5 {ν : zM} {sh : Nat → Nat} {U : zCS} {x0 : Nat} {x1_3 : Int32} (h0 : isX4 sh x0)  (n : Nat) : zf1 (fX4_advance_l5 (cmem ν sh U) x0) n x1_3 = zf1 (gX4_advance_l5 U x0) n x1_3 := by
  refine zf1_c (fun F4 G4 hF4 x1_3 => ?_) n x1_3
  simp only [fX4_advance_l5, gX4_advance_l5, zgd_t, zmap_ite, zmap_some, zmap_none, zmap_zb0, zmap_zni, zq2_k, zq3_k, zq4_k, zq5_k, zzc1_some, zzc2_some, zzc3_some, zzc4_some, zzc5_some, zzc6_some, zzb1_q, zzb2_q, zzb3_q, zzb4_q, zzb5_q, zzc1_q, zzc2_q, zzc3_q, zzc4_q, zzc5_q, zmap_zb1, zmap_zb2, zmap_zb3, zmap_zb4, zmap_zb5, zmap_zb6, zzc1_ite, zzc2_ite, zzc3_ite, zzc4_ite, zmap_zc1, zmap_zc2, zmap_zc3, zmap_zc4, zzc1_zb0, zzc1_zb1, zzc1_zb2, zzc1_zb3, zzc1_zb4, zzc2_zb0, zzc2_zb1, zzc2_zb2, zzc2_zb3, zzc2_zb4, zzc3_zb0, zzc3_zb1, zzc3_zb2, zzc3_zb3, zzc3_zb4, zzc4_zb0, zzc4_zb1, zzc4_zb2, zzc4_zb3, zzc4_zb4, ca_9001 (isX4_m53 h0), cg_X4_10 h0, cg_X4_6 h0, cg_X4_7 h0, cg_X4_9 h0, cp_X4_10 h0, cp_X4_8 h0, cp_X4_9 h0, eX4_isBlank, eX4_isDigit, eX4_isLetter, ck_X4 h0, hF4]
set_option maxRecDepth 100000 in
theorem eX4_advance_l110 {ν : zM} {sh : Nat → Nat} {m17 : zCS} {x0 : Nat} {x1_46 : Int32} (h0 : isX4 sh x0)  (n : Nat) : zf1 (fX4_advance_l110 (cmem ν sh m17) x0) n x1_46 = zf1 (gX4_advance_l110 m17 x0) n x1_46 := by
  refine zf1_c (fun F47 G47 hF47 x1_46 => ?_) n x1_46
  simp only [fX4_advance_l110, gX4_advance_l110, zgd_t, zmap_ite, zmap_some, zmap_none, zmap_zb0, zmap_zni, zq2_k, zq3_k, zq4_k, zq5_k, zzc1_some, zzc2_some, zzc3_some, zzc4_some, zzc5_some, zzc6_some, zzb1_q, zzb2_q, zzb3_q, zzb4_q, zzb5_q, zzc1_q, zzc2_q, zzc3_q, zzc4_q, zzc5_q, zmap_zb1, zmap_zb2, zmap_zb3, zmap_zb4, zmap_zb5, zmap_zb6, zzc1_ite, zzc2_ite, zzc3_ite, zzc4_ite, zmap_zc1, zmap_zc2, zmap_zc3, zmap_zc4, zzc1_zb0, zzc1_zb1, zzc1_zb2, zzc1_zb3, zzc1_zb4, zzc2_zb0, zzc2_zb1, zzc2_zb2, zzc2_zb3, zzc2_zb4, zzc3_zb0, zzc3_zb1, zzc3_zb2, zzc3_zb3, zzc3_zb4, zzc4_zb0, zzc4_zb1, zzc4_zb2, zzc4_zb3, zzc4_zb4, ca_9001 (isX4_m53 h0), cg_X4_10 h0, cg_X4_6 h0, cg_X4_7 h0, cg_X4_9 h0, cp_X4_10 h0, cp_X4_8 h0, cp_X4_9 h0, eX4_isBlank, eX4_isDigit, eX4_isLetter, ck_X4 h0, (eX4_advance_l5 (h0 := h0)), hF47]
set_option maxRecDepth 100000 in
theorem eX4_advance_l64 {ν : zM} {sh : Nat → Nat} {m17 : zCS} {x0 : Nat} {x1_66 : Int32} (h0 : isX4 sh x0)  (n : Nat) : zf1 (fX4_advance_l64 (cmem ν sh m17) x0) n x1_66 = zf1 (gX4_advance_l64 m17 x0) n x1_66 := by
  refine zf1_c (fun F67 G67 hF67 x1_66 => ?_) n x1_66
  simp only [fX4_advance_l64, gX4_advance_l64, zgd_t, zmap_ite, zmap_some, zmap_none, zmap_zb0, zmap_zni, zq2_k, zq3_k, zq4_k, zq5_k, zzc1_some, zzc2_some, zzc3_some, zzc4_some, zzc5_some, zzc6_some, zzb1_q, zzb2_q, zzb3_q, zzb4_q, zzb5_q, zzc1_q, zzc2_q, zzc3_q, zzc4_q, zzc5_q, zmap_zb1, zmap_zb2, zmap_zb3, zmap_zb4, zmap_zb5, zmap_zb6, zzc1_ite, zzc2_ite, zzc3_ite, zzc4_ite, zmap_zc1, zmap_zc2, zmap_zc3, zmap_zc4, zzc1_zb0, zzc1_zb1, zzc1_zb2, zzc1_zb3, zzc1_zb4, zzc2_zb0, zzc2_zb1, zzc2_zb2, zzc2_zb3, zzc2_zb4, zzc3_zb0, zzc3_zb1, zzc3_zb2, zzc3_zb3, zzc3_zb4, zzc4_zb0, zzc4_zb1, zzc4_zb2, zzc4_zb3, zzc4_zb4, ca_9001 (isX4_m53 h0), cg_X4_10 h0, cg_X4_6 h0, cg_X4_7 h0, cg_X4_9 h0, cp_X4_10 h0, cp_X4_8 h0, cp_X4_9 h0, eX4_isBlank, eX4_isDigit, eX4_isLetter, ck_X4 h0, (eX4_advance_l5 (h0 := h0)), (eX4_advance_l110 (h0 := h0)), hF67]
set_option maxRecDepth 100000 in
theorem eX4_advance {ν : zM} {sh : Nat → Nat} {U : zCS} {x0 : Nat} (h0 : isX4 sh x0) : fX4_advance (cmem ν sh U) x0 = Option.map (cmem ν sh) (gX4_advance U x0) := by simp only [fX4_advance, gX4_advance, zgd_t, zmap_ite, zmap_some, zmap_none, zmap_zb0, zmap_zni, zq2_k, zq3_k, zq4_k, zq5_k, zzc1_some, zzc2_some, zzc3_some, zzc4_some, zzc5_some, zzc6_some, zzb1_q, zzb2_q, zzb3_q, zzb4_q, zzb5_q, zzc1_q, zzc2_q, zzc3_q, zzc4_q, zzc5_q, zmap_zb1, zmap_zb2, zmap_zb3, zmap_zb4, zmap_zb5, zmap_zb6, zzc1_ite, zzc2_ite, zzc3_ite, zzc4_ite, zmap_zc1, zmap_zc2, zmap_zc3, zmap_zc4, zzc1_zb0, zzc1_zb1, zzc1_zb2, zzc1_zb3, zzc1_zb4, zzc2_zb0, zzc2_zb1, zzc2_zb2, zzc2_zb3, zzc2_zb4, zzc3_zb0, zzc3_zb1, zzc3_zb2, zzc3_zb3, zzc3_zb4, zzc4_zb0, zzc4_zb1, zzc4_zb2, zzc4_zb3, zzc4_zb4, ca_9001 (isX4_m53 h0), cg_X4_10 h0, cg_X4_6 h0, cg_X4_7 h0, cg_X4_9 h0, cp_X4_10 h0, cp_X4_8 h0, cp_X4_9 h0, eX4_isBlank, eX4_isDigit, eX4_isLetter, ck_X4 h0, (eX4_advance_l5 (h0 := h0)), (eX4_advance_l110 (h0 := h0)), (eX4_advance_l64 (h0 := h0))]
noncomputable def gX4_breakOff (U : zCS) (x0 : Nat) : Option (zCS) :=
  zb1 (some (csI U x0 4 1)) fun U1 =>
  zb1 (some (csI U1 x0 5 (U1.1 x0 9))) fun U5 =>
  some U5
set_option maxRecDepth 100000 in
theorem eX4_breakOff {ν : zM} {sh : Nat → Nat} {U : zCS} {x0 : Nat} (h0 : isX4 sh x0) : fX4_breakOff (cmem ν sh U) x0 = Option.map (cmem ν sh) (gX4_breakOff U x0) := by simp only [fX4_breakOff, gX4_breakOff, zgd_t, zmap_ite, zmap_some, zmap_none, zmap_zb0, zmap_zni, zq2_k, zq3_k, zq4_k, zq5_k, zzb1_q, zzb2_q, zzb3_q, zzb4_q, zzb5_q, zmap_zb1, zmap_zb2, zmap_zb3, zmap_zb4, zmap_zb5, zmap_zb6, zmap_zc1, zmap_zc2, zmap_zc3, zmap_zc4, cg_X4_9 h0, cp_X4_4 h0, cp_X4_5 h0, ck_X4 h0]
noncomputable def gX4_tokenNumber_l7 (U : zCS) (x0 : Nat) (F5 : Int32 → Int32 → Option (Int32)) (x1_3 : Int32) (x2_4 : Int32) : Option (Int32) :=
  if (U.1 x0 10) ≤ x2_4 then (
  some x1_3)
  else (
  zb1 (zag 600 (U.2.1 (x0 - 53)) x2_4) fun v13 =>
  F5 ((10 * x1_3) + (v13 - 48)) (x2_4 + 1))
noncomputable def gX4_tokenNumber (U : zCS) (x0 : Nat) : Option (Int32) :=
  zb1 (zf2 (gX4_tokenNumber_l7 U x0) zfu 0 (U.1 x0 9) : Option (Int32)) fun (x1_7 : Int32) =>
  some x1_7
set_option maxRecDepth 100000 in
theorem eX4_tokenNumber_l7 {ν : zM} {sh : Nat → Nat} {U : zCS} {x0 : Nat} {x1_3 : Int32} {x2_4 : Int32} (h0 : isX4 sh x0)  (n : Nat) : zf2 (fX4_tokenNumber_l7 (cmem ν sh U) x0) n x1_3 x2_4 = zf2 (gX4_tokenNumber_l7 U x0) n x1_3 x2_4 := by
  refine zf2_c (fun F5 G5 hF5 x1_3 x2_4 => ?_) n x1_3 x2_4
  simp only [fX4_tokenNumber_l7, gX4_tokenNumber_l7, zgd_t, zmap_ite, zmap_some, zmap_none, zmap_zb0, zmap_zni, zq2_k, zq3_k, zq4_k, zq5_k, zzb1_q, zzb2_q, zzb3_q, zzb4_q, zzb5_q, zmap_zb1, zmap_zb2, zmap_zb3, zmap_zb4, zmap_zb5, zmap_zb6, zmap_zc1, zmap_zc2, zmap_zc3, zmap_zc4, ca_9001 (isX4_m53 h0), cg_X4_10 h0, cg_X4_6 h0, cg_X4_9 h0, ck_X4 h0, hF5]
set_option maxRecDepth 100000 in
theorem eX4_tokenNumber {ν : zM} {sh : Nat → Nat} {U : zCS} {x0 : Nat} (h0 : isX4 sh x0) : fX4_tokenNumber (cmem ν sh U) x0 = gX4_tokenNumber U x0 := by simp only [fX4_tokenNumber, gX4_tokenNumber, zgd_t, zmap_ite, zmap_some, zmap_none, zmap_zb0, zmap_zni, zq2_k, zq3_k, zq4_k, zq5_k, zzb1_q, zzb2_q, zzb3_q, zzb4_q, zzb5_q, zmap_zb1, zmap_zb2, zmap_zb3, zmap_zb4, zmap_zb5, zmap_zb6, zmap_zc1, zmap_zc2, zmap_zc3, zmap_zc4, ca_9001 (isX4_m53 h0), cg_X4_10 h0, cg_X4_6 h0, cg_X4_9 h0, ck_X4 h0, (eX4_tokenNumber_l7 (h0 := h0))]
noncomputable def gX4_isFull (U : zCS) (x0 : Nat) (x1 : Int32) : Option (Int32) :=
  if x1 < 16 then (
  if x1 < 14 then (
  if x1 < 9 then (
  if x1 < 7 then (
  zb1 (if x1 < 4 then (
  some 0)
  else (
  if (U.1 (x0 + 1) 4) < 6 then (
  some 0)
  else (
  some 1)) : Option (Int32)) fun (s1 : Int32) =>
  zb1 (zbz s1) fun v3 =>
  some v3)
  else (
  zb1 (if (U.1 (x0 + 1) 8) < 4 then (
  some 0)
  else (
  some 1) : Option (Int32)) fun (s13 : Int32) =>
  zb1 (zbz s13) fun v15 =>
  some v15))
  else (
  zb1 (if (U.1 (x0 + 12) 0) < 40 then (
  some 0)
  else (
  some 1) : Option (Int32)) fun (s21 : Int32) =>
  zb1 (zbz s21) fun v23 =>
  some v23))
  else (
  zb1 (if x1 = 14 then (
  if (U.1 (x0 + 16) 1) < 10 then (
  some 0)
  else (
  some 1))
  else (
  some 0) : Option (Int32)) fun (s25 : Int32) =>
  zb1 (zbz s25) fun v27 =>
  some v27))
  else (
  zb1 (if (U.1 (x0 + 19) 0) < 8 then (
  some 0)
  else (
  some 1) : Option (Int32)) fun (s37 : Int32) =>
  zb1 (zbz s37) fun v39 =>
  some v39)
set_option maxRecDepth 100000 in
theorem eX4_isFull {ν : zM} {sh : Nat → Nat} {U : zCS} {x0 : Nat} {x1 : Int32} (h0 : isX4 sh x0) : fX4_isFull (cmem ν sh U) x0 x1 = gX4_isFull U x0 x1 := by simp only [fX4_isFull, gX4_isFull, zgd_t, zmap_ite, zmap_some, zmap_none, zmap_zb0, zmap_zni, zq2_k, zq3_k, zq4_k, zq5_k, zzb1_q, zzb2_q, zzb3_q, zzb4_q, zzb5_q, zmap_zb1, zmap_zb2, zmap_zb3, zmap_zb4, zmap_zb5, zmap_zb6, zmap_zc1, zmap_zc2, zmap_zc3, zmap_zc4, cg_X2_0 (isX4_12 h0), cg_X3_1 (isX4_16 h0), cg_X4_0 h0, cg_X4_1 h0, cg_X4_2 h0, cg_X4_3 h0, cg_X6_0 (isX4_19 h0), cg_X9_4 (isX4_1 h0), cg_X9_8 (isX4_1 h0), ck_X4 h0]
noncomputable def gX4_mark (U : zCS) (x0 : Nat) (x1 : Int32) (x2 : Int32) : Option (zCS) :=
  zc1 (if (U.1 x0 4) = 0 then (
  zb1 (some (csI U x0 4 x1)) fun U5 =>
  zb1 (some (csI U5 x0 5 x2)) fun U7 =>
  some U7)
  else (
  some U) : Option (zCS)) fun (m3 : zCS) =>
  some m3
set_option maxRecDepth 100000 in
theorem eX4_mark {ν : zM} {sh : Nat → Nat} {U : zCS} {x0 : Nat} {x1 : Int32} {x2 : Int32} (h0 : isX4 sh x0) : fX4_mark (cmem ν sh U) x0 x1 x2 = Option.map (cmem ν sh) (gX4_mark U x0 x1 x2) := by simp only [fX4_mark, gX4_mark, zgd_t, zmap_ite, zmap_some, zmap_none, zmap_zb0, zmap_zni, zq2_k, zq3_k, zq4_k, zq5_k, zzc1_some, zzc2_some, zzc3_some, zzc4_some, zzc5_some, zzc6_some, zzb1_q, zzb2_q, zzb3_q, zzb4_q, zzb5_q, zzc1_q, zzc2_q, zzc3_q, zzc4_q, zzc5_q, zmap_zb1, zmap_zb2, zmap_zb3, zmap_zb4, zmap_zb5, zmap_zb6, zzc1_ite, zzc2_ite, zzc3_ite, zzc4_ite, zmap_zc1, zmap_zc2, zmap_zc3, zmap_zc4, zzc1_zb0, zzc1_zb1, zzc1_zb2, zzc1_zb3, zzc1_zb4, zzc2_zb0, zzc2_zb1, zzc2_zb2, zzc2_zb3, zzc2_zb4, zzc3_zb0, zzc3_zb1, zzc3_zb2, zzc3_zb3, zzc3_zb4, zzc4_zb0, zzc4_zb1, zzc4_zb2, zzc4_zb3, zzc4_zb4, cg_X4_4 h0, cp_X4_4 h0, cp_X4_5 h0, ck_X4 h0]
