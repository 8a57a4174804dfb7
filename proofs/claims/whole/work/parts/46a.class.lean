noncomputable def gX9_isMute (U : zCS) (x0 : Nat) (x1 : Int32) (x2 : Int32) : Option (Int32) :=
  zb1 (if x1 = 1 then (
  zb1 (zag 100 (U.2.1 (x0 + 10)) x2) fun v7 =>
  if (v7 &&& 2) = 0 then (
  some 0)
  else (
  some 1))
  else (
  some 0) : Option (Int32)) fun (s1 : Int32) =>
  zb1 (zbz s1) fun v3 =>
  some v3
set_option maxRecDepth 100000 in
theorem eX9_isMute {ν : zM} {sh : Nat → Nat} {U : zCS} {x0 : Nat} {x1 : Int32} {x2 : Int32} (h0 : isX9 sh x0) : fX9_isMute (cmem ν sh U) x0 x1 x2 = gX9_isMute U x0 x1 x2 := by simp only [fX9_isMute, gX9_isMute, zgd_t, zmap_ite, zmap_some, zmap_none, zmap_zb0, zmap_zni, zq2_k, zq3_k, zq4_k, zq5_k, zzb1_q, zzb2_q, zzb3_q, zzb4_q, zzb5_q, zmap_zb1, zmap_zb2, zmap_zb3, zmap_zb4, zmap_zb5, zmap_zb6, zmap_zc1, zmap_zc2, zmap_zc3, zmap_zc4, ca_1100 (isX9_10 h0), cg_X9_12 h0, ck_X9 h0]
noncomputable def gX9_way (U : zCS) (x0 : Nat) (x1 : Int32) (x2 : Int32) (x3 : Int32) : Option (Int32) :=
  if x3 = 0 then (
  some (if 0 ≤ (x1 - x2) then (x1 - x2) else 0 - (x1 - x2) : Int32))
  else (
  zb1 (if x3 = 1 then (
  some (x1 + x2))
  else (
  some (((2 * (U.1 x0 0)) - x1) - x2)) : Option (Int32)) fun (s1 : Int32) =>
  some s1)
set_option maxRecDepth 100000 in
theorem eX9_way {ν : zM} {sh : Nat → Nat} {U : zCS} {x0 : Nat} {x1 : Int32} {x2 : Int32} {x3 : Int32} (h0 : isX9 sh x0) : fX9_way (cmem ν sh U) x0 x1 x2 x3 = gX9_way U x0 x1 x2 x3 := by simp only [fX9_way, gX9_way, zgd_t, zmap_ite, zmap_some, zmap_none, zmap_zb0, zmap_zni, zq2_k, zq3_k, zq4_k, zq5_k, zzb1_q, zzb2_q, zzb3_q, zzb4_q, zzb5_q, zmap_zb1, zmap_zb2, zmap_zb3, zmap_zb4, zmap_zb5, zmap_zb6, zmap_zc1, zmap_zc2, zmap_zc3, zmap_zc4, cg_X9_0 h0, ck_X9 h0]
noncomputable def gX9_carries (U : zCS) (x0 : Nat) (x1 : Int32) (x2 : Int32) (x3 : Int32) (x4 : Int32) (x5 : Int32) : Option (Int32) :=
  zb1 (gX9_isMute U x0 x5 x3) fun v2 =>
  zb1 (if v2 = 0 then (
  zb1 (gX9_way U x0 x1 x4 x5) fun v8 =>
  zb1 (zag 3 (fun j => (zrow 0).getD j 0) x2) fun v9 =>
  if v9 < v8 then (
  some 0)
  else (
  some 1))
  else (
  some 0) : Option (Int32)) fun (s3 : Int32) =>
  zb1 (zbz s3) fun v5 =>
  some v5
set_option maxRecDepth 100000 in
theorem eX9_carries {ν : zM} {sh : Nat → Nat} {U : zCS} {x0 : Nat} {x1 : Int32} {x2 : Int32} {x3 : Int32} {x4 : Int32} {x5 : Int32} (h0 : isX9 sh x0) (hst : stOk ν sh) : fX9_carries (cmem ν sh U) x0 x1 x2 x3 x4 x5 = gX9_carries U x0 x1 x2 x3 x4 x5 := by simp only [fX9_carries, gX9_carries, zgd_t, zmap_ite, zmap_some, zmap_none, zmap_zb0, zmap_zni, zq2_k, zq3_k, zq4_k, zq5_k, zzb1_q, zzb2_q, zzb3_q, zzb4_q, zzb5_q, zmap_zb1, zmap_zb2, zmap_zb3, zmap_zb4, zmap_zb5, zmap_zb6, zmap_zc1, zmap_zc2, zmap_zc3, zmap_zc4, (eX9_isMute (h0 := h0)), (eX9_way (h0 := h0)), cr_0 hst, ck_X9 h0]
noncomputable def gX0_isSilent_l27 (F2 : Int32 → Option (Int32)) (x5_1 : Int32) (U : zCS) (x0 : Nat) (x1 : Int32) (x3 : Int32) (x4 : Int32) (F7 : Int32 → Option (Int32)) (x6_6 : Int32) : Option (Int32) :=
  if 2 < x6_6 then (
  F2 (x5_1 + 1))
  else (
  zb1 (zag 6 (U.2.1 (x0 + 5)) x5_1) fun v11 =>
  zb1 (gX9_carries U x0 x1 x3 x4 v11 x6_6) fun v14 =>
  if v14 = 0 then (
  F7 (x6_6 + 1))
  else (
  some 0))
noncomputable def gX0_isSilent_l3 (U : zCS) (x0 : Nat) (x2 : Int32) (x1 : Int32) (x3 : Int32) (x4 : Int32) (F2 : Int32 → Option (Int32)) (x5_1 : Int32) : Option (Int32) :=
  if (U.1 x0 4) ≤ x5_1 then (
  some 1)
  else (
  if ((x2 >>> (x5_1 &&& 31)) &&& 1) = 0 then (
  F2 (x5_1 + 1))
  else (
  zf1 (gX0_isSilent_l27 F2 x5_1 U x0 x1 x3 x4) zfu 0))
noncomputable def gX0_isSilent (U : zCS) (x0 : Nat) (x1 : Int32) (x2 : Int32) (x3 : Int32) (x4 : Int32) : Option (Int32) :=
  zf1 (gX0_isSilent_l3 U x0 x2 x1 x3 x4) zfu 0
set_option maxRecDepth 100000 in
theorem eX0_isSilent_l27 {ν : zM} {sh : Nat → Nat} {x5_1 : Int32} {U : zCS} {x0 : Nat} {x1 : Int32} {x3 : Int32} {x4 : Int32} {x6_6 : Int32} (h0 : isX9 sh x0) (hst : stOk ν sh) {F2 : Int32 → Option (Int32)} {G2 : Int32 → Option (Int32)} (hF2 : ∀ (x5_1 : Int32), F2 x5_1 = G2 x5_1) (n : Nat) : zf1 (fX0_isSilent_l27 F2 x5_1 (cmem ν sh U) x0 x1 x3 x4) n x6_6 = zf1 (gX0_isSilent_l27 G2 x5_1 U x0 x1 x3 x4) n x6_6 := by
  refine zf1_c (fun F7 G7 hF7 x6_6 => ?_) n x6_6
  simp only [fX0_isSilent_l27, gX0_isSilent_l27, zgd_t, zmap_ite, zmap_some, zmap_none, zmap_zb0, zmap_zni, zq2_k, zq3_k, zq4_k, zq5_k, zzb1_q, zzb2_q, zzb3_q, zzb4_q, zzb5_q, zmap_zb1, zmap_zb2, zmap_zb3, zmap_zb4, zmap_zb5, zmap_zb6, zmap_zc1, zmap_zc2, zmap_zc3, zmap_zc4, (eX9_carries (h0 := h0) (hst := hst)), ca_1006 (isX9_5 h0), cg_X9_4 h0, cg_X9_6 h0, hF2, hF7]
set_option maxRecDepth 100000 in
theorem eX0_isSilent_l3 {ν : zM} {sh : Nat → Nat} {U : zCS} {x0 : Nat} {x2 : Int32} {x1 : Int32} {x3 : Int32} {x4 : Int32} {x5_1 : Int32} (h0 : isX9 sh x0) (hst : stOk ν sh)  (n : Nat) : zf1 (fX0_isSilent_l3 (cmem ν sh U) x0 x2 x1 x3 x4) n x5_1 = zf1 (gX0_isSilent_l3 U x0 x2 x1 x3 x4) n x5_1 := by
  refine zf1_c (fun F2 G2 hF2 x5_1 => ?_) n x5_1
  simp only [fX0_isSilent_l3, gX0_isSilent_l3, zgd_t, zmap_ite, zmap_some, zmap_none, zmap_zb0, zmap_zni, zq2_k, zq3_k, zq4_k, zq5_k, zzb1_q, zzb2_q, zzb3_q, zzb4_q, zzb5_q, zmap_zb1, zmap_zb2, zmap_zb3, zmap_zb4, zmap_zb5, zmap_zb6, zmap_zc1, zmap_zc2, zmap_zc3, zmap_zc4, (eX9_carries (h0 := h0) (hst := hst)), ca_1006 (isX9_5 h0), cg_X9_4 h0, cg_X9_6 h0, (eX0_isSilent_l27 (h0 := h0) (hst := hst) (hF2 := hF2)), hF2]
set_option maxRecDepth 100000 in
theorem eX0_isSilent {ν : zM} {sh : Nat → Nat} {U : zCS} {x0 : Nat} {x1 : Int32} {x2 : Int32} {x3 : Int32} {x4 : Int32} (h0 : isX9 sh x0) (hst : stOk ν sh) : fX0_isSilent (cmem ν sh U) x0 x1 x2 x3 x4 = gX0_isSilent U x0 x1 x2 x3 x4 := by simp only [fX0_isSilent, gX0_isSilent, zgd_t, zmap_ite, zmap_some, zmap_none, zmap_zb0, zmap_zni, zq2_k, zq3_k, zq4_k, zq5_k, zzb1_q, zzb2_q, zzb3_q, zzb4_q, zzb5_q, zmap_zb1, zmap_zb2, zmap_zb3, zmap_zb4, zmap_zb5, zmap_zb6, zmap_zc1, zmap_zc2, zmap_zc3, zmap_zc4, (eX9_carries (h0 := h0) (hst := hst)), ca_1006 (isX9_5 h0), cg_X9_4 h0, cg_X9_6 h0, (eX0_isSilent_l3 (h0 := h0) (hst := hst))]
noncomputable def gX0_silentPlaces_l6 (U : zCS) (x0 : Nat) (x1 : Int32) (x2 : Int32) (x3 : Int32) (F3 : Int32 → Int32 → Option (Int32)) (x4_1 : Int32) (x5_2 : Int32) : Option (Int32) :=
  if (U.1 x0 0) < x5_2 then (
  some x4_1)
  else (
  zb1 (gX0_isSilent U x0 x5_2 x1 x2 x3) fun v10 =>
  zb1 (if v10 = 0 then (
  some x4_1)
  else (
  some (x4_1 + 1)) : Option (Int32)) fun (x4_11 : Int32) =>
  F3 x4_11 (x5_2 + 1))
noncomputable def gX0_silentPlaces (U : zCS) (x0 : Nat) (x1 : Int32) (x2 : Int32) (x3 : Int32) : Option (Int32) :=
  zb1 (zf2 (gX0_silentPlaces_l6 U x0 x1 x2 x3) zfu 0 0 : Option (Int32)) fun (x4_5 : Int32) =>
  some x4_5
set_option maxRecDepth 100000 in
theorem eX0_silentPlaces_l6 {ν : zM} {sh : Nat → Nat} {U : zCS} {x0 : Nat} {x1 : Int32} {x2 : Int32} {x3 : Int32} {x4_1 : Int32} {x5_2 : Int32} (h0 : isX9 sh x0) (hst : stOk ν sh)  (n : Nat) : zf2 (fX0_silentPlaces_l6 (cmem ν sh U) x0 x1 x2 x3) n x4_1 x5_2 = zf2 (gX0_silentPlaces_l6 U x0 x1 x2 x3) n x4_1 x5_2 := by
  refine zf2_c (fun F3 G3 hF3 x4_1 x5_2 => ?_) n x4_1 x5_2
  simp only [fX0_silentPlaces_l6, gX0_silentPlaces_l6, zgd_t, zmap_ite, zmap_some, zmap_none, zmap_zb0, zmap_zni, zq2_k, zq3_k, zq4_k, zq5_k, zzb1_q, zzb2_q, zzb3_q, zzb4_q, zzb5_q, zmap_zb1, zmap_zb2, zmap_zb3, zmap_zb4, zmap_zb5, zmap_zb6, zmap_zc1, zmap_zc2, zmap_zc3, zmap_zc4, (eX0_isSilent (h0 := h0) (hst := hst)), cg_X9_0 h0, hF3]
set_option maxRecDepth 100000 in
theorem eX0_silentPlaces {ν : zM} {sh : Nat → Nat} {U : zCS} {x0 : Nat} {x1 : Int32} {x2 : Int32} {x3 : Int32} (h0 : isX9 sh x0) (hst : stOk ν sh) : fX0_silentPlaces (cmem ν sh U) x0 x1 x2 x3 = gX0_silentPlaces U x0 x1 x2 x3 := by simp only [fX0_silentPlaces, gX0_silentPlaces, zgd_t, zmap_ite, zmap_some, zmap_none, zmap_zb0, zmap_zni, zq2_k, zq3_k, zq4_k, zq5_k, zzb1_q, zzb2_q, zzb3_q, zzb4_q, zzb5_q, zmap_zb1, zmap_zb2, zmap_zb3, zmap_zb4, zmap_zb5, zmap_zb6, zmap_zc1, zmap_zc2, zmap_zc3, zmap_zc4, (eX0_isSilent (h0 := h0) (hst := hst)), cg_X9_0 h0, (eX0_silentPlaces_l6 (h0 := h0) (hst := hst))]
noncomputable def gX0_leastSilent_l3 (U : zCS) (x0 : Nat) (x1 : Int32) (x2 : Int32) (x3 : Int32) (F2 : Int32 → Option (Int32)) (x4_1 : Int32) : Option (Int32) :=
  if (U.1 x0 0) < x4_1 then (
  some (-1))
  else (
  zb1 (gX0_isSilent U x0 x4_1 x1 x2 x3) fun v7 =>
  if v7 = 0 then (
  F2 (x4_1 + 1))
  else (
  some x4_1))
noncomputable def gX0_leastSilent (U : zCS) (x0 : Nat) (x1 : Int32) (x2 : Int32) (x3 : Int32) : Option (Int32) :=
  zf1 (gX0_leastSilent_l3 U x0 x1 x2 x3) zfu 0
set_option maxRecDepth 100000 in
theorem eX0_leastSilent_l3 {ν : zM} {sh : Nat → Nat} {U : zCS} {x0 : Nat} {x1 : Int32} {x2 : Int32} {x3 : Int32} {x4_1 : Int32} (h0 : isX9 sh x0) (hst : stOk ν sh)  (n : Nat) : zf1 (fX0_leastSilent_l3 (cmem ν sh U) x0 x1 x2 x3) n x4_1 = zf1 (gX0_leastSilent_l3 U x0 x1 x2 x3) n x4_1 := by
  refine zf1_c (fun F2 G2 hF2 x4_1 => ?_) n x4_1
  simp only [fX0_leastSilent_l3, gX0_leastSilent_l3, zgd_t, zmap_ite, zmap_some, zmap_none, zmap_zb0, zmap_zni, zq2_k, zq3_k, zq4_k, zq5_k, zzb1_q, zzb2_q, zzb3_q, zzb4_q, zzb5_q, zmap_zb1, zmap_zb2, zmap_zb3, zmap_zb4, zmap_zb5, zmap_zb6, zmap_zc1, zmap_zc2, zmap_zc3, zmap_zc4, (eX0_isSilent (h0 := h0) (hst := hst)), cg_X9_0 h0, hF2]
set_option maxRecDepth 100000 in
theorem eX0_leastSilent {ν : zM} {sh : Nat → Nat} {U : zCS} {x0 : Nat} {x1 : Int32} {x2 : Int32} {x3 : Int32} (h0 : isX9 sh x0) (hst : stOk ν sh) : fX0_leastSilent (cmem ν sh U) x0 x1 x2 x3 = gX0_leastSilent U x0 x1 x2 x3 := by simp only [fX0_leastSilent, gX0_leastSilent, zgd_t, zmap_ite, zmap_some, zmap_none, zmap_zb0, zmap_zni, zq2_k, zq3_k, zq4_k, zq5_k, zzb1_q, zzb2_q, zzb3_q, zzb4_q, zzb5_q, zmap_zb1, zmap_zb2, zmap_zb3, zmap_zb4, zmap_zb5, zmap_zb6, zmap_zc1, zmap_zc2, zmap_zc3, zmap_zc4, (eX0_isSilent (h0 := h0) (hst := hst)), cg_X9_0 h0, (eX0_leastSilent_l3 (h0 := h0) (hst := hst))]
noncomputable def gX9_judge (U : zCS) (x0 : Nat) (x1 : Int32) : Option (Int32) :=
  zb1 (zag 100 (U.2.1 (x0 + 10)) x1) fun v3 =>
  zb1 (if (v3 &&& 1) = 0 then (
  some 2)
  else (
  some 1) : Option (Int32)) fun (s5 : Int32) =>
  some s5
set_option maxRecDepth 100000 in
theorem eX9_judge {ν : zM} {sh : Nat → Nat} {U : zCS} {x0 : Nat} {x1 : Int32} (h0 : isX9 sh x0) : fX9_judge (cmem ν sh U) x0 x1 = gX9_judge U x0 x1 := by simp only [fX9_judge, gX9_judge, zgd_t, zmap_ite, zmap_some, zmap_none, zmap_zb0, zmap_zni, zq2_k, zq3_k, zq4_k, zq5_k, zzb1_q, zzb2_q, zzb3_q, zzb4_q, zzb5_q, zmap_zb1, zmap_zb2, zmap_zb3, zmap_zb4, zmap_zb5, zmap_zb6, zmap_zc1, zmap_zc2, zmap_zc3, zmap_zc4, ca_1100 (isX9_10 h0), cg_X9_12 h0, ck_X9 h0]
noncomputable def gX0_judgedHearers_l13 (U : zCS) (x0 : Nat) (x1 : Int32) (x2 : Int32) (x3 : Int32) (v2 : Int32) (F5 : Int32 → Int32 → Option (Int32)) (x4_3 : Int32) (x6_4 : Int32) : Option (Int32) :=
  if (U.1 x0 4) ≤ x6_4 then (
  some x4_3)
  else (
  zb1 (zag 6 (U.2.1 (x0 + 5)) x6_4) fun v13 =>
  zb1 (gX9_carries U x0 x1 x2 x3 v13 v2) fun v16 =>
  zb1 (if v16 = 0 then (
  some x4_3)
  else (
  some (x4_3 + 1)) : Option (Int32)) fun (x4_17 : Int32) =>
  F5 x4_17 (x6_4 + 1))
noncomputable def gX0_judgedHearers (U : zCS) (x0 : Nat) (x1 : Int32) (x2 : Int32) (x3 : Int32) : Option (Int32) :=
  zb1 (gX9_judge U x0 x3) fun v2 =>
  zb1 (zf2 (gX0_judgedHearers_l13 U x0 x1 x2 x3 v2) zfu 0 0 : Option (Int32)) fun (x4_7 : Int32) =>
  some x4_7
set_option maxRecDepth 100000 in
theorem eX0_judgedHearers_l13 {ν : zM} {sh : Nat → Nat} {U : zCS} {x0 : Nat} {x1 : Int32} {x2 : Int32} {x3 : Int32} {v2 : Int32} {x4_3 : Int32} {x6_4 : Int32} (h0 : isX9 sh x0) (hst : stOk ν sh)  (n : Nat) : zf2 (fX0_judgedHearers_l13 (cmem ν sh U) x0 x1 x2 x3 v2) n x4_3 x6_4 = zf2 (gX0_judgedHearers_l13 U x0 x1 x2 x3 v2) n x4_3 x6_4 := by
  refine zf2_c (fun F5 G5 hF5 x4_3 x6_4 => ?_) n x4_3 x6_4
  simp only [fX0_judgedHearers_l13, gX0_judgedHearers_l13, zgd_t, zmap_ite, zmap_some, zmap_none, zmap_zb0, zmap_zni, zq2_k, zq3_k, zq4_k, zq5_k, zzb1_q, zzb2_q, zzb3_q, zzb4_q, zzb5_q, zmap_zb1, zmap_zb2, zmap_zb3, zmap_zb4, zmap_zb5, zmap_zb6, zmap_zc1, zmap_zc2, zmap_zc3, zmap_zc4, (eX9_carries (h0 := h0) (hst := hst)), (eX9_judge (h0 := h0)), ca_1006 (isX9_5 h0), cg_X9_4 h0, cg_X9_6 h0, hF5]
set_option maxRecDepth 100000 in
theorem eX0_judgedHearers {ν : zM} {sh : Nat → Nat} {U : zCS} {x0 : Nat} {x1 : Int32} {x2 : Int32} {x3 : Int32} (h0 : isX9 sh x0) (hst : stOk ν sh) : fX0_judgedHearers (cmem ν sh U) x0 x1 x2 x3 = gX0_judgedHearers U x0 x1 x2 x3 := by simp only [fX0_judgedHearers, gX0_judgedHearers, zgd_t, zmap_ite, zmap_some, zmap_none, zmap_zb0, zmap_zni, zq2_k, zq3_k, zq4_k, zq5_k, zzb1_q, zzb2_q, zzb3_q, zzb4_q, zzb5_q, zmap_zb1, zmap_zb2, zmap_zb3, zmap_zb4, zmap_zb5, zmap_zb6, zmap_zc1, zmap_zc2, zmap_zc3, zmap_zc4, (eX9_carries (h0 := h0) (hst := hst)), (eX9_judge (h0 := h0)), ca_1006 (isX9_5 h0), cg_X9_4 h0, cg_X9_6 h0, (eX0_judgedHearers_l13 (h0 := h0) (hst := hst))]
noncomputable def gX0_fullestPlace_l14 (U : zCS) (x0 : Nat) (x1 : Int32) (x2 : Int32) (F6 : Int32 → Int32 → Int32 → Option (Int32)) (x3_3 : Int32) (x4_4 : Int32) (x5_5 : Int32) : Option (Int32) :=
  if (U.1 x0 0) < x5_5 then (
  some x3_3)
  else (
  zb1 (gX0_judgedHearers U x0 x5_5 x1 x2) fun v13 =>
  zb2 (if v13 ≤ x4_4 then (
  some (x3_3, x4_4))
  else (
  some (x5_5, v13)) : Option (Int32 × Int32)) fun (x3_14 : Int32) (x4_15 : Int32) =>
  F6 x3_14 x4_15 (x5_5 + 1))
noncomputable def gX0_fullestPlace (U : zCS) (x0 : Nat) (x1 : Int32) (x2 : Int32) : Option (Int32) :=
  zb1 (gX0_judgedHearers U x0 0 x1 x2) fun v2 =>
  zb1 (zf3 (gX0_fullestPlace_l14 U x0 x1 x2) zfu 0 v2 1 : Option (Int32)) fun (x3_8 : Int32) =>
  some x3_8
set_option maxRecDepth 100000 in
theorem eX0_fullestPlace_l14 {ν : zM} {sh : Nat → Nat} {U : zCS} {x0 : Nat} {x1 : Int32} {x2 : Int32} {x3_3 : Int32} {x4_4 : Int32} {x5_5 : Int32} (h0 : isX9 sh x0) (hst : stOk ν sh)  (n : Nat) : zf3 (fX0_fullestPlace_l14 (cmem ν sh U) x0 x1 x2) n x3_3 x4_4 x5_5 = zf3 (gX0_fullestPlace_l14 U x0 x1 x2) n x3_3 x4_4 x5_5 := by
  refine zf3_c (fun F6 G6 hF6 x3_3 x4_4 x5_5 => ?_) n x3_3 x4_4 x5_5
  simp only [fX0_fullestPlace_l14, gX0_fullestPlace_l14, zgd_t, zmap_ite, zmap_some, zmap_none, zmap_zb0, zmap_zni, zq2_k, zq3_k, zq4_k, zq5_k, zzb1_q, zzb2_q, zzb3_q, zzb4_q, zzb5_q, zmap_zb1, zmap_zb2, zmap_zb3, zmap_zb4, zmap_zb5, zmap_zb6, zmap_zc1, zmap_zc2, zmap_zc3, zmap_zc4, (eX0_judgedHearers (h0 := h0) (hst := hst)), cg_X9_0 h0, hF6]
set_option maxRecDepth 100000 in
theorem eX0_fullestPlace {ν : zM} {sh : Nat → Nat} {U : zCS} {x0 : Nat} {x1 : Int32} {x2 : Int32} (h0 : isX9 sh x0) (hst : stOk ν sh) : fX0_fullestPlace (cmem ν sh U) x0 x1 x2 = gX0_fullestPlace U x0 x1 x2 := by simp only [fX0_fullestPlace, gX0_fullestPlace, zgd_t, zmap_ite, zmap_some, zmap_none, zmap_zb0, zmap_zni, zq2_k, zq3_k, zq4_k, zq5_k, zzb1_q, zzb2_q, zzb3_q, zzb4_q, zzb5_q, zmap_zb1, zmap_zb2, zmap_zb3, zmap_zb4, zmap_zb5, zmap_zb6, zmap_zc1, zmap_zc2, zmap_zc3, zmap_zc4, (eX0_judgedHearers (h0 := h0) (hst := hst)), cg_X9_0 h0, (eX0_fullestPlace_l14 (h0 := h0) (hst := hst))]
noncomputable def gX0_apart (U : zCS) (x0 : Nat) (x1 : Int32) (x2 : Int32) : Option (Int32) :=
  zb1 (zag 6 (U.2.1 (x0 + 5)) x1) fun v3 =>
  zb1 (zag 6 (U.2.1 (x0 + 5)) x2) fun v7 =>
  some (if 0 ≤ (v3 - v7) then (v3 - v7) else 0 - (v3 - v7) : Int32)
set_option maxRecDepth 100000 in
theorem eX0_apart {ν : zM} {sh : Nat → Nat} {U : zCS} {x0 : Nat} {x1 : Int32} {x2 : Int32} (h0 : isX9 sh x0) : fX0_apart (cmem ν sh U) x0 x1 x2 = gX0_apart U x0 x1 x2 := by simp only [fX0_apart, gX0_apart, zgd_t, zmap_ite, zmap_some, zmap_none, zmap_zb0, zmap_zni, zq2_k, zq3_k, zq4_k, zq5_k, zzb1_q, zzb2_q, zzb3_q, zzb4_q, zzb5_q, zmap_zb1, zmap_zb2, zmap_zb3, zmap_zb4, zmap_zb5, zmap_zb6, zmap_zc1, zmap_zc2, zmap_zc3, zmap_zc4, ca_1006 (isX9_5 h0), cg_X9_6 h0]
noncomputable def gX0_sayOn_l3 (x1 : Nat) (x2 : Int32) (x3 : Int32) (x0 : Nat) (x4 : Int32) (F3 : Int32 → zCS → Option (zCS)) (x5_1 : Int32) (m2 : zCS) : Option (zCS) :=
  if (m2.1 x1 4) ≤ x5_1 then (
  some m2)
  else (
  zb1 (gX0_apart m2 x1 x2 x5_1) fun v10 =>
  zb1 (zag 3 (fun j => (zrow 0).getD j 0) x3) fun v11 =>
  zc1 (if v10 ≤ v11 then (
  zb1 (zag 6 (m2.2.1 (x0 + 1)) x2) fun v17 =>
  zb1 (if x4 = 0 then (
  some v10)
  else (
  some 1) : Option (Int32)) fun (s19 : Int32) =>
  zb1 (zag 6 (m2.2.1 (x0 + 1)) x5_1) fun v23 =>
  if v23 = (-1) then (
  zb1 (zas 6 (m2.2.1 (x0 + 1)) x5_1 (v17 + s19)) fun f27 =>
  zb1 (some (csA m2 (x0 + 1) f27)) fun U27 =>
  some U27)
  else (
  zb1 (zag 6 (m2.2.1 (x0 + 1)) x5_1) fun v31 =>
  if v31 ≤ (v17 + s19) then (
  some m2)
  else (
  zb1 (zas 6 (m2.2.1 (x0 + 1)) x5_1 (v17 + s19)) fun f35 =>
  zb1 (some (csA m2 (x0 + 1) f35)) fun U35 =>
  some U35)))
  else (
  some m2) : Option (zCS)) fun (m13 : zCS) =>
  F3 (x5_1 + 1) m13)
noncomputable def gX0_sayOn (U : zCS) (x0 : Nat) (x1 : Nat) (x2 : Int32) (x3 : Int32) (x4 : Int32) : Option (zCS) :=
  zb1 (zf2 (gX0_sayOn_l3 x1 x2 x3 x0 x4) zfu 0 U : Option (zCS)) fun (m5 : zCS) =>
  some m5
set_option maxRecDepth 100000 in
theorem eX0_sayOn_l3 {ν : zM} {sh : Nat → Nat} {x1 : Nat} {x2 : Int32} {x3 : Int32} {x0 : Nat} {x4 : Int32} {x5_1 : Int32} {m2 : zCS} (h0 : isX0 sh x0) (h1 : isX9 sh x1) (hst : stOk ν sh)  (n : Nat) : zf2 (fX0_sayOn_l3 x1 x2 x3 x0 x4) n x5_1 (cmem ν sh m2) = Option.map (cmem ν sh) (zf2 (gX0_sayOn_l3 x1 x2 x3 x0 x4) n x5_1 m2) := by
  refine zf2_m (fun F3 G3 hF3 x5_1 m2 => ?_) n x5_1 m2
  simp only [fX0_sayOn_l3, gX0_sayOn_l3, zgd_t, zmap_ite, zmap_some, zmap_none, zmap_zb0, zmap_zni, zq2_k, zq3_k, zq4_k, zq5_k, zzc1_some, zzc2_some, zzc3_some, zzc4_some, zzc5_some, zzc6_some, zzb1_q, zzb2_q, zzb3_q, zzb4_q, zzb5_q, zzc1_q, zzc2_q, zzc3_q, zzc4_q, zzc5_q, zmap_zb1, zmap_zb2, zmap_zb3, zmap_zb4, zmap_zb5, zmap_zb6, zzc1_ite, zzc2_ite, zzc3_ite, zzc4_ite, zmap_zc1, zmap_zc2, zmap_zc3, zmap_zc4, zzc1_zb0, zzc1_zb1, zzc1_zb2, zzc1_zb3, zzc1_zb4, zzc2_zb0, zzc2_zb1, zzc2_zb2, zzc2_zb3, zzc2_zb4, zzc3_zb0, zzc3_zb1, zzc3_zb2, zzc3_zb3, zzc3_zb4, zzc4_zb0, zzc4_zb1, zzc4_zb2, zzc4_zb3, zzc4_zb4, (eX0_apart (h0 := h1)), ca_1006 (isX0_1 h0), cg_X0_0 h0, cg_X9_4 h1, cr_0 hst, cs_1006 (isX0_1 h0), ck_X0 h0, hF3]
set_option maxRecDepth 100000 in
theorem eX0_sayOn {ν : zM} {sh : Nat → Nat} {U : zCS} {x0 : Nat} {x1 : Nat} {x2 : Int32} {x3 : Int32} {x4 : Int32} (h0 : isX0 sh x0) (h1 : isX9 sh x1) (hst : stOk ν sh) : fX0_sayOn (cmem ν sh U) x0 x1 x2 x3 x4 = Option.map (cmem ν sh) (gX0_sayOn U x0 x1 x2 x3 x4) := by simp only [fX0_sayOn, gX0_sayOn, zgd_t, zmap_ite, zmap_some, zmap_none, zmap_zb0, zmap_zni, zq2_k, zq3_k, zq4_k, zq5_k, zzc1_some, zzc2_some, zzc3_some, zzc4_some, zzc5_some, zzc6_some, zzb1_q, zzb2_q, zzb3_q, zzb4_q, zzb5_q, zzc1_q, zzc2_q, zzc3_q, zzc4_q, zzc5_q, zmap_zb1, zmap_zb2, zmap_zb3, zmap_zb4, zmap_zb5, zmap_zb6, zzc1_ite, zzc2_ite, zzc3_ite, zzc4_ite, zmap_zc1, zmap_zc2, zmap_zc3, zmap_zc4, zzc1_zb0, zzc1_zb1, zzc1_zb2, zzc1_zb3, zzc1_zb4, zzc2_zb0, zzc2_zb1, zzc2_zb2, zzc2_zb3, zzc2_zb4, zzc3_zb0, zzc3_zb1, zzc3_zb2, zzc3_zb3, zzc3_zb4, zzc4_zb0, zzc4_zb1, zzc4_zb2, zzc4_zb3, zzc4_zb4, (eX0_apart (h0 := h1)), ca_1006 (isX0_1 h0), cg_X0_0 h0, cg_X9_4 h1, cr_0 hst, cs_1006 (isX0_1 h0), ck_X0 h0, (eX0_sayOn_l3 (h0 := h0) (h1 := h1) (hst := hst))]
noncomputable def gX0_reach_l30 (x1 : Nat) (x0 : Nat) (x3 : Int32) (x4 : Int32) (F19 : Int32 → zCS → Option (zCS)) (x6_17 : Int32) (m18 : zCS) : Option (zCS) :=
  if (m18.1 x1 4) ≤ x6_17 then (
  some m18)
  else (
  zb1 (zag 6 (m18.2.1 (x0 + 1)) x6_17) fun v27 =>
  zc1 (if v27 = (-1) then (
  some m18)
  else (
  zb1 (gX0_sayOn m18 x0 x1 x6_17 x3 x4) fun U32 =>
  some U32) : Option (zCS)) fun (m29 : zCS) =>
  F19 (x6_17 + 1) m29)
noncomputable def gX0_reach_l18 (x1 : Nat) (x0 : Nat) (x3 : Int32) (x4 : Int32) (F11 : Int32 → zCS → Option (zCS)) (x5_9 : Int32) (m10 : zCS) : Option (zCS) :=
  if (m10.1 x1 4) ≤ x5_9 then (
  some m10)
  else (
  zb1 (zf2 (gX0_reach_l30 x1 x0 x3 x4) zfu 0 m10 : Option (zCS)) fun (m21 : zCS) =>
  F11 (x5_9 + 1) m21)
noncomputable def gX0_reach (U : zCS) (x0 : Nat) (x1 : Nat) (x2 : Int32) (x3 : Int32) (x4 : Int32) : Option (zCS) :=
  zb1 (gfill 6 U (x0 + 1) (-1)) fun U4 =>
  zb1 (zas 6 (U4.2.1 (x0 + 1)) x2 0) fun f7 =>
  zb1 (some (csA U4 (x0 + 1) f7)) fun U7 =>
  zb1 (zf2 (gX0_reach_l18 x1 x0 x3 x4) zfu 1 U7 : Option (zCS)) fun (m13 : zCS) =>
  some m13
set_option maxRecDepth 100000 in
theorem eX0_reach_l30 {ν : zM} {sh : Nat → Nat} {x1 : Nat} {x0 : Nat} {x3 : Int32} {x4 : Int32} {x6_17 : Int32} {m18 : zCS} (h0 : isX0 sh x0) (h1 : isX9 sh x1) (hst : stOk ν sh)  (n : Nat) : zf2 (fX0_reach_l30 x1 x0 x3 x4) n x6_17 (cmem ν sh m18) = Option.map (cmem ν sh) (zf2 (gX0_reach_l30 x1 x0 x3 x4) n x6_17 m18) := by
  refine zf2_m (fun F19 G19 hF19 x6_17 m18 => ?_) n x6_17 m18
  simp only [fX0_reach_l30, gX0_reach_l30, zgd_t, zmap_ite, zmap_some, zmap_none, zmap_zb0, zmap_zni, zq2_k, zq3_k, zq4_k, zq5_k, zzc1_some, zzc2_some, zzc3_some, zzc4_some, zzc5_some, zzc6_some, zzb1_q, zzb2_q, zzb3_q, zzb4_q, zzb5_q, zzc1_q, zzc2_q, zzc3_q, zzc4_q, zzc5_q, zmap_zb1, zmap_zb2, zmap_zb3, zmap_zb4, zmap_zb5, zmap_zb6, zzc1_ite, zzc2_ite, zzc3_ite, zzc4_ite, zmap_zc1, zmap_zc2, zmap_zc3, zmap_zc4, zzc1_zb0, zzc1_zb1, zzc1_zb2, zzc1_zb3, zzc1_zb4, zzc2_zb0, zzc2_zb1, zzc2_zb2, zzc2_zb3, zzc2_zb4, zzc3_zb0, zzc3_zb1, zzc3_zb2, zzc3_zb3, zzc3_zb4, zzc4_zb0, zzc4_zb1, zzc4_zb2, zzc4_zb3, zzc4_zb4, (eJ7_fill_53178_1006 (h0 := (isX0_1 h0))), (eX0_sayOn (h0 := h0) (h1 := h1) (hst := hst)), ca_1006 (isX0_1 h0), cg_X0_0 h0, cg_X9_4 h1, cs_1006 (isX0_1 h0), ck_X0 h0, hF19]
set_option maxRecDepth 100000 in
theorem eX0_reach_l18 {ν : zM} {sh : Nat → Nat} {x1 : Nat} {x0 : Nat} {x3 : Int32} {x4 : Int32} {x5_9 : Int32} {m10 : zCS} (h0 : isX0 sh x0) (h1 : isX9 sh x1) (hst : stOk ν sh)  (n : Nat) : zf2 (fX0_reach_l18 x1 x0 x3 x4) n x5_9 (cmem ν sh m10) = Option.map (cmem ν sh) (zf2 (gX0_reach_l18 x1 x0 x3 x4) n x5_9 m10) := by
  refine zf2_m (fun F11 G11 hF11 x5_9 m10 => ?_) n x5_9 m10
  simp only [fX0_reach_l18, gX0_reach_l18, zgd_t, zmap_ite, zmap_some, zmap_none, zmap_zb0, zmap_zni, zq2_k, zq3_k, zq4_k, zq5_k, zzc1_some, zzc2_some, zzc3_some, zzc4_some, zzc5_some, zzc6_some, zzb1_q, zzb2_q, zzb3_q, zzb4_q, zzb5_q, zzc1_q, zzc2_q, zzc3_q, zzc4_q, zzc5_q, zmap_zb1, zmap_zb2, zmap_zb3, zmap_zb4, zmap_zb5, zmap_zb6, zzc1_ite, zzc2_ite, zzc3_ite, zzc4_ite, zmap_zc1, zmap_zc2, zmap_zc3, zmap_zc4, zzc1_zb0, zzc1_zb1, zzc1_zb2, zzc1_zb3, zzc1_zb4, zzc2_zb0, zzc2_zb1, zzc2_zb2, zzc2_zb3, zzc2_zb4, zzc3_zb0, zzc3_zb1, zzc3_zb2, zzc3_zb3, zzc3_zb4, zzc4_zb0, zzc4_zb1, zzc4_zb2, zzc4_zb3, zzc4_zb4, (eJ7_fill_53178_1006 (h0 := (isX0_1 h0))), (eX0_sayOn (h0 := h0) (h1 := h1) (hst := hst)), ca_1006 (isX0_1 h0), cg_X0_0 h0, cg_X9_4 h1, cs_1006 (isX0_1 h0), ck_X0 h0, (eX0_reach_l30 (h0 := h0) (h1 := h1) (hst := hst)), hF11]
set_option maxRecDepth 100000 in
theorem eX0_reach {ν : zM} {sh : Nat → Nat} {U : zCS} {x0 : Nat} {x1 : Nat} {x2 : Int32} {x3 : Int32} {x4 : Int32} (h0 : isX0 sh x0) (h1 : isX9 sh x1) (hst : stOk ν sh) : fX0_reach (cmem ν sh U) x0 x1 x2 x3 x4 = Option.map (cmem ν sh) (gX0_reach U x0 x1 x2 x3 x4) := by simp only [fX0_reach, gX0_reach, zgd_t, zmap_ite, zmap_some, zmap_none, zmap_zb0, zmap_zni, zq2_k, zq3_k, zq4_k, zq5_k, zzc1_some, zzc2_some, zzc3_some, zzc4_some, zzc5_some, zzc6_some, zzb1_q, zzb2_q, zzb3_q, zzb4_q, zzb5_q, zzc1_q, zzc2_q, zzc3_q, zzc4_q, zzc5_q, zmap_zb1, zmap_zb2, zmap_zb3, zmap_zb4, zmap_zb5, zmap_zb6, zzc1_ite, zzc2_ite, zzc3_ite, zzc4_ite, zmap_zc1, zmap_zc2, zmap_zc3, zmap_zc4, zzc1_zb0, zzc1_zb1, zzc1_zb2, zzc1_zb3, zzc1_zb4, zzc2_zb0, zzc2_zb1, zzc2_zb2, zzc2_zb3, zzc2_zb4, zzc3_zb0, zzc3_zb1, zzc3_zb2, zzc3_zb3, zzc3_zb4, zzc4_zb0, zzc4_zb1, zzc4_zb2, zzc4_zb3, zzc4_zb4, (eJ7_fill_53178_1006 (h0 := (isX0_1 h0))), (eX0_sayOn (h0 := h0) (h1 := h1) (hst := hst)), ca_1006 (isX0_1 h0), cg_X0_0 h0, cg_X9_4 h1, cs_1006 (isX0_1 h0), ck_X0 h0, (eX0_reach_l30 (h0 := h0) (h1 := h1) (hst := hst)), (eX0_reach_l18 (h0 := h0) (h1 := h1) (hst := hst))]
noncomputable def gX0_howManyReached_l4 (U : zCS) (x0 : Nat) (F3 : Int32 → Int32 → Option (Int32)) (x1_1 : Int32) (x2_2 : Int32) : Option (Int32) :=
  if 6 ≤ x2_2 then (
  some x1_1)
  else (
  zb1 (zag 6 (U.2.1 (x0 + 1)) x2_2) fun v9 =>
  zb1 (if v9 = (-1) then (
  some x1_1)
  else (
  some (x1_1 + 1)) : Option (Int32)) fun (x1_11 : Int32) =>
  F3 x1_11 (x2_2 + 1))
noncomputable def gX0_howManyReached (U : zCS) (x0 : Nat) : Option (Int32) :=
  zb1 (zf2 (gX0_howManyReached_l4 U x0) zfu 0 0 : Option (Int32)) fun (x1_5 : Int32) =>
  some x1_5
set_option maxRecDepth 100000 in
theorem eX0_howManyReached_l4 {ν : zM} {sh : Nat → Nat} {U : zCS} {x0 : Nat} {x1_1 : Int32} {x2_2 : Int32} (h0 : isX0 sh x0)  (n : Nat) : zf2 (fX0_howManyReached_l4 (cmem ν sh U) x0) n x1_1 x2_2 = zf2 (gX0_howManyReached_l4 U x0) n x1_1 x2_2 := by
  refine zf2_c (fun F3 G3 hF3 x1_1 x2_2 => ?_) n x1_1 x2_2
  simp only [fX0_howManyReached_l4, gX0_howManyReached_l4, zgd_t, zmap_ite, zmap_some, zmap_none, zmap_zb0, zmap_zni, zq2_k, zq3_k, zq4_k, zq5_k, zzb1_q, zzb2_q, zzb3_q, zzb4_q, zzb5_q, zmap_zb1, zmap_zb2, zmap_zb3, zmap_zb4, zmap_zb5, zmap_zb6, zmap_zc1, zmap_zc2, zmap_zc3, zmap_zc4, ca_1006 (isX0_1 h0), cg_X0_0 h0, ck_X0 h0, hF3]
set_option maxRecDepth 100000 in
theorem eX0_howManyReached {ν : zM} {sh : Nat → Nat} {U : zCS} {x0 : Nat} (h0 : isX0 sh x0) : fX0_howManyReached (cmem ν sh U) x0 = gX0_howManyReached U x0 := by simp only [fX0_howManyReached, gX0_howManyReached, zgd_t, zmap_ite, zmap_some, zmap_none, zmap_zb0, zmap_zni, zq2_k, zq3_k, zq4_k, zq5_k, zzb1_q, zzb2_q, zzb3_q, zzb4_q, zzb5_q, zmap_zb1, zmap_zb2, zmap_zb3, zmap_zb4, zmap_zb5, zmap_zb6, zmap_zc1, zmap_zc2, zmap_zc3, zmap_zc4, ca_1006 (isX0_1 h0), cg_X0_0 h0, ck_X0 h0, (eX0_howManyReached_l4 (h0 := h0))]
noncomputable def gX0_lastReached_l4 (U : zCS) (x0 : Nat) (F3 : Int32 → Int32 → Option (Int32)) (x1_1 : Int32) (x2_2 : Int32) : Option (Int32) :=
  if 6 ≤ x2_2 then (
  some x1_1)
  else (
  zb1 (zag 6 (U.2.1 (x0 + 1)) x2_2) fun v9 =>
  F3 (if x1_1 < v9 then v9 else x1_1 : Int32) (x2_2 + 1))
noncomputable def gX0_lastReached (U : zCS) (x0 : Nat) : Option (Int32) :=
  zb1 (zf2 (gX0_lastReached_l4 U x0) zfu 0 0 : Option (Int32)) fun (x1_5 : Int32) =>
  some x1_5
set_option maxRecDepth 100000 in
theorem eX0_lastReached_l4 {ν : zM} {sh : Nat → Nat} {U : zCS} {x0 : Nat} {x1_1 : Int32} {x2_2 : Int32} (h0 : isX0 sh x0)  (n : Nat) : zf2 (fX0_lastReached_l4 (cmem ν sh U) x0) n x1_1 x2_2 = zf2 (gX0_lastReached_l4 U x0) n x1_1 x2_2 := by
  refine zf2_c (fun F3 G3 hF3 x1_1 x2_2 => ?_) n x1_1 x2_2
  simp only [fX0_lastReached_l4, gX0_lastReached_l4, zgd_t, zmap_ite, zmap_some, zmap_none, zmap_zb0, zmap_zni, zq2_k, zq3_k, zq4_k, zq5_k, zzb1_q, zzb2_q, zzb3_q, zzb4_q, zzb5_q, zmap_zb1, zmap_zb2, zmap_zb3, zmap_zb4, zmap_zb5, zmap_zb6, zmap_zc1, zmap_zc2, zmap_zc3, zmap_zc4, ca_1006 (isX0_1 h0), cg_X0_0 h0, ck_X0 h0, hF3]
set_option maxRecDepth 100000 in
theorem eX0_lastReached {ν : zM} {sh : Nat → Nat} {U : zCS} {x0 : Nat} (h0 : isX0 sh x0) : fX0_lastReached (cmem ν sh U) x0 = gX0_lastReached U x0 := by simp only [fX0_lastReached, gX0_lastReached, zgd_t, zmap_ite, zmap_some, zmap_none, zmap_zb0, zmap_zni, zq2_k, zq3_k, zq4_k, zq5_k, zzb1_q, zzb2_q, zzb3_q, zzb4_q, zzb5_q, zmap_zb1, zmap_zb2, zmap_zb3, zmap_zb4, zmap_zb5, zmap_zb6, zmap_zc1, zmap_zc2, zmap_zc3, zmap_zc4, ca_1006 (isX0_1 h0), cg_X0_0 h0, ck_X0 h0, (eX0_lastReached_l4 (h0 := h0))]
noncomputable def gJ6_bitCount_0f7a4  (x0 : Int32) : Option (Int32) :=
  some ((((((((x0 - ((((x0 : Int32).toUInt32 >>> ((1 : Int32).toUInt32 &&& Int32.toUInt32 31)).toInt32) &&& 1431655765)) &&& 858993459) + ((((x0 - ((((x0 : Int32).toUInt32 >>> ((1 : Int32).toUInt32 &&& Int32.toUInt32 31)).toInt32) &&& 1431655765) : Int32).toUInt32 >>> ((2 : Int32).toUInt32 &&& Int32.toUInt32 31)).toInt32) &&& 858993459)) + (((((x0 - ((((x0 : Int32).toUInt32 >>> ((1 : Int32).toUInt32 &&& Int32.toUInt32 31)).toInt32) &&& 1431655765)) &&& 858993459) + ((((x0 - ((((x0 : Int32).toUInt32 >>> ((1 : Int32).toUInt32 &&& Int32.toUInt32 31)).toInt32) &&& 1431655765) : Int32).toUInt32 >>> ((2 : Int32).toUInt32 &&& Int32.toUInt32 31)).toInt32) &&& 858993459) : Int32).toUInt32 >>> ((4 : Int32).toUInt32 &&& Int32.toUInt32 31)).toInt32)) &&& 252645135) + (((((((x0 - ((((x0 : Int32).toUInt32 >>> ((1 : Int32).toUInt32 &&& Int32.toUInt32 31)).toInt32) &&& 1431655765)) &&& 858993459) + ((((x0 - ((((x0 : Int32).toUInt32 >>> ((1 : Int32).toUInt32 &&& Int32.toUInt32 31)).toInt32) &&& 1431655765) : Int32).toUInt32 >>> ((2 : Int32).toUInt32 &&& Int32.toUInt32 31)).toInt32) &&& 858993459)) + (((((x0 - ((((x0 : Int32).toUInt32 >>> ((1 : Int32).toUInt32 &&& Int32.toUInt32 31)).toInt32) &&& 1431655765)) &&& 858993459) + ((((x0 - ((((x0 : Int32).toUInt32 >>> ((1 : Int32).toUInt32 &&& Int32.toUInt32 31)).toInt32) &&& 1431655765) : Int32).toUInt32 >>> ((2 : Int32).toUInt32 &&& Int32.toUInt32 31)).toInt32) &&& 858993459) : Int32).toUInt32 >>> ((4 : Int32).toUInt32 &&& Int32.toUInt32 31)).toInt32)) &&& 252645135 : Int32).toUInt32 >>> ((8 : Int32).toUInt32 &&& Int32.toUInt32 31)).toInt32)) + ((((((((x0 - ((((x0 : Int32).toUInt32 >>> ((1 : Int32).toUInt32 &&& Int32.toUInt32 31)).toInt32) &&& 1431655765)) &&& 858993459) + ((((x0 - ((((x0 : Int32).toUInt32 >>> ((1 : Int32).toUInt32 &&& Int32.toUInt32 31)).toInt32) &&& 1431655765) : Int32).toUInt32 >>> ((2 : Int32).toUInt32 &&& Int32.toUInt32 31)).toInt32) &&& 858993459)) + (((((x0 - ((((x0 : Int32).toUInt32 >>> ((1 : Int32).toUInt32 &&& Int32.toUInt32 31)).toInt32) &&& 1431655765)) &&& 858993459) + ((((x0 - ((((x0 : Int32).toUInt32 >>> ((1 : Int32).toUInt32 &&& Int32.toUInt32 31)).toInt32) &&& 1431655765) : Int32).toUInt32 >>> ((2 : Int32).toUInt32 &&& Int32.toUInt32 31)).toInt32) &&& 858993459) : Int32).toUInt32 >>> ((4 : Int32).toUInt32 &&& Int32.toUInt32 31)).toInt32)) &&& 252645135) + (((((((x0 - ((((x0 : Int32).toUInt32 >>> ((1 : Int32).toUInt32 &&& Int32.toUInt32 31)).toInt32) &&& 1431655765)) &&& 858993459) + ((((x0 - ((((x0 : Int32).toUInt32 >>> ((1 : Int32).toUInt32 &&& Int32.toUInt32 31)).toInt32) &&& 1431655765) : Int32).toUInt32 >>> ((2 : Int32).toUInt32 &&& Int32.toUInt32 31)).toInt32) &&& 858993459)) + (((((x0 - ((((x0 : Int32).toUInt32 >>> ((1 : Int32).toUInt32 &&& Int32.toUInt32 31)).toInt32) &&& 1431655765)) &&& 858993459) + ((((x0 - ((((x0 : Int32).toUInt32 >>> ((1 : Int32).toUInt32 &&& Int32.toUInt32 31)).toInt32) &&& 1431655765) : Int32).toUInt32 >>> ((2 : Int32).toUInt32 &&& Int32.toUInt32 31)).toInt32) &&& 858993459) : Int32).toUInt32 >>> ((4 : Int32).toUInt32 &&& Int32.toUInt32 31)).toInt32)) &&& 252645135 : Int32).toUInt32 >>> ((8 : Int32).toUInt32 &&& Int32.toUInt32 31)).toInt32) : Int32).toUInt32 >>> ((16 : Int32).toUInt32 &&& Int32.toUInt32 31)).toInt32)) &&& 63)
set_option maxRecDepth 100000 in
theorem eJ6_bitCount_0f7a4 {μ : zM} {x0 : Int32} : fJ6_bitCount_0f7a4 μ x0 = gJ6_bitCount_0f7a4 x0 := by simp only [fJ6_bitCount_0f7a4, gJ6_bitCount_0f7a4, zgd_t, zmap_ite, zmap_some, zmap_none, zmap_zb0, zmap_zni, zq2_k, zq3_k, zq4_k, zq5_k, zzb1_q, zzb2_q, zzb3_q, zzb4_q, zzb5_q, zmap_zb1, zmap_zb2, zmap_zb3, zmap_zb4, zmap_zb5, zmap_zb6, zmap_zc1, zmap_zc2, zmap_zc3, zmap_zc4]
noncomputable def gX0_isGuarded_l3 (U : zCS) (x0 : Nat) (x2 : Int32) (x1 : Int32) (x3 : Int32) (F2 : Int32 → Option (Int32)) (x4_1 : Int32) : Option (Int32) :=
  if (U.1 x0 4) ≤ x4_1 then (
  some 0)
  else (
  if ((x2 >>> (x4_1 &&& 31)) &&& 1) = 0 then (
  F2 (x4_1 + 1))
  else (
  zb1 (zag 6 (U.2.1 (x0 + 5)) x4_1) fun v8 =>
  zb1 (gX9_way U x0 x1 v8 0) fun v11 =>
  zb1 (zag 3 (fun j => (zrow 0).getD j 0) x3) fun v12 =>
  if v12 < v11 then (
  F2 (x4_1 + 1))
  else (
  some 1)))
noncomputable def gX0_isGuarded (U : zCS) (x0 : Nat) (x1 : Int32) (x2 : Int32) (x3 : Int32) : Option (Int32) :=
  zf1 (gX0_isGuarded_l3 U x0 x2 x1 x3) zfu 0
set_option maxRecDepth 100000 in
theorem eX0_isGuarded_l3 {ν : zM} {sh : Nat → Nat} {U : zCS} {x0 : Nat} {x2 : Int32} {x1 : Int32} {x3 : Int32} {x4_1 : Int32} (h0 : isX9 sh x0) (hst : stOk ν sh)  (n : Nat) : zf1 (fX0_isGuarded_l3 (cmem ν sh U) x0 x2 x1 x3) n x4_1 = zf1 (gX0_isGuarded_l3 U x0 x2 x1 x3) n x4_1 := by
  refine zf1_c (fun F2 G2 hF2 x4_1 => ?_) n x4_1
  simp only [fX0_isGuarded_l3, gX0_isGuarded_l3, zgd_t, zmap_ite, zmap_some, zmap_none, zmap_zb0, zmap_zni, zq2_k, zq3_k, zq4_k, zq5_k, zzb1_q, zzb2_q, zzb3_q, zzb4_q, zzb5_q, zmap_zb1, zmap_zb2, zmap_zb3, zmap_zb4, zmap_zb5, zmap_zb6, zmap_zc1, zmap_zc2, zmap_zc3, zmap_zc4, (eX9_way (h0 := h0)), ca_1006 (isX9_5 h0), cg_X9_4 h0, cg_X9_6 h0, cr_0 hst, hF2]
set_option maxRecDepth 100000 in
theorem eX0_isGuarded {ν : zM} {sh : Nat → Nat} {U : zCS} {x0 : Nat} {x1 : Int32} {x2 : Int32} {x3 : Int32} (h0 : isX9 sh x0) (hst : stOk ν sh) : fX0_isGuarded (cmem ν sh U) x0 x1 x2 x3 = gX0_isGuarded U x0 x1 x2 x3 := by simp only [fX0_isGuarded, gX0_isGuarded, zgd_t, zmap_ite, zmap_some, zmap_none, zmap_zb0, zmap_zni, zq2_k, zq3_k, zq4_k, zq5_k, zzb1_q, zzb2_q, zzb3_q, zzb4_q, zzb5_q, zmap_zb1, zmap_zb2, zmap_zb3, zmap_zb4, zmap_zb5, zmap_zb6, zmap_zc1, zmap_zc2, zmap_zc3, zmap_zc4, (eX9_way (h0 := h0)), ca_1006 (isX9_5 h0), cg_X9_4 h0, cg_X9_6 h0, cr_0 hst, (eX0_isGuarded_l3 (h0 := h0) (hst := hst))]
noncomputable def gX0_areGuards_l2 (U : zCS) (x0 : Nat) (x1 : Int32) (x2 : Int32) (F2 : Int32 → Option (Int32)) (x3_1 : Int32) : Option (Int32) :=
  if (U.1 x0 0) < x3_1 then (
  some 1)
  else (
  zb1 (gX0_isGuarded U x0 x3_1 x1 x2) fun v7 =>
  if v7 = 0 then (
  some 0)
  else (
  F2 (x3_1 + 1)))
noncomputable def gX0_areGuards (U : zCS) (x0 : Nat) (x1 : Int32) (x2 : Int32) : Option (Int32) :=
  zf1 (gX0_areGuards_l2 U x0 x1 x2) zfu 0
set_option maxRecDepth 100000 in
theorem eX0_areGuards_l2 {ν : zM} {sh : Nat → Nat} {U : zCS} {x0 : Nat} {x1 : Int32} {x2 : Int32} {x3_1 : Int32} (h0 : isX9 sh x0) (hst : stOk ν sh)  (n : Nat) : zf1 (fX0_areGuards_l2 (cmem ν sh U) x0 x1 x2) n x3_1 = zf1 (gX0_areGuards_l2 U x0 x1 x2) n x3_1 := by
  refine zf1_c (fun F2 G2 hF2 x3_1 => ?_) n x3_1
  simp only [fX0_areGuards_l2, gX0_areGuards_l2, zgd_t, zmap_ite, zmap_some, zmap_none, zmap_zb0, zmap_zni, zq2_k, zq3_k, zq4_k, zq5_k, zzb1_q, zzb2_q, zzb3_q, zzb4_q, zzb5_q, zmap_zb1, zmap_zb2, zmap_zb3, zmap_zb4, zmap_zb5, zmap_zb6, zmap_zc1, zmap_zc2, zmap_zc3, zmap_zc4, (eX0_isGuarded (h0 := h0) (hst := hst)), cg_X9_0 h0, hF2]
set_option maxRecDepth 100000 in
theorem eX0_areGuards {ν : zM} {sh : Nat → Nat} {U : zCS} {x0 : Nat} {x1 : Int32} {x2 : Int32} (h0 : isX9 sh x0) (hst : stOk ν sh) : fX0_areGuards (cmem ν sh U) x0 x1 x2 = gX0_areGuards U x0 x1 x2 := by simp only [fX0_areGuards, gX0_areGuards, zgd_t, zmap_ite, zmap_some, zmap_none, zmap_zb0, zmap_zni, zq2_k, zq3_k, zq4_k, zq5_k, zzb1_q, zzb2_q, zzb3_q, zzb4_q, zzb5_q, zmap_zb1, zmap_zb2, zmap_zb3, zmap_zb4, zmap_zb5, zmap_zb6, zmap_zc1, zmap_zc2, zmap_zc3, zmap_zc4, (eX0_isGuarded (h0 := h0) (hst := hst)), cg_X9_0 h0, (eX0_areGuards_l2 (h0 := h0) (hst := hst))]
noncomputable def gX0_fewestGuards_l8 (U : zCS) (x0 : Nat) (x1 : Int32) (F4 : Int32 → Int32 → Int32 → Option (Int32)) (x2_1 : Int32) (x3_2 : Int32) (x4_3 : Int32) : Option (Int32) :=
  if (1 <<< ((U.1 x0 4) &&& 31)) ≤ x4_3 then (
  some x2_1)
  else (
  zb1 (gJ6_bitCount_0f7a4 x4_3) fun v11 =>
  zb2 (if x3_2 ≤ v11 then (
  some (x2_1, x3_2))
  else (
  zb1 (gX0_areGuards U x0 x4_3 x1) fun v16 =>
  if v16 = 0 then (
  some (x2_1, x3_2))
  else (
  some (x4_3, v11))) : Option (Int32 × Int32)) fun (x2_12 : Int32) (x3_13 : Int32) =>
  F4 x2_12 x3_13 (x4_3 + 1))
noncomputable def gX0_fewestGuards (U : zCS) (x0 : Nat) (x1 : Int32) : Option (Int32) :=
  zb1 (zf3 (gX0_fewestGuards_l8 U x0 x1) zfu (-1) 7 0 : Option (Int32)) fun (x2_6 : Int32) =>
  some x2_6
set_option maxRecDepth 100000 in
theorem eX0_fewestGuards_l8 {ν : zM} {sh : Nat → Nat} {U : zCS} {x0 : Nat} {x1 : Int32} {x2_1 : Int32} {x3_2 : Int32} {x4_3 : Int32} (h0 : isX9 sh x0) (hst : stOk ν sh)  (n : Nat) : zf3 (fX0_fewestGuards_l8 (cmem ν sh U) x0 x1) n x2_1 x3_2 x4_3 = zf3 (gX0_fewestGuards_l8 U x0 x1) n x2_1 x3_2 x4_3 := by
  refine zf3_c (fun F4 G4 hF4 x2_1 x3_2 x4_3 => ?_) n x2_1 x3_2 x4_3
  simp only [fX0_fewestGuards_l8, gX0_fewestGuards_l8, zgd_t, zmap_ite, zmap_some, zmap_none, zmap_zb0, zmap_zni, zq2_k, zq3_k, zq4_k, zq5_k, zzb1_q, zzb2_q, zzb3_q, zzb4_q, zzb5_q, zmap_zb1, zmap_zb2, zmap_zb3, zmap_zb4, zmap_zb5, zmap_zb6, zmap_zc1, zmap_zc2, zmap_zc3, zmap_zc4, (eX0_areGuards (h0 := h0) (hst := hst)), cg_X9_4 h0, eJ6_bitCount_0f7a4, hF4]
set_option maxRecDepth 100000 in
theorem eX0_fewestGuards {ν : zM} {sh : Nat → Nat} {U : zCS} {x0 : Nat} {x1 : Int32} (h0 : isX9 sh x0) (hst : stOk ν sh) : fX0_fewestGuards (cmem ν sh U) x0 x1 = gX0_fewestGuards U x0 x1 := by simp only [fX0_fewestGuards, gX0_fewestGuards, zgd_t, zmap_ite, zmap_some, zmap_none, zmap_zb0, zmap_zni, zq2_k, zq3_k, zq4_k, zq5_k, zzb1_q, zzb2_q, zzb3_q, zzb4_q, zzb5_q, zmap_zb1, zmap_zb2, zmap_zb3, zmap_zb4, zmap_zb5, zmap_zb6, zmap_zc1, zmap_zc2, zmap_zc3, zmap_zc4, (eX0_areGuards (h0 := h0) (hst := hst)), cg_X9_4 h0, eJ6_bitCount_0f7a4, (eX0_fewestGuards_l8 (h0 := h0) (hst := hst))]
noncomputable def gX0_farness_l8 (U : zCS) (x0 : Nat) (x1 : Int32) (F4 : Int32 → Int32 → Int32 → Option (Int32 × Int32)) (x3_1 : Int32) (x4_2 : Int32) (x5_3 : Int32) : Option (Int32 × Int32) :=
  if (U.1 x0 4) ≤ x5_3 then (
  some (x3_1, x4_2))
  else (
  zb1 (zag 6 (U.2.1 (x0 + 5)) x5_3) fun v13 =>
  zb1 (gX9_way U x0 x1 v13 0) fun v16 =>
  F4 (x3_1 + v16) (if x4_2 < v16 then v16 else x4_2 : Int32) (x5_3 + 1))
noncomputable def gX0_farness (U : zCS) (x0 : Nat) (x1 : Int32) (x2 : Int32) : Option (Int32) :=
  zb2 (zf3 (gX0_farness_l8 U x0 x1) zfu 0 0 0 : Option (Int32 × Int32)) fun (x3_6 : Int32) (x4_7 : Int32) =>
  zb1 (if x2 = 0 then (
  some x3_6)
  else (
  some x4_7) : Option (Int32)) fun (s18 : Int32) =>
  some s18
set_option maxRecDepth 100000 in
theorem eX0_farness_l8 {ν : zM} {sh : Nat → Nat} {U : zCS} {x0 : Nat} {x1 : Int32} {x3_1 : Int32} {x4_2 : Int32} {x5_3 : Int32} (h0 : isX9 sh x0)  (n : Nat) : zf3 (fX0_farness_l8 (cmem ν sh U) x0 x1) n x3_1 x4_2 x5_3 = zf3 (gX0_farness_l8 U x0 x1) n x3_1 x4_2 x5_3 := by
  refine zf3_c (fun F4 G4 hF4 x3_1 x4_2 x5_3 => ?_) n x3_1 x4_2 x5_3
  simp only [fX0_farness_l8, gX0_farness_l8, zgd_t, zmap_ite, zmap_some, zmap_none, zmap_zb0, zmap_zni, zq2_k, zq3_k, zq4_k, zq5_k, zzb1_q, zzb2_q, zzb3_q, zzb4_q, zzb5_q, zmap_zb1, zmap_zb2, zmap_zb3, zmap_zb4, zmap_zb5, zmap_zb6, zmap_zc1, zmap_zc2, zmap_zc3, zmap_zc4, (eX9_way (h0 := h0)), ca_1006 (isX9_5 h0), cg_X9_4 h0, cg_X9_6 h0, hF4]
set_option maxRecDepth 100000 in
theorem eX0_farness {ν : zM} {sh : Nat → Nat} {U : zCS} {x0 : Nat} {x1 : Int32} {x2 : Int32} (h0 : isX9 sh x0) : fX0_farness (cmem ν sh U) x0 x1 x2 = gX0_farness U x0 x1 x2 := by simp only [fX0_farness, gX0_farness, zgd_t, zmap_ite, zmap_some, zmap_none, zmap_zb0, zmap_zni, zq2_k, zq3_k, zq4_k, zq5_k, zzb1_q, zzb2_q, zzb3_q, zzb4_q, zzb5_q, zmap_zb1, zmap_zb2, zmap_zb3, zmap_zb4, zmap_zb5, zmap_zb6, zmap_zc1, zmap_zc2, zmap_zc3, zmap_zc4, (eX9_way (h0 := h0)), ca_1006 (isX9_5 h0), cg_X9_4 h0, cg_X9_6 h0, (eX0_farness_l8 (h0 := h0))]
noncomputable def gX0_nearestPlace_l4 (U : zCS) (x0 : Nat) (x1 : Int32) (F3 : Int32 → Int32 → Option (Int32)) (x2_1 : Int32) (x3_2 : Int32) : Option (Int32) :=
  if (U.1 x0 0) < x3_2 then (
  some x2_1)
  else (
  zb1 (gX0_farness U x0 x3_2 x1) fun v10 =>
  zb1 (gX0_farness U x0 x2_1 x1) fun v12 =>
  zb1 (if v12 ≤ v10 then (
  some x2_1)
  else (
  some x3_2) : Option (Int32)) fun (x2_13 : Int32) =>
  F3 x2_13 (x3_2 + 1))
noncomputable def gX0_nearestPlace (U : zCS) (x0 : Nat) (x1 : Int32) : Option (Int32) :=
  zb1 (zf2 (gX0_nearestPlace_l4 U x0 x1) zfu 0 1 : Option (Int32)) fun (x2_5 : Int32) =>
  some x2_5
set_option maxRecDepth 100000 in
theorem eX0_nearestPlace_l4 {ν : zM} {sh : Nat → Nat} {U : zCS} {x0 : Nat} {x1 : Int32} {x2_1 : Int32} {x3_2 : Int32} (h0 : isX9 sh x0)  (n : Nat) : zf2 (fX0_nearestPlace_l4 (cmem ν sh U) x0 x1) n x2_1 x3_2 = zf2 (gX0_nearestPlace_l4 U x0 x1) n x2_1 x3_2 := by
  refine zf2_c (fun F3 G3 hF3 x2_1 x3_2 => ?_) n x2_1 x3_2
  simp only [fX0_nearestPlace_l4, gX0_nearestPlace_l4, zgd_t, zmap_ite, zmap_some, zmap_none, zmap_zb0, zmap_zni, zq2_k, zq3_k, zq4_k, zq5_k, zzb1_q, zzb2_q, zzb3_q, zzb4_q, zzb5_q, zmap_zb1, zmap_zb2, zmap_zb3, zmap_zb4, zmap_zb5, zmap_zb6, zmap_zc1, zmap_zc2, zmap_zc3, zmap_zc4, (eX0_farness (h0 := h0)), cg_X9_0 h0, hF3]
set_option maxRecDepth 100000 in
theorem eX0_nearestPlace {ν : zM} {sh : Nat → Nat} {U : zCS} {x0 : Nat} {x1 : Int32} (h0 : isX9 sh x0) : fX0_nearestPlace (cmem ν sh U) x0 x1 = gX0_nearestPlace U x0 x1 := by simp only [fX0_nearestPlace, gX0_nearestPlace, zgd_t, zmap_ite, zmap_some, zmap_none, zmap_zb0, zmap_zni, zq2_k, zq3_k, zq4_k, zq5_k, zzb1_q, zzb2_q, zzb3_q, zzb4_q, zzb5_q, zmap_zb1, zmap_zb2, zmap_zb3, zmap_zb4, zmap_zb5, zmap_zb6, zmap_zc1, zmap_zc2, zmap_zc3, zmap_zc4, (eX0_farness (h0 := h0)), cg_X9_0 h0, (eX0_nearestPlace_l4 (h0 := h0))]
noncomputable def gX0_isNearer (U : zCS) (x0 : Nat) (x1 : Int32) (x2 : Int32) (x3 : Int32) : Option (Int32) :=
  zb1 (gX0_apart U x0 x1 x3) fun v2 =>
  zb1 (gX0_apart U x0 x2 x3) fun v4 =>
  zb1 (if v2 < v4 then (
  some 1)
  else (
  if v2 = v4 then (
  if x2 ≤ x1 then (
  some 0)
  else (
  some 1))
  else (
  some 0)) : Option (Int32)) fun (s5 : Int32) =>
  zb1 (zbz s5) fun v7 =>
  some v7
set_option maxRecDepth 100000 in
theorem eX0_isNearer {ν : zM} {sh : Nat → Nat} {U : zCS} {x0 : Nat} {x1 : Int32} {x2 : Int32} {x3 : Int32} (h0 : isX9 sh x0) : fX0_isNearer (cmem ν sh U) x0 x1 x2 x3 = gX0_isNearer U x0 x1 x2 x3 := by simp only [fX0_isNearer, gX0_isNearer, zgd_t, zmap_ite, zmap_some, zmap_none, zmap_zb0, zmap_zni, zq2_k, zq3_k, zq4_k, zq5_k, zzb1_q, zzb2_q, zzb3_q, zzb4_q, zzb5_q, zmap_zb1, zmap_zb2, zmap_zb3, zmap_zb4, zmap_zb5, zmap_zb6, zmap_zc1, zmap_zc2, zmap_zc3, zmap_zc4, (eX0_apart (h0 := h0))]
noncomputable def gX0_nearestUnasked_l5 (U : zCS) (x1 : Nat) (x0 : Nat) (x2 : Int32) (F3 : Int32 → Int32 → Option (Int32)) (x3_1 : Int32) (x4_2 : Int32) : Option (Int32) :=
  if (U.1 x1 4) ≤ x4_2 then (
  some x3_1)
  else (
  zb1 (zag 6 (U.2.1 (x1 + 4)) x4_2) fun v11 =>
  zb1 (if v11 = 1 then (
  zb1 (zag 6 (U.2.1 (x0 + 3)) x2) fun v17 =>
  if ((v17 >>> (x4_2 &&& 31)) &&& 1) = 0 then (
  if x3_1 = (-1) then (
  some x4_2)
  else (
  zb1 (gX0_isNearer U x1 x4_2 x3_1 x2) fun v20 =>
  if v20 = 0 then (
  some x3_1)
  else (
  some x4_2)))
  else (
  some x3_1))
  else (
  some x3_1) : Option (Int32)) fun (x3_13 : Int32) =>
  F3 x3_13 (x4_2 + 1))
noncomputable def gX0_nearestUnasked (U : zCS) (x0 : Nat) (x1 : Nat) (x2 : Int32) : Option (Int32) :=
  zb1 (zf2 (gX0_nearestUnasked_l5 U x1 x0 x2) zfu (-1) 0 : Option (Int32)) fun (x3_5 : Int32) =>
  some x3_5
set_option maxRecDepth 100000 in
theorem eX0_nearestUnasked_l5 {ν : zM} {sh : Nat → Nat} {U : zCS} {x1 : Nat} {x0 : Nat} {x2 : Int32} {x3_1 : Int32} {x4_2 : Int32} (h0 : isX0 sh x0) (h1 : isX9 sh x1)  (n : Nat) : zf2 (fX0_nearestUnasked_l5 (cmem ν sh U) x1 x0 x2) n x3_1 x4_2 = zf2 (gX0_nearestUnasked_l5 U x1 x0 x2) n x3_1 x4_2 := by
  refine zf2_c (fun F3 G3 hF3 x3_1 x4_2 => ?_) n x3_1 x4_2
  simp only [fX0_nearestUnasked_l5, gX0_nearestUnasked_l5, zgd_t, zmap_ite, zmap_some, zmap_none, zmap_zb0, zmap_zni, zq2_k, zq3_k, zq4_k, zq5_k, zzb1_q, zzb2_q, zzb3_q, zzb4_q, zzb5_q, zmap_zb1, zmap_zb2, zmap_zb3, zmap_zb4, zmap_zb5, zmap_zb6, zmap_zc1, zmap_zc2, zmap_zc3, zmap_zc4, (eX0_isNearer (h0 := h1)), ca_1006 (isX0_3 h0), ca_1006 (isX9_4 h1), cg_X0_2 h0, cg_X9_4 h1, cg_X9_5 h1, ck_X0 h0, hF3]
set_option maxRecDepth 100000 in
theorem eX0_nearestUnasked {ν : zM} {sh : Nat → Nat} {U : zCS} {x0 : Nat} {x1 : Nat} {x2 : Int32} (h0 : isX0 sh x0) (h1 : isX9 sh x1) : fX0_nearestUnasked (cmem ν sh U) x0 x1 x2 = gX0_nearestUnasked U x0 x1 x2 := by simp only [fX0_nearestUnasked, gX0_nearestUnasked, zgd_t, zmap_ite, zmap_some, zmap_none, zmap_zb0, zmap_zni, zq2_k, zq3_k, zq4_k, zq5_k, zzb1_q, zzb2_q, zzb3_q, zzb4_q, zzb5_q, zmap_zb1, zmap_zb2, zmap_zb3, zmap_zb4, zmap_zb5, zmap_zb6, zmap_zc1, zmap_zc2, zmap_zc3, zmap_zc4, (eX0_isNearer (h0 := h1)), ca_1006 (isX0_3 h0), ca_1006 (isX9_4 h1), cg_X0_2 h0, cg_X9_4 h1, cg_X9_5 h1, ck_X0 h0, (eX0_nearestUnasked_l5 (h0 := h0) (h1 := h1))]
noncomputable def gX0_nextAsker_l2 (U : zCS) (x1 : Nat) (x0 : Nat) (F2 : Int32 → Option (Int32)) (x2_1 : Int32) : Option (Int32) :=
  if (U.1 x1 4) ≤ x2_1 then (
  some (-1))
  else (
  zb1 (zag 6 (U.2.1 (x1 + 4)) x2_1) fun v8 =>
  if v8 = 0 then (
  zb1 (zag 6 (U.2.1 (x0 + 2)) x2_1) fun v12 =>
  if v12 = (-1) then (
  zb1 (gX0_nearestUnasked U x0 x1 x2_1) fun v15 =>
  if v15 = (-1) then (
  F2 (x2_1 + 1))
  else (
  some x2_1))
  else (
  F2 (x2_1 + 1)))
  else (
  F2 (x2_1 + 1)))
noncomputable def gX0_nextAsker (U : zCS) (x0 : Nat) (x1 : Nat) : Option (Int32) :=
  zf1 (gX0_nextAsker_l2 U x1 x0) zfu 0
set_option maxRecDepth 100000 in
theorem eX0_nextAsker_l2 {ν : zM} {sh : Nat → Nat} {U : zCS} {x1 : Nat} {x0 : Nat} {x2_1 : Int32} (h0 : isX0 sh x0) (h1 : isX9 sh x1)  (n : Nat) : zf1 (fX0_nextAsker_l2 (cmem ν sh U) x1 x0) n x2_1 = zf1 (gX0_nextAsker_l2 U x1 x0) n x2_1 := by
  refine zf1_c (fun F2 G2 hF2 x2_1 => ?_) n x2_1
  simp only [fX0_nextAsker_l2, gX0_nextAsker_l2, zgd_t, zmap_ite, zmap_some, zmap_none, zmap_zb0, zmap_zni, zq2_k, zq3_k, zq4_k, zq5_k, zzb1_q, zzb2_q, zzb3_q, zzb4_q, zzb5_q, zmap_zb1, zmap_zb2, zmap_zb3, zmap_zb4, zmap_zb5, zmap_zb6, zmap_zc1, zmap_zc2, zmap_zc3, zmap_zc4, (eX0_nearestUnasked (h0 := h0) (h1 := h1)), ca_1006 (isX0_2 h0), ca_1006 (isX9_4 h1), cg_X0_1 h0, cg_X9_4 h1, cg_X9_5 h1, ck_X0 h0, hF2]
set_option maxRecDepth 100000 in
theorem eX0_nextAsker {ν : zM} {sh : Nat → Nat} {U : zCS} {x0 : Nat} {x1 : Nat} (h0 : isX0 sh x0) (h1 : isX9 sh x1) : fX0_nextAsker (cmem ν sh U) x0 x1 = gX0_nextAsker U x0 x1 := by simp only [fX0_nextAsker, gX0_nextAsker, zgd_t, zmap_ite, zmap_some, zmap_none, zmap_zb0, zmap_zni, zq2_k, zq3_k, zq4_k, zq5_k, zzb1_q, zzb2_q, zzb3_q, zzb4_q, zzb5_q, zmap_zb1, zmap_zb2, zmap_zb3, zmap_zb4, zmap_zb5, zmap_zb6, zmap_zc1, zmap_zc2, zmap_zc3, zmap_zc4, (eX0_nearestUnasked (h0 := h0) (h1 := h1)), ca_1006 (isX0_2 h0), ca_1006 (isX9_4 h1), cg_X0_1 h0, cg_X9_4 h1, cg_X9_5 h1, ck_X0 h0, (eX0_nextAsker_l2 (h0 := h0) (h1 := h1))]
noncomputable def gX0_ask_b44 (v9 : Int32) (U5 : zCS) (x0 : Nat) (x3 : Int32) (x2 : Int32) : Option (zCS) :=
  zc1 (if v9 = (-1) then (
  some U5)
  else (
  zb1 (zas 6 (U5.2.1 (x0 + 2)) v9 (-1)) fun f23 =>
  zb1 (some (csA U5 (x0 + 2) f23)) fun U23 =>
  some U23) : Option (zCS)) fun (m11 : zCS) =>
  zb1 (zas 6 (m11.2.1 (x0 + 2)) x3 x2) fun f15 =>
  zb1 (some (csA m11 (x0 + 2) f15)) fun U15 =>
  zb1 (zas 6 (U15.2.1 (x0 + 2)) x2 x3) fun f19 =>
  zb1 (some (csA U15 (x0 + 2) f19)) fun U19 =>
  some U19
noncomputable def gX0_ask (U : zCS) (x0 : Nat) (x1 : Nat) (x2 : Int32) (x3 : Int32) : Option (zCS) :=
  if x3 = (-1) then (
  some U)
  else (
  zb1 (zag 6 (U.2.1 (x0 + 3)) x2) fun v3 =>
  zb1 (zas 6 (U.2.1 (x0 + 3)) x2 (v3 ||| (1 <<< (x3 &&& 31)))) fun f5 =>
  zb1 (some (csA U (x0 + 3) f5)) fun U5 =>
  zb1 (zag 6 (U5.2.1 (x0 + 2)) x3) fun v9 =>
  if v9 = (-1) then (
  gX0_ask_b44 v9 U5 x0 x3 x2)
  else (
  zb1 (gX0_isNearer U5 x1 x2 v9 x3) fun v27 =>
  if v27 = 0 then (
  some U5)
  else (
  gX0_ask_b44 v9 U5 x0 x3 x2)))
set_option maxRecDepth 100000 in
theorem eX0_ask_b44 {ν : zM} {sh : Nat → Nat} {v9 : Int32} {m5 : zCS} {x0 : Nat} {x3 : Int32} {x2 : Int32} {x1 : Nat} (h0 : isX0 sh x0) (h1 : isX9 sh x1)  : fX0_ask_b44 v9 (cmem ν sh m5) x0 x3 x2  = Option.map (cmem ν sh) (gX0_ask_b44 v9 m5 x0 x3 x2 ) := by simp only [fX0_ask_b44, gX0_ask_b44, zgd_t, zmap_ite, zmap_some, zmap_none, zmap_zb0, zmap_zni, zq2_k, zq3_k, zq4_k, zq5_k, zzc1_some, zzc2_some, zzc3_some, zzc4_some, zzc5_some, zzc6_some, zzb1_q, zzb2_q, zzb3_q, zzb4_q, zzb5_q, zzc1_q, zzc2_q, zzc3_q, zzc4_q, zzc5_q, zmap_zb1, zmap_zb2, zmap_zb3, zmap_zb4, zmap_zb5, zmap_zb6, zzc1_ite, zzc2_ite, zzc3_ite, zzc4_ite, zmap_zc1, zmap_zc2, zmap_zc3, zmap_zc4, zzc1_zb0, zzc1_zb1, zzc1_zb2, zzc1_zb3, zzc1_zb4, zzc2_zb0, zzc2_zb1, zzc2_zb2, zzc2_zb3, zzc2_zb4, zzc3_zb0, zzc3_zb1, zzc3_zb2, zzc3_zb3, zzc3_zb4, zzc4_zb0, zzc4_zb1, zzc4_zb2, zzc4_zb3, zzc4_zb4, (eX0_isNearer (h0 := h1)), ca_1006 (isX0_2 h0), ca_1006 (isX0_3 h0), cg_X0_1 h0, cg_X0_2 h0, cs_1006 (isX0_2 h0), cs_1006 (isX0_3 h0), ck_X0 h0]
set_option maxRecDepth 100000 in
theorem eX0_ask {ν : zM} {sh : Nat → Nat} {U : zCS} {x0 : Nat} {x1 : Nat} {x2 : Int32} {x3 : Int32} (h0 : isX0 sh x0) (h1 : isX9 sh x1) : fX0_ask (cmem ν sh U) x0 x1 x2 x3 = Option.map (cmem ν sh) (gX0_ask U x0 x1 x2 x3) := by simp only [fX0_ask, gX0_ask, zgd_t, zmap_ite, zmap_some, zmap_none, zmap_zb0, zmap_zni, zq2_k, zq3_k, zq4_k, zq5_k, zzc1_some, zzc2_some, zzc3_some, zzc4_some, zzc5_some, zzc6_some, zzb1_q, zzb2_q, zzb3_q, zzb4_q, zzb5_q, zzc1_q, zzc2_q, zzc3_q, zzc4_q, zzc5_q, zmap_zb1, zmap_zb2, zmap_zb3, zmap_zb4, zmap_zb5, zmap_zb6, zzc1_ite, zzc2_ite, zzc3_ite, zzc4_ite, zmap_zc1, zmap_zc2, zmap_zc3, zmap_zc4, zzc1_zb0, zzc1_zb1, zzc1_zb2, zzc1_zb3, zzc1_zb4, zzc2_zb0, zzc2_zb1, zzc2_zb2, zzc2_zb3, zzc2_zb4, zzc3_zb0, zzc3_zb1, zzc3_zb2, zzc3_zb3, zzc3_zb4, zzc4_zb0, zzc4_zb1, zzc4_zb2, zzc4_zb3, zzc4_zb4, (eX0_isNearer (h0 := h1)), ca_1006 (isX0_2 h0), ca_1006 (isX0_3 h0), cg_X0_1 h0, cg_X0_2 h0, cs_1006 (isX0_2 h0), cs_1006 (isX0_3 h0), ck_X0 h0, (eX0_ask_b44 (h0 := h0) (h1 := h1))]
noncomputable def gX0_match_l18 (x0 : Nat) (x1 : Nat) (F11 : Int32 → zCS → Option (zCS)) (x2_9 : Int32) (m10 : zCS) : Option (zCS) :=
  if 36 ≤ x2_9 then (
  some m10)
  else (
  zb1 (gX0_nextAsker m10 x0 x1) fun v14 =>
  if v14 = (-1) then (
  some m10)
  else (
  zb1 (gX0_nearestUnasked m10 x0 x1 v14) fun v16 =>
  zb1 (gX0_ask m10 x0 x1 v14 v16) fun U18 =>
  F11 (x2_9 + 1) U18))
noncomputable def gX0_match (U : zCS) (x0 : Nat) (x1 : Nat) : Option (zCS) :=
  zb1 (gfill 6 U (x0 + 2) (-1)) fun U4 =>
  zb1 (gfill 6 U4 (x0 + 3) 0) fun U8 =>
  zf2 (gX0_match_l18 x0 x1) zfu 0 U8
set_option maxRecDepth 100000 in
theorem eX0_match_l18 {ν : zM} {sh : Nat → Nat} {x0 : Nat} {x1 : Nat} {x2_9 : Int32} {m10 : zCS} (h0 : isX0 sh x0) (h1 : isX9 sh x1)  (n : Nat) : zf2 (fX0_match_l18 x0 x1) n x2_9 (cmem ν sh m10) = Option.map (cmem ν sh) (zf2 (gX0_match_l18 x0 x1) n x2_9 m10) := by
  refine zf2_m (fun F11 G11 hF11 x2_9 m10 => ?_) n x2_9 m10
  simp only [fX0_match_l18, gX0_match_l18, zgd_t, zmap_ite, zmap_some, zmap_none, zmap_zb0, zmap_zni, zq2_k, zq3_k, zq4_k, zq5_k, zzb1_q, zzb2_q, zzb3_q, zzb4_q, zzb5_q, zmap_zb1, zmap_zb2, zmap_zb3, zmap_zb4, zmap_zb5, zmap_zb6, zmap_zc1, zmap_zc2, zmap_zc3, zmap_zc4, (eJ7_fill_53178_1006 (h0 := (isX0_2 h0))), (eJ7_fill_53178_1006 (h0 := (isX0_3 h0))), (eX0_ask (h0 := h0) (h1 := h1)), (eX0_nearestUnasked (h0 := h0) (h1 := h1)), (eX0_nextAsker (h0 := h0) (h1 := h1)), cg_X0_1 h0, cg_X0_2 h0, ck_X0 h0, hF11]
set_option maxRecDepth 100000 in
theorem eX0_match {ν : zM} {sh : Nat → Nat} {U : zCS} {x0 : Nat} {x1 : Nat} (h0 : isX0 sh x0) (h1 : isX9 sh x1) : fX0_match (cmem ν sh U) x0 x1 = Option.map (cmem ν sh) (gX0_match U x0 x1) := by simp only [fX0_match, gX0_match, zgd_t, zmap_ite, zmap_some, zmap_none, zmap_zb0, zmap_zni, zq2_k, zq3_k, zq4_k, zq5_k, zzb1_q, zzb2_q, zzb3_q, zzb4_q, zzb5_q, zmap_zb1, zmap_zb2, zmap_zb3, zmap_zb4, zmap_zb5, zmap_zb6, zmap_zc1, zmap_zc2, zmap_zc3, zmap_zc4, (eJ7_fill_53178_1006 (h0 := (isX0_2 h0))), (eJ7_fill_53178_1006 (h0 := (isX0_3 h0))), (eX0_ask (h0 := h0) (h1 := h1)), (eX0_nearestUnasked (h0 := h0) (h1 := h1)), (eX0_nextAsker (h0 := h0) (h1 := h1)), cg_X0_1 h0, cg_X0_2 h0, ck_X0 h0, (eX0_match_l18 (h0 := h0) (h1 := h1))]
noncomputable def gX1_begin (U : zCS) (x0 : Nat) (x1 : Nat) : Option (zCS) :=
  zb1 (some (csI U x0 0 0)) fun U1 =>
  zb1 (some (csI U1 x0 1 0)) fun U3 =>
  zb1 (zcp 0 6 6 (U3.2.1 (x1 + 5)) (U3.2.1 (x0 + 1)) 0 0 6) fun f9 =>
  zb1 (some (csA U3 (x0 + 1) f9)) fun U9 =>
  zb1 (gfill 600 U9 (x0 + 2) 0) fun U14 =>
  zb1 (gfill 600 U14 (x0 + 3) 0) fun U18 =>
  some U18
set_option maxRecDepth 100000 in
theorem eX1_begin {ν : zM} {sh : Nat → Nat} {U : zCS} {x0 : Nat} {x1 : Nat} (h0 : isX1 sh x0) (h1 : isX9 sh x1) : fX1_begin (cmem ν sh U) x0 x1 = Option.map (cmem ν sh) (gX1_begin U x0 x1) := by simp only [fX1_begin, gX1_begin, zgd_t, zmap_ite, zmap_some, zmap_none, zmap_zb0, zmap_zni, zq2_k, zq3_k, zq4_k, zq5_k, zzb1_q, zzb2_q, zzb3_q, zzb4_q, zzb5_q, zmap_zb1, zmap_zb2, zmap_zb3, zmap_zb4, zmap_zb5, zmap_zb6, zmap_zc1, zmap_zc2, zmap_zc3, zmap_zc4, (eJ7_fill_53178_1600 (h0 := (isX1_2 h0))), (eJ7_fill_53178_1600 (h0 := (isX1_3 h0))), cg_X1_3 h0, cg_X1_4 h0, cg_X1_5 h0, cg_X9_6 h1, cp_X1_0 h0, cp_X1_1 h0, cy_1006 (isX9_5 h1) (isX1_1 h0), ck_X1 h0]
noncomputable def gX1_pass (U : zCS) (x0 : Nat) (x1 : Int32) : Option (Int32 × zCS) :=
  if ((U.1 x0 0) + x1) < 100 then (
  zb1 (some (csI U x0 0 ((U.1 x0 0) + x1))) fun U5 =>
  some (1, U5))
  else (
  some (0, U))
set_option maxRecDepth 100000 in
theorem eX1_pass {ν : zM} {sh : Nat → Nat} {U : zCS} {x0 : Nat} {x1 : Int32} (h0 : isX1 sh x0) : fX1_pass (cmem ν sh U) x0 x1 = Option.map (zq2 (cmem ν sh)) (gX1_pass U x0 x1) := by simp only [fX1_pass, gX1_pass, zgd_t, zmap_ite, zmap_some, zmap_none, zmap_zb0, zmap_zni, zq2_k, zq3_k, zq4_k, zq5_k, zzb1_q, zzb2_q, zzb3_q, zzb4_q, zzb5_q, zmap_zb1, zmap_zb2, zmap_zb3, zmap_zb4, zmap_zb5, zmap_zb6, zmap_zc1, zmap_zc2, zmap_zc3, zmap_zc4, cg_X1_0 h0, cp_X1_0 h0, ck_X1 h0]
noncomputable def gX9_hasPerson (U : zCS) (x0 : Nat) (x1 : Int32) : Option (Int32) :=
  zb1 (if x1 < 0 then (
  some 0)
  else (
  if (U.1 x0 4) ≤ x1 then (
  some 0)
  else (
  some 1)) : Option (Int32)) fun (s1 : Int32) =>
  zb1 (zbz s1) fun v3 =>
  some v3
set_option maxRecDepth 100000 in
theorem eX9_hasPerson {ν : zM} {sh : Nat → Nat} {U : zCS} {x0 : Nat} {x1 : Int32} (h0 : isX9 sh x0) : fX9_hasPerson (cmem ν sh U) x0 x1 = gX9_hasPerson U x0 x1 := by simp only [fX9_hasPerson, gX9_hasPerson, zgd_t, zmap_ite, zmap_some, zmap_none, zmap_zb0, zmap_zni, zq2_k, zq3_k, zq4_k, zq5_k, zzb1_q, zzb2_q, zzb3_q, zzb4_q, zzb5_q, zmap_zb1, zmap_zb2, zmap_zb3, zmap_zb4, zmap_zb5, zmap_zb6, zmap_zc1, zmap_zc2, zmap_zc3, zmap_zc4, cg_X9_4 h0, ck_X9 h0]
noncomputable def gX9_hasPlace (U : zCS) (x0 : Nat) (x1 : Int32) : Option (Int32) :=
  zb1 (if x1 < 0 then (
  some 0)
  else (
  if (U.1 x0 0) < x1 then (
  some 0)
  else (
  some 1)) : Option (Int32)) fun (s1 : Int32) =>
  zb1 (zbz s1) fun v3 =>
  some v3
set_option maxRecDepth 100000 in
theorem eX9_hasPlace {ν : zM} {sh : Nat → Nat} {U : zCS} {x0 : Nat} {x1 : Int32} (h0 : isX9 sh x0) : fX9_hasPlace (cmem ν sh U) x0 x1 = gX9_hasPlace U x0 x1 := by simp only [fX9_hasPlace, gX9_hasPlace, zgd_t, zmap_ite, zmap_some, zmap_none, zmap_zb0, zmap_zni, zq2_k, zq3_k, zq4_k, zq5_k, zzb1_q, zzb2_q, zzb3_q, zzb4_q, zzb5_q, zmap_zb1, zmap_zb2, zmap_zb3, zmap_zb4, zmap_zb5, zmap_zb6, zmap_zc1, zmap_zc2, zmap_zc3, zmap_zc4, cg_X9_0 h0, ck_X9 h0]
noncomputable def gX1_walk (U : zCS) (x0 : Nat) (x1 : Nat) (x2 : Int32) (x3 : Int32) : Option (Int32 × zCS) :=
  zb1 (gX9_hasPlace U x1 x3) fun v2 =>
  if v2 = 0 then (
  some (0, U))
  else (
  zb1 (zag 6 (U.2.1 (x0 + 1)) x2) fun v5 =>
  zb2 (gX1_pass U x0 (if 0 ≤ (v5 - x3) then (v5 - x3) else 0 - (v5 - x3) : Int32)) fun v9 U8 =>
  if v9 = 0 then (
  some (0, U8))
  else (
  zb1 (zas 6 (U8.2.1 (x0 + 1)) x2 x3) fun f12 =>
  zb1 (some (csA U8 (x0 + 1) f12)) fun U12 =>
  some (1, U12)))
set_option maxRecDepth 100000 in
theorem eX1_walk {ν : zM} {sh : Nat → Nat} {U : zCS} {x0 : Nat} {x1 : Nat} {x2 : Int32} {x3 : Int32} (h0 : isX1 sh x0) (h1 : isX9 sh x1) : fX1_walk (cmem ν sh U) x0 x1 x2 x3 = Option.map (zq2 (cmem ν sh)) (gX1_walk U x0 x1 x2 x3) := by simp only [fX1_walk, gX1_walk, zgd_t, zmap_ite, zmap_some, zmap_none, zmap_zb0, zmap_zni, zq2_k, zq3_k, zq4_k, zq5_k, zzb1_q, zzb2_q, zzb3_q, zzb4_q, zzb5_q, zmap_zb1, zmap_zb2, zmap_zb3, zmap_zb4, zmap_zb5, zmap_zb6, zmap_zc1, zmap_zc2, zmap_zc3, zmap_zc4, (eX1_pass (h0 := h0)), (eX9_hasPlace (h0 := h1)), ca_1006 (isX1_1 h0), cg_X1_3 h0, cs_1006 (isX1_1 h0), ck_X1 h0]
noncomputable def gX9_arrival (U : zCS) (x0 : Nat) (x1 : Int32) (x2 : Int32) (x3 : Int32) (x4 : Int32) (x5 : Int32) (x6 : Int32) : Option (Int32) :=
  zb1 (gX9_way U x0 x1 x5 x6) fun v2 =>
  zb1 (zag 3 (fun j => (zrow 0).getD j 0) x3) fun v3 =>
  if v3 < v2 then (
  some (-1))
  else (
  zb1 (gX9_isMute U x0 x6 x4) fun v6 =>
  if v6 = 0 then (
  zb1 (gX9_judge U x0 x4) fun v8 =>
  zb1 (if x6 = v8 then (
  zb1 (zag 8 (U.2.1 (x0 + 2)) x2) fun v13 =>
  some v13)
  else (
  some 0) : Option (Int32)) fun (s9 : Int32) =>
  some ((x4 + v2) + s9))
  else (
  some (-1)))
set_option maxRecDepth 100000 in
theorem eX9_arrival {ν : zM} {sh : Nat → Nat} {U : zCS} {x0 : Nat} {x1 : Int32} {x2 : Int32} {x3 : Int32} {x4 : Int32} {x5 : Int32} {x6 : Int32} (h0 : isX9 sh x0) (hst : stOk ν sh) : fX9_arrival (cmem ν sh U) x0 x1 x2 x3 x4 x5 x6 = gX9_arrival U x0 x1 x2 x3 x4 x5 x6 := by simp only [fX9_arrival, gX9_arrival, zgd_t, zmap_ite, zmap_some, zmap_none, zmap_zb0, zmap_zni, zq2_k, zq3_k, zq4_k, zq5_k, zzb1_q, zzb2_q, zzb3_q, zzb4_q, zzb5_q, zmap_zb1, zmap_zb2, zmap_zb3, zmap_zb4, zmap_zb5, zmap_zb6, zmap_zc1, zmap_zc2, zmap_zc3, zmap_zc4, (eX9_isMute (h0 := h0)), (eX9_judge (h0 := h0)), (eX9_way (h0 := h0)), ca_1008 (isX9_2 h0), cg_X9_2 h0, cr_0 hst, ck_X9 h0]
noncomputable def gX9_wordBy (U : zCS) (x0 : Nat) (x1 : Int32) (x2 : Int32) (x3 : Int32) : Option (Int32) :=
  zb1 (gX9_isMute U x0 x3 x2) fun v2 =>
  if v2 = 0 then (
  zb1 (gX9_judge U x0 x2) fun v4 =>
  zb1 (if x3 = v4 then (
  zb1 (zag 8 (U.2.1 (x0 + 1)) x1) fun v9 =>
  some v9)
  else (
  some x1) : Option (Int32)) fun (s5 : Int32) =>
  some s5)
  else (
  some (-1))
set_option maxRecDepth 100000 in
theorem eX9_wordBy {ν : zM} {sh : Nat → Nat} {U : zCS} {x0 : Nat} {x1 : Int32} {x2 : Int32} {x3 : Int32} (h0 : isX9 sh x0) : fX9_wordBy (cmem ν sh U) x0 x1 x2 x3 = gX9_wordBy U x0 x1 x2 x3 := by simp only [fX9_wordBy, gX9_wordBy, zgd_t, zmap_ite, zmap_some, zmap_none, zmap_zb0, zmap_zni, zq2_k, zq3_k, zq4_k, zq5_k, zzb1_q, zzb2_q, zzb3_q, zzb4_q, zzb5_q, zmap_zb1, zmap_zb2, zmap_zb3, zmap_zb4, zmap_zb5, zmap_zb6, zmap_zc1, zmap_zc2, zmap_zc3, zmap_zc4, (eX9_isMute (h0 := h0)), (eX9_judge (h0 := h0)), ca_1008 (isX9_1 h0), cg_X9_1 h0, ck_X9 h0]
noncomputable def gX11_isMinute  (x0 : Int32) : Option (Int32) :=
  zb1 (if x0 < 0 then (
  some 0)
  else (
  if 100 ≤ x0 then (
  some 0)
  else (
  some 1)) : Option (Int32)) fun (s1 : Int32) =>
  zb1 (zbz s1) fun v3 =>
  some v3
set_option maxRecDepth 100000 in
theorem eX11_isMinute {μ : zM} {x0 : Int32} : fX11_isMinute μ x0 = gX11_isMinute x0 := by simp only [fX11_isMinute, gX11_isMinute, zgd_t, zmap_ite, zmap_some, zmap_none, zmap_zb0, zmap_zni, zq2_k, zq3_k, zq4_k, zq5_k, zzb1_q, zzb2_q, zzb3_q, zzb4_q, zzb5_q, zmap_zb1, zmap_zb2, zmap_zb3, zmap_zb4, zmap_zb5, zmap_zb6, zmap_zc1, zmap_zc2, zmap_zc3, zmap_zc4]
noncomputable def gX1_hear (U : zCS) (x0 : Nat) (x1 : Int32) (x2 : Int32) (x3 : Int32) : Option (zCS) :=
  zb1 (gX11_isMinute x2) fun v2 =>
  if v2 = 0 then (
  some U)
  else (
  if x3 = (-1) then (
  some U)
  else (
  zb1 (zag 600 (U.2.1 (x0 + 2)) ((x1 * 100) + x2)) fun v5 =>
  zb1 (zas 600 (U.2.1 (x0 + 2)) ((x1 * 100) + x2) (v5 ||| (1 <<< (x3 &&& 31)))) fun f7 =>
  zb1 (some (csA U (x0 + 2) f7)) fun U7 =>
  zb1 (zag 600 (U7.2.1 (x0 + 3)) ((x1 * 100) + x2)) fun v11 =>
  zb1 (zas 600 (U7.2.1 (x0 + 3)) ((x1 * 100) + x2) (v11 + 1)) fun f13 =>
  zb1 (some (csA U7 (x0 + 3) f13)) fun U13 =>
  some U13))
set_option maxRecDepth 100000 in
theorem eX1_hear {ν : zM} {sh : Nat → Nat} {U : zCS} {x0 : Nat} {x1 : Int32} {x2 : Int32} {x3 : Int32} (h0 : isX1 sh x0) : fX1_hear (cmem ν sh U) x0 x1 x2 x3 = Option.map (cmem ν sh) (gX1_hear U x0 x1 x2 x3) := by simp only [fX1_hear, gX1_hear, zgd_t, zmap_ite, zmap_some, zmap_none, zmap_zb0, zmap_zni, zq2_k, zq3_k, zq4_k, zq5_k, zzb1_q, zzb2_q, zzb3_q, zzb4_q, zzb5_q, zmap_zb1, zmap_zb2, zmap_zb3, zmap_zb4, zmap_zb5, zmap_zb6, zmap_zc1, zmap_zc2, zmap_zc3, zmap_zc4, ca_1600 (isX1_2 h0), ca_1600 (isX1_3 h0), cg_X1_4 h0, cg_X1_5 h0, cs_1600 (isX1_2 h0), cs_1600 (isX1_3 h0), eX11_isMinute, ck_X1 h0]
noncomputable def gX1_speak_b45 (m12 : zCS) (x0 : Nat) (x2 : Int32) (x6_11 : Int32) (x1 : Nat) (x3 : Int32) (x4 : Int32) (x5_5 : Int32) : Option (zCS) :=
  zb1 (zag 6 (m12.2.1 (x0 + 1)) x2) fun v23 =>
  zb1 (zag 6 (m12.2.1 (x0 + 1)) x6_11) fun v29 =>
  zb1 (gX9_arrival m12 x1 v23 x3 x4 (m12.1 x0 0) v29 x5_5) fun v32 =>
  zb1 (gX9_wordBy m12 x1 x3 (m12.1 x0 0) x5_5) fun v36 =>
  zb1 (gX1_hear m12 x0 x6_11 v32 v36) fun U38 =>
  some U38
noncomputable def gX1_speak_l22 (x1 : Nat) (x5_5 : Int32) (x2 : Int32) (x0 : Nat) (x3 : Int32) (x4 : Int32) (F13 : Int32 → zCS → Option (zCS)) (x6_11 : Int32) (m12 : zCS) : Option (zCS) :=
  if (m12.1 x1 4) ≤ x6_11 then (
  some m12)
  else (
  zc1 (if x5_5 = 0 then (
  if x6_11 = x2 then (
  some m12)
  else (
  gX1_speak_b45 m12 x0 x2 x6_11 x1 x3 x4 x5_5))
  else (
  gX1_speak_b45 m12 x0 x2 x6_11 x1 x3 x4 x5_5) : Option (zCS)) fun (m19 : zCS) =>
  F13 (x6_11 + 1) m19)
noncomputable def gX1_speak_l13 (x1 : Nat) (x2 : Int32) (x0 : Nat) (x3 : Int32) (x4 : Int32) (F7 : Int32 → zCS → Option (zCS)) (x5_5 : Int32) (m6 : zCS) : Option (zCS) :=
  if 2 < x5_5 then (
  some m6)
  else (
  zb1 (zf2 (gX1_speak_l22 x1 x5_5 x2 x0 x3 x4) zfu 0 m6 : Option (zCS)) fun (m15 : zCS) =>
  F7 (x5_5 + 1) m15)
noncomputable def gX1_speak (U : zCS) (x0 : Nat) (x1 : Nat) (x2 : Int32) (x3 : Int32) (x4 : Int32) : Option (zCS) :=
  zb1 (some (csI U x0 1 ((U.1 x0 1) + 1))) fun U3 =>
  zb1 (zf2 (gX1_speak_l13 x1 x2 x0 x3 x4) zfu 0 U3 : Option (zCS)) fun (m9 : zCS) =>
  some m9
set_option maxRecDepth 100000 in
theorem eX1_speak_b45 {ν : zM} {sh : Nat → Nat} {m12 : zCS} {x0 : Nat} {x2 : Int32} {x6_11 : Int32} {x1 : Nat} {x3 : Int32} {x4 : Int32} {x5_5 : Int32} (h0 : isX1 sh x0) (h1 : isX9 sh x1) (hst : stOk ν sh)  : fX1_speak_b45 (cmem ν sh m12) x0 x2 x6_11 x1 x3 x4 x5_5  = Option.map (cmem ν sh) (gX1_speak_b45 m12 x0 x2 x6_11 x1 x3 x4 x5_5 ) := by simp only [fX1_speak_b45, gX1_speak_b45, zgd_t, zmap_ite, zmap_some, zmap_none, zmap_zb0, zmap_zni, zq2_k, zq3_k, zq4_k, zq5_k, zzc1_some, zzc2_some, zzc3_some, zzc4_some, zzc5_some, zzc6_some, zzb1_q, zzb2_q, zzb3_q, zzb4_q, zzb5_q, zzc1_q, zzc2_q, zzc3_q, zzc4_q, zzc5_q, zmap_zb1, zmap_zb2, zmap_zb3, zmap_zb4, zmap_zb5, zmap_zb6, zzc1_ite, zzc2_ite, zzc3_ite, zzc4_ite, zmap_zc1, zmap_zc2, zmap_zc3, zmap_zc4, zzc1_zb0, zzc1_zb1, zzc1_zb2, zzc1_zb3, zzc1_zb4, zzc2_zb0, zzc2_zb1, zzc2_zb2, zzc2_zb3, zzc2_zb4, zzc3_zb0, zzc3_zb1, zzc3_zb2, zzc3_zb3, zzc3_zb4, zzc4_zb0, zzc4_zb1, zzc4_zb2, zzc4_zb3, zzc4_zb4, (eX1_hear (h0 := h0)), (eX9_arrival (h0 := h1) (hst := hst)), (eX9_wordBy (h0 := h1)), ca_1006 (isX1_1 h0), cg_X1_0 h0, cg_X1_1 h0, cg_X1_3 h0, cg_X9_4 h1, cp_X1_1 h0, ck_X1 h0]
set_option maxRecDepth 100000 in
theorem eX1_speak_l22 {ν : zM} {sh : Nat → Nat} {x1 : Nat} {x5_5 : Int32} {x2 : Int32} {x0 : Nat} {x3 : Int32} {x4 : Int32} {x6_11 : Int32} {m12 : zCS} (h0 : isX1 sh x0) (h1 : isX9 sh x1) (hst : stOk ν sh)  (n : Nat) : zf2 (fX1_speak_l22 x1 x5_5 x2 x0 x3 x4) n x6_11 (cmem ν sh m12) = Option.map (cmem ν sh) (zf2 (gX1_speak_l22 x1 x5_5 x2 x0 x3 x4) n x6_11 m12) := by
  refine zf2_m (fun F13 G13 hF13 x6_11 m12 => ?_) n x6_11 m12
  simp only [fX1_speak_l22, gX1_speak_l22, zgd_t, zmap_ite, zmap_some, zmap_none, zmap_zb0, zmap_zni, zq2_k, zq3_k, zq4_k, zq5_k, zzc1_some, zzc2_some, zzc3_some, zzc4_some, zzc5_some, zzc6_some, zzb1_q, zzb2_q, zzb3_q, zzb4_q, zzb5_q, zzc1_q, zzc2_q, zzc3_q, zzc4_q, zzc5_q, zmap_zb1, zmap_zb2, zmap_zb3, zmap_zb4, zmap_zb5, zmap_zb6, zzc1_ite, zzc2_ite, zzc3_ite, zzc4_ite, zmap_zc1, zmap_zc2, zmap_zc3, zmap_zc4, zzc1_zb0, zzc1_zb1, zzc1_zb2, zzc1_zb3, zzc1_zb4, zzc2_zb0, zzc2_zb1, zzc2_zb2, zzc2_zb3, zzc2_zb4, zzc3_zb0, zzc3_zb1, zzc3_zb2, zzc3_zb3, zzc3_zb4, zzc4_zb0, zzc4_zb1, zzc4_zb2, zzc4_zb3, zzc4_zb4, (eX1_hear (h0 := h0)), (eX9_arrival (h0 := h1) (hst := hst)), (eX9_wordBy (h0 := h1)), ca_1006 (isX1_1 h0), cg_X1_0 h0, cg_X1_1 h0, cg_X1_3 h0, cg_X9_4 h1, cp_X1_1 h0, ck_X1 h0, (eX1_speak_b45 (h0 := h0) (h1 := h1) (hst := hst)), hF13]
set_option maxRecDepth 100000 in
theorem eX1_speak_l13 {ν : zM} {sh : Nat → Nat} {x1 : Nat} {x2 : Int32} {x0 : Nat} {x3 : Int32} {x4 : Int32} {x5_5 : Int32} {m6 : zCS} (h0 : isX1 sh x0) (h1 : isX9 sh x1) (hst : stOk ν sh)  (n : Nat) : zf2 (fX1_speak_l13 x1 x2 x0 x3 x4) n x5_5 (cmem ν sh m6) = Option.map (cmem ν sh) (zf2 (gX1_speak_l13 x1 x2 x0 x3 x4) n x5_5 m6) := by
  refine zf2_m (fun F7 G7 hF7 x5_5 m6 => ?_) n x5_5 m6
  simp only [fX1_speak_l13, gX1_speak_l13, zgd_t, zmap_ite, zmap_some, zmap_none, zmap_zb0, zmap_zni, zq2_k, zq3_k, zq4_k, zq5_k, zzc1_some, zzc2_some, zzc3_some, zzc4_some, zzc5_some, zzc6_some, zzb1_q, zzb2_q, zzb3_q, zzb4_q, zzb5_q, zzc1_q, zzc2_q, zzc3_q, zzc4_q, zzc5_q, zmap_zb1, zmap_zb2, zmap_zb3, zmap_zb4, zmap_zb5, zmap_zb6, zzc1_ite, zzc2_ite, zzc3_ite, zzc4_ite, zmap_zc1, zmap_zc2, zmap_zc3, zmap_zc4, zzc1_zb0, zzc1_zb1, zzc1_zb2, zzc1_zb3, zzc1_zb4, zzc2_zb0, zzc2_zb1, zzc2_zb2, zzc2_zb3, zzc2_zb4, zzc3_zb0, zzc3_zb1, zzc3_zb2, zzc3_zb3, zzc3_zb4, zzc4_zb0, zzc4_zb1, zzc4_zb2, zzc4_zb3, zzc4_zb4, (eX1_hear (h0 := h0)), (eX9_arrival (h0 := h1) (hst := hst)), (eX9_wordBy (h0 := h1)), ca_1006 (isX1_1 h0), cg_X1_0 h0, cg_X1_1 h0, cg_X1_3 h0, cg_X9_4 h1, cp_X1_1 h0, ck_X1 h0, (eX1_speak_b45 (h0 := h0) (h1 := h1) (hst := hst)), (eX1_speak_l22 (h0 := h0) (h1 := h1) (hst := hst)), hF7]
set_option maxRecDepth 100000 in
theorem eX1_speak {ν : zM} {sh : Nat → Nat} {U : zCS} {x0 : Nat} {x1 : Nat} {x2 : Int32} {x3 : Int32} {x4 : Int32} (h0 : isX1 sh x0) (h1 : isX9 sh x1) (hst : stOk ν sh) : fX1_speak (cmem ν sh U) x0 x1 x2 x3 x4 = Option.map (cmem ν sh) (gX1_speak U x0 x1 x2 x3 x4) := by simp only [fX1_speak, gX1_speak, zgd_t, zmap_ite, zmap_some, zmap_none, zmap_zb0, zmap_zni, zq2_k, zq3_k, zq4_k, zq5_k, zzc1_some, zzc2_some, zzc3_some, zzc4_some, zzc5_some, zzc6_some, zzb1_q, zzb2_q, zzb3_q, zzb4_q, zzb5_q, zzc1_q, zzc2_q, zzc3_q, zzc4_q, zzc5_q, zmap_zb1, zmap_zb2, zmap_zb3, zmap_zb4, zmap_zb5, zmap_zb6, zzc1_ite, zzc2_ite, zzc3_ite, zzc4_ite, zmap_zc1, zmap_zc2, zmap_zc3, zmap_zc4, zzc1_zb0, zzc1_zb1, zzc1_zb2, zzc1_zb3, zzc1_zb4, zzc2_zb0, zzc2_zb1, zzc2_zb2, zzc2_zb3, zzc2_zb4, zzc3_zb0, zzc3_zb1, zzc3_zb2, zzc3_zb3, zzc3_zb4, zzc4_zb0, zzc4_zb1, zzc4_zb2, zzc4_zb3, zzc4_zb4, (eX1_hear (h0 := h0)), (eX9_arrival (h0 := h1) (hst := hst)), (eX9_wordBy (h0 := h1)), ca_1006 (isX1_1 h0), cg_X1_0 h0, cg_X1_1 h0, cg_X1_3 h0, cg_X9_4 h1, cp_X1_1 h0, ck_X1 h0, (eX1_speak_b45 (h0 := h0) (h1 := h1) (hst := hst)), (eX1_speak_l22 (h0 := h0) (h1 := h1) (hst := hst)), (eX1_speak_l13 (h0 := h0) (h1 := h1) (hst := hst))]
noncomputable def gX1_perform (U : zCS) (x0 : Nat) (x1 : Nat) (x2 : Int32) (x3 : Int32) (x4 : Int32) : Option (Int32 × zCS) :=
  if x2 = 4 then (
  zb2 (gX1_pass U x0 x3) fun v12 U11 =>
  zb1 (zbz v12) fun v13 =>
  some (v13, U11))
  else (
  zb1 (gX9_hasPerson U x1 x3) fun v2 =>
  if v2 = 0 then (
  some (0, U))
  else (
  if x2 = 3 then (
  zb2 (gX1_walk U x0 x1 x3 x4) fun v7 U6 =>
  zb1 (zbz v7) fun v8 =>
  some (v8, U6))
  else (
  zb1 (gX1_speak U x0 x1 x3 x4 x2) fun U4 =>
  some (1, U4))))
set_option maxRecDepth 100000 in
theorem eX1_perform {ν : zM} {sh : Nat → Nat} {U : zCS} {x0 : Nat} {x1 : Nat} {x2 : Int32} {x3 : Int32} {x4 : Int32} (h0 : isX1 sh x0) (h1 : isX9 sh x1) (hst : stOk ν sh) : fX1_perform (cmem ν sh U) x0 x1 x2 x3 x4 = Option.map (zq2 (cmem ν sh)) (gX1_perform U x0 x1 x2 x3 x4) := by simp only [fX1_perform, gX1_perform, zgd_t, zmap_ite, zmap_some, zmap_none, zmap_zb0, zmap_zni, zq2_k, zq3_k, zq4_k, zq5_k, zzb1_q, zzb2_q, zzb3_q, zzb4_q, zzb5_q, zmap_zb1, zmap_zb2, zmap_zb3, zmap_zb4, zmap_zb5, zmap_zb6, zmap_zc1, zmap_zc2, zmap_zc3, zmap_zc4, (eX1_pass (h0 := h0)), (eX1_speak (h0 := h0) (h1 := h1) (hst := hst)), (eX1_walk (h0 := h0) (h1 := h1)), (eX9_hasPerson (h0 := h1)), ck_X1 h0]
noncomputable def gX1_follow_l8 (x3 : Int32) (x2 : Nat) (x0 : Nat) (x1 : Nat) (F5 : Int32 → zCS → Option (Int32 × zCS)) (x4_3 : Int32) (m4 : zCS) : Option (Int32 × zCS) :=
  if x3 ≤ x4_3 then (
  some (x4_3, m4))
  else (
  if (m4.1 x2 0) ≤ x4_3 then (
  some (x4_3, m4))
  else (
  zb1 (zag 40 (m4.2.1 (x2 + 1)) x4_3) fun v14 =>
  zb1 (zag 40 (m4.2.1 (x2 + 2)) x4_3) fun v18 =>
  zb1 (zag 40 (m4.2.1 (x2 + 3)) x4_3) fun v22 =>
  zb2 (gX1_perform m4 x0 x1 v14 v18 v22) fun v26 U25 =>
  if v26 = 0 then (
  some (x4_3, U25))
  else (
  F5 (x4_3 + 1) U25)))
noncomputable def gX1_follow (U : zCS) (x0 : Nat) (x1 : Nat) (x2 : Nat) (x3 : Int32) : Option (Int32 × zCS) :=
  zb1 (gX1_begin U x0 x1) fun U2 =>
  zb2 (zf2 (gX1_follow_l8 x3 x2 x0 x1) zfu 0 U2 : Option (Int32 × zCS)) fun (x4_7 : Int32) (m8 : zCS) =>
  some (x4_7, m8)
set_option maxRecDepth 100000 in
theorem eX1_follow_l8 {ν : zM} {sh : Nat → Nat} {x3 : Int32} {x2 : Nat} {x0 : Nat} {x1 : Nat} {x4_3 : Int32} {m4 : zCS} (h0 : isX1 sh x0) (h1 : isX9 sh x1) (h2 : isX2 sh x2) (hst : stOk ν sh)  (n : Nat) : zf2 (fX1_follow_l8 x3 x2 x0 x1) n x4_3 (cmem ν sh m4) = Option.map (zq2 (cmem ν sh)) (zf2 (gX1_follow_l8 x3 x2 x0 x1) n x4_3 m4) := by
  refine zf2_m (fun F5 G5 hF5 x4_3 m4 => ?_) n x4_3 m4
  simp only [fX1_follow_l8, gX1_follow_l8, zgd_t, zmap_ite, zmap_some, zmap_none, zmap_zb0, zmap_zni, zq2_k, zq3_k, zq4_k, zq5_k, zzb1_q, zzb2_q, zzb3_q, zzb4_q, zzb5_q, zmap_zb1, zmap_zb2, zmap_zb3, zmap_zb4, zmap_zb5, zmap_zb6, zmap_zc1, zmap_zc2, zmap_zc3, zmap_zc4, (eX1_begin (h0 := h0) (h1 := h1)), (eX1_perform (h0 := h0) (h1 := h1) (hst := hst)), ca_1040 (isX2_1 h2), ca_1040 (isX2_2 h2), ca_1040 (isX2_3 h2), cg_X2_0 h2, cg_X2_1 h2, cg_X2_2 h2, cg_X2_3 h2, ck_X1 h0, hF5]
set_option maxRecDepth 100000 in
theorem eX1_follow {ν : zM} {sh : Nat → Nat} {U : zCS} {x0 : Nat} {x1 : Nat} {x2 : Nat} {x3 : Int32} (h0 : isX1 sh x0) (h1 : isX9 sh x1) (h2 : isX2 sh x2) (hst : stOk ν sh) : fX1_follow (cmem ν sh U) x0 x1 x2 x3 = Option.map (zq2 (cmem ν sh)) (gX1_follow U x0 x1 x2 x3) := by simp only [fX1_follow, gX1_follow, zgd_t, zmap_ite, zmap_some, zmap_none, zmap_zb0, zmap_zni, zq2_k, zq3_k, zq4_k, zq5_k, zzb1_q, zzb2_q, zzb3_q, zzb4_q, zzb5_q, zmap_zb1, zmap_zb2, zmap_zb3, zmap_zb4, zmap_zb5, zmap_zb6, zmap_zc1, zmap_zc2, zmap_zc3, zmap_zc4, (eX1_begin (h0 := h0) (h1 := h1)), (eX1_perform (h0 := h0) (h1 := h1) (hst := hst)), ca_1040 (isX2_1 h2), ca_1040 (isX2_2 h2), ca_1040 (isX2_3 h2), cg_X2_0 h2, cg_X2_1 h2, cg_X2_2 h2, cg_X2_3 h2, ck_X1 h0, (eX1_follow_l8 (h0 := h0) (h1 := h1) (h2 := h2) (hst := hst))]
noncomputable def gX1_below (U : zCS) (x0 : Nat) (x1 : Int32) : Option (Int32 × zCS) :=
  zb1 (some (csI U x0 2 (((U.1 x0 2) * 1103515245) + 12345))) fun U3 =>
  zb1 (if x1 ≤ 0 then (
  some 0)
  else (
  zni (x1 = 0) <|
  some (((((U3.1 x0 2) : Int32).toUInt32 >>> ((16 : Int32).toUInt32 &&& Int32.toUInt32 31)).toInt32) - ((((U3.1 x0 2) : Int32).toUInt32 >>> ((16 : Int32).toUInt32 &&& Int32.toUInt32 31)).toInt32) / x1 * x1)) : Option (Int32)) fun (s5 : Int32) =>
  some (s5, U3)
set_option maxRecDepth 100000 in
theorem eX1_below {ν : zM} {sh : Nat → Nat} {U : zCS} {x0 : Nat} {x1 : Int32} (h0 : isX1 sh x0) : fX1_below (cmem ν sh U) x0 x1 = Option.map (zq2 (cmem ν sh)) (gX1_below U x0 x1) := by simp only [fX1_below, gX1_below, zgd_t, zmap_ite, zmap_some, zmap_none, zmap_zb0, zmap_zni, zq2_k, zq3_k, zq4_k, zq5_k, zzb1_q, zzb2_q, zzb3_q, zzb4_q, zzb5_q, zmap_zb1, zmap_zb2, zmap_zb3, zmap_zb4, zmap_zb5, zmap_zb6, zmap_zc1, zmap_zc2, zmap_zc3, zmap_zc4, cg_X1_2 h0, cp_X1_2 h0, ck_X1 h0]
