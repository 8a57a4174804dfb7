noncomputable def gX12_drawn_l45 (x3 : Int32) (F16 : Int32 → zMS → Option (zMS)) (x5_14 : Int32) (m15 : zMS) : Option (zMS) :=
  if x3 ≤ x5_14 then (
  some m15)
  else (
  zb1 (gX12_drawDeed m15) fun M21 =>
  F16 (x5_14 + 1) M21)
noncomputable def gX12_drawn (M : zMS) (x1 : Int32) (x2 : Int32) (x3 : Int32) (x4 : Int32) : Option (Int32 × zMS) :=
  zb1 (some (zsI M 0 0)) fun M1 =>
  zb1 (gX12_in x3 0 60) fun v4 =>
  if v4 = 0 then (
  some ((-2), M1))
  else (
  zb2 (gX12_hand M1 x1) fun v7 M6 =>
  if v7 = 0 then (
  some ((-2), M6))
  else (
  if (M6.1 25) = 0 then (
  some ((-2), M6))
  else (
  zb1 (some (zsI M6 49 x2)) fun M10 =>
  zb1 (gX12_begin M10) fun M13 =>
  zb1 (zf2 (gX12_drawn_l45 x3) zfu 0 M13 : Option (zMS)) fun (m18 : zMS) =>
  zb2 (gX12_ofState m18 x4) fun v25 M24 =>
  some (v25, M24))))
set_option maxRecDepth 100000 in
theorem eX12_drawn_l45 {ν : zM} {Y : Nat} {x3 : Int32} {x5_14 : Int32} {m15 : zMS}   (n : Nat) : zf2 (fX12_drawn_l45 x3 Y) n x5_14 (mdl ν Y m15) = Option.map (mdl ν Y) (zf2 (gX12_drawn_l45 x3) n x5_14 m15) := by
  refine zf2_m (fun F16 G16 hF16 x5_14 m15 => ?_) n x5_14 m15
  simp only [fX12_drawn_l45, gX12_drawn_l45, zgd_t, zmap_ite, zmap_some, zmap_none, zmap_zb0, zmap_zni, zq2_k, zq3_k, zq4_k, zq5_k, zzb1_q, zzb2_q, zzb3_q, zzb4_q, zzb5_q, zmap_zb1, zmap_zb2, zmap_zb3, zmap_zb4, zmap_zb5, zmap_zb6, zmap_zc1, zmap_zc2, zmap_zc3, zmap_zc4, md_ck, md_g25, md_p0, md_p49, eX12_begin, eX12_drawDeed, eX12_hand, eX12_in, eX12_ofState, hF16]
set_option maxRecDepth 100000 in
theorem eX12_drawn {ν : zM} {Y : Nat} {M : zMS} {x1 : Int32} {x2 : Int32} {x3 : Int32} {x4 : Int32}  : fX12_drawn (mdl ν Y M) Y x1 x2 x3 x4 = Option.map (zq2 (mdl ν Y)) (gX12_drawn M x1 x2 x3 x4) := by simp only [fX12_drawn, gX12_drawn, zgd_t, zmap_ite, zmap_some, zmap_none, zmap_zb0, zmap_zni, zq2_k, zq3_k, zq4_k, zq5_k, zzb1_q, zzb2_q, zzb3_q, zzb4_q, zzb5_q, zmap_zb1, zmap_zb2, zmap_zb3, zmap_zb4, zmap_zb5, zmap_zb6, zmap_zc1, zmap_zc2, zmap_zc3, zmap_zc4, md_ck, md_g25, md_p0, md_p49, eX12_begin, eX12_drawDeed, eX12_hand, eX12_in, eX12_ofState, eX12_drawn_l45]
noncomputable def gX12_ringOf_l10 (x1 : Int32) (M : zMS) (F5 : Int32 → Int32 → Option (Int32 × Int32)) (x2_3 : Int32) (x3_4 : Int32) : Option (Int32 × Int32) :=
  if x2_3 = x1 then (
  some (x2_3, x3_4))
  else (
  if 8 ≤ x3_4 then (
  some (x2_3, x3_4))
  else (
  zb1 (gX12_of M (3 + x2_3)) fun v11 =>
  F5 v11 (x3_4 + 1)))
noncomputable def gX12_ringOf (M : zMS) (x1 : Int32) : Option (Int32) :=
  zb1 (gX12_of M (3 + x1)) fun v2 =>
  zb2 (zf2 (gX12_ringOf_l10 x1 M) zfu v2 1 : Option (Int32 × Int32)) fun (x2_7 : Int32) (x3_8 : Int32) =>
  zb1 (if x2_7 = x1 then (
  some x3_8)
  else (
  some 0) : Option (Int32)) fun (s13 : Int32) =>
  some s13
set_option maxRecDepth 100000 in
theorem eX12_ringOf_l10 {ν : zM} {Y : Nat} {x1 : Int32} {M : zMS} {x2_3 : Int32} {x3_4 : Int32}   (n : Nat) : zf2 (fX12_ringOf_l10 x1 (mdl ν Y M) Y) n x2_3 x3_4 = zf2 (gX12_ringOf_l10 x1 M) n x2_3 x3_4 := by
  refine zf2_c (fun F5 G5 hF5 x2_3 x3_4 => ?_) n x2_3 x3_4
  simp only [fX12_ringOf_l10, gX12_ringOf_l10, zgd_t, zmap_ite, zmap_some, zmap_none, zmap_zb0, zmap_zni, zq2_k, zq3_k, zq4_k, zq5_k, zzb1_q, zzb2_q, zzb3_q, zzb4_q, zzb5_q, zmap_zb1, zmap_zb2, zmap_zb3, zmap_zb4, zmap_zb5, zmap_zb6, zmap_zc1, zmap_zc2, zmap_zc3, zmap_zc4, md_ck, eX12_of, hF5]
set_option maxRecDepth 100000 in
theorem eX12_ringOf {ν : zM} {Y : Nat} {M : zMS} {x1 : Int32}  : fX12_ringOf (mdl ν Y M) Y x1 = gX12_ringOf M x1 := by simp only [fX12_ringOf, gX12_ringOf, zgd_t, zmap_ite, zmap_some, zmap_none, zmap_zb0, zmap_zni, zq2_k, zq3_k, zq4_k, zq5_k, zzb1_q, zzb2_q, zzb3_q, zzb4_q, zzb5_q, zmap_zb1, zmap_zb2, zmap_zb3, zmap_zb4, zmap_zb5, zmap_zb6, zmap_zc1, zmap_zc2, zmap_zc3, zmap_zc4, md_ck, eX12_of, eX12_ringOf_l10]
noncomputable def gX12_isFirst_l8 (x1 : Int32) (M : zMS) (F4 : Int32 → Option (Int32)) (x2_3 : Int32) : Option (Int32) :=
  if x2_3 = x1 then (
  some 1)
  else (
  if x1 ≤ x2_3 then (
  zb1 (gX12_of M (3 + x2_3)) fun v7 =>
  F4 v7)
  else (
  some 0))
noncomputable def gX12_isFirst (M : zMS) (x1 : Int32) : Option (Int32) :=
  zb1 (gX12_of M (3 + x1)) fun v2 =>
  zf1 (gX12_isFirst_l8 x1 M) zfu v2
set_option maxRecDepth 100000 in
theorem eX12_isFirst_l8 {ν : zM} {Y : Nat} {x1 : Int32} {M : zMS} {x2_3 : Int32}   (n : Nat) : zf1 (fX12_isFirst_l8 x1 (mdl ν Y M) Y) n x2_3 = zf1 (gX12_isFirst_l8 x1 M) n x2_3 := by
  refine zf1_c (fun F4 G4 hF4 x2_3 => ?_) n x2_3
  simp only [fX12_isFirst_l8, gX12_isFirst_l8, zgd_t, zmap_ite, zmap_some, zmap_none, zmap_zb0, zmap_zni, zq2_k, zq3_k, zq4_k, zq5_k, zzb1_q, zzb2_q, zzb3_q, zzb4_q, zzb5_q, zmap_zb1, zmap_zb2, zmap_zb3, zmap_zb4, zmap_zb5, zmap_zb6, zmap_zc1, zmap_zc2, zmap_zc3, zmap_zc4, md_ck, eX12_of, hF4]
set_option maxRecDepth 100000 in
theorem eX12_isFirst {ν : zM} {Y : Nat} {M : zMS} {x1 : Int32}  : fX12_isFirst (mdl ν Y M) Y x1 = gX12_isFirst M x1 := by simp only [fX12_isFirst, gX12_isFirst, zgd_t, zmap_ite, zmap_some, zmap_none, zmap_zb0, zmap_zni, zq2_k, zq3_k, zq4_k, zq5_k, zzb1_q, zzb2_q, zzb3_q, zzb4_q, zzb5_q, zmap_zb1, zmap_zb2, zmap_zb3, zmap_zb4, zmap_zb5, zmap_zb6, zmap_zc1, zmap_zc2, zmap_zc3, zmap_zc4, md_ck, eX12_of, eX12_isFirst_l8]
noncomputable def gX12_rings_b69  : Option (Int32) :=
  some 0
noncomputable def gX12_rings_l35 (M4 : zMS) (F12 : Int32 → Int32 → Int32 → Int32 → Option (Int32 × Int32 × Int32)) (x3_8 : Int32) (x4_9 : Int32) (x5_10 : Int32) (x6_11 : Int32) : Option (Int32 × Int32 × Int32) :=
  if 8 ≤ x6_11 then (
  some (x3_8, x4_9, x5_10))
  else (
  zb1 (gX12_ringOf M4 x6_11) fun v19 =>
  zb1 (if v19 ≤ 0 then (
  gX12_rings_b69)
  else (
  zb1 (gX12_isFirst M4 x6_11) fun v28 =>
  if v28 = 0 then (
  gX12_rings_b69)
  else (
  some 1)) : Option (Int32)) fun (s20 : Int32) =>
  zb1 (gX12_greater x4_9 v19) fun v24 =>
  zb1 (if v19 ≤ 0 then (
  some 0)
  else (
  some (1 <<< (x6_11 &&& 31))) : Option (Int32)) fun (s25 : Int32) =>
  F12 (x3_8 + s20) v24 (x5_10 ||| s25) (x6_11 + 1))
noncomputable def gX12_rings (M : zMS) (x1 : Int32) (x2 : Int32) : Option (Int32 × zMS) :=
  zb1 (some (zsI M 0 0)) fun M1 =>
  zb2 (gX12_hand M1 x1) fun v5 M4 =>
  if v5 = 0 then (
  some ((-1), M4))
  else (
  zb1 (gX12_in x2 0 2) fun v7 =>
  if v7 = 0 then (
  some ((-1), M4))
  else (
  zb3 (zf4 (gX12_rings_l35 M4) zfu 0 0 0 0 : Option (Int32 × Int32 × Int32)) fun (x3_14 : Int32) (x4_15 : Int32) (x5_16 : Int32) =>
  zb1 (if x2 = 0 then (
  some x3_14)
  else (
  if x2 = 1 then (
  some x4_15)
  else (
  some x5_16)) : Option (Int32)) fun (s30 : Int32) =>
  some (s30, M4)))
set_option maxRecDepth 100000 in
theorem eX12_rings_b69     : fX12_rings_b69  = gX12_rings_b69  := by simp only [fX12_rings_b69, gX12_rings_b69, zgd_t, zmap_ite, zmap_some, zmap_none, zmap_zb0, zmap_zni, zq2_k, zq3_k, zq4_k, zq5_k, zzb1_q, zzb2_q, zzb3_q, zzb4_q, zzb5_q, zmap_zb1, zmap_zb2, zmap_zb3, zmap_zb4, zmap_zb5, zmap_zb6, zmap_zc1, zmap_zc2, zmap_zc3, zmap_zc4, md_ck, md_p0, eX12_greater, eX12_hand, eX12_in, eX12_isFirst, eX12_ringOf]
set_option maxRecDepth 100000 in
theorem eX12_rings_l35 {ν : zM} {Y : Nat} {m4 : zMS} {x3_8 : Int32} {x4_9 : Int32} {x5_10 : Int32} {x6_11 : Int32}   (n : Nat) : zf4 (fX12_rings_l35 (mdl ν Y m4) Y) n x3_8 x4_9 x5_10 x6_11 = zf4 (gX12_rings_l35 m4) n x3_8 x4_9 x5_10 x6_11 := by
  refine zf4_c (fun F12 G12 hF12 x3_8 x4_9 x5_10 x6_11 => ?_) n x3_8 x4_9 x5_10 x6_11
  simp only [fX12_rings_l35, gX12_rings_l35, zgd_t, zmap_ite, zmap_some, zmap_none, zmap_zb0, zmap_zni, zq2_k, zq3_k, zq4_k, zq5_k, zzb1_q, zzb2_q, zzb3_q, zzb4_q, zzb5_q, zmap_zb1, zmap_zb2, zmap_zb3, zmap_zb4, zmap_zb5, zmap_zb6, zmap_zc1, zmap_zc2, zmap_zc3, zmap_zc4, md_ck, md_p0, eX12_greater, eX12_hand, eX12_in, eX12_isFirst, eX12_ringOf, eX12_rings_b69, hF12]
set_option maxRecDepth 100000 in
theorem eX12_rings {ν : zM} {Y : Nat} {M : zMS} {x1 : Int32} {x2 : Int32}  : fX12_rings (mdl ν Y M) Y x1 x2 = Option.map (zq2 (mdl ν Y)) (gX12_rings M x1 x2) := by simp only [fX12_rings, gX12_rings, zgd_t, zmap_ite, zmap_some, zmap_none, zmap_zb0, zmap_zni, zq2_k, zq3_k, zq4_k, zq5_k, zzb1_q, zzb2_q, zzb3_q, zzb4_q, zzb5_q, zmap_zb1, zmap_zb2, zmap_zb3, zmap_zb4, zmap_zb5, zmap_zb6, zmap_zc1, zmap_zc2, zmap_zc3, zmap_zc4, md_ck, md_p0, eX12_greater, eX12_hand, eX12_in, eX12_isFirst, eX12_ringOf, eX12_rings_b69, eX12_rings_l35]
noncomputable def gX12_unsure_l36 (M6 : zMS) (F11 : Int32 → Int32 → Int32 → Option (Int32 × Int32)) (x4_8 : Int32) (x5_9 : Int32) (x6_10 : Int32) : Option (Int32 × Int32) :=
  if 8 ≤ x6_10 then (
  some (x4_8, x5_9))
  else (
  zb1 (gX12_of M6 (3 + x6_10)) fun v17 =>
  zb1 (if v17 = x6_10 then (
  zb1 (gX12_of M6 (19 + x6_10)) fun v23 =>
  some v23)
  else (
  some 0) : Option (Int32)) fun (s18 : Int32) =>
  zb1 (gX12_of M6 (19 + x6_10)) fun v21 =>
  F11 (x4_8 + s18) (x5_9 + v21) (x6_10 + 1))
noncomputable def gX12_unsure_l107 (x4_13 : Int32) (x5_14 : Int32) (F26 : Int32 → Option (Int32)) (x6_25 : Int32) : Option (Int32) :=
  zni (x6_25 = 0) <|
  if (x4_13 - x4_13 / x6_25 * x6_25) = 0 then (
  zni (x6_25 = 0) <|
  if (x5_14 - x5_14 / x6_25 * x6_25) = 0 then (
  some x6_25)
  else (
  F26 (x6_25 + (-1))))
  else (
  F26 (x6_25 + (-1)))
noncomputable def gX12_unsure_l135 (x2 : Int32) (x3 : Int32) (x4_13 : Int32) (x5_14 : Int32) (x6_28 : Int32) (F35 : Int64 → Int32 → Option (Int64)) (x7_33 : Int64) (x9_34 : Int32) : Option (Int64) :=
  if x2 ≤ x9_34 then (
  some x7_33)
  else (
  zb1 (if x3 = 0 then (
  some x4_13)
  else (
  some x5_14) : Option (Int32)) fun (s39 : Int32) =>
  zni (x6_28 = 0) <|
  F35 (x7_33 * ((s39 / x6_28 : Int32).toInt64)) (x9_34 + 1))
noncomputable def gX12_unsure (M : zMS) (x1 : Int32) (x2 : Int32) (x3 : Int32) : Option (Int64 × zMS) :=
  zb1 (some (zsI M 0 0)) fun M1 =>
  zb1 (gX12_in x2 0 6) fun v4 =>
  if v4 = 0 then (
  some ((-1), M1))
  else (
  zb2 (gX12_hand M1 x1) fun v7 M6 =>
  if v7 = 0 then (
  some ((-1), M6))
  else (
  zb2 (zf3 (gX12_unsure_l36 M6) zfu 0 0 0 : Option (Int32 × Int32)) fun (x4_13 : Int32) (x5_14 : Int32) =>
  if x5_14 = 0 then (
  some ((-1), M6))
  else (
  zb1 (zf1 (gX12_unsure_l107 x4_13 x5_14) zfu x5_14 : Option (Int32)) fun (x6_28 : Int32) =>
  zb1 (zf2 (gX12_unsure_l135 x2 x3 x4_13 x5_14 x6_28) zfu 1 0 : Option (Int64)) fun (x7_37 : Int64) =>
  some (x7_37, M6))))
set_option maxRecDepth 100000 in
theorem eX12_unsure_l36 {ν : zM} {Y : Nat} {m6 : zMS} {x4_8 : Int32} {x5_9 : Int32} {x6_10 : Int32}   (n : Nat) : zf3 (fX12_unsure_l36 (mdl ν Y m6) Y) n x4_8 x5_9 x6_10 = zf3 (gX12_unsure_l36 m6) n x4_8 x5_9 x6_10 := by
  refine zf3_c (fun F11 G11 hF11 x4_8 x5_9 x6_10 => ?_) n x4_8 x5_9 x6_10
  simp only [fX12_unsure_l36, gX12_unsure_l36, zgd_t, zmap_ite, zmap_some, zmap_none, zmap_zb0, zmap_zni, zq2_k, zq3_k, zq4_k, zq5_k, zzb1_q, zzb2_q, zzb3_q, zzb4_q, zzb5_q, zmap_zb1, zmap_zb2, zmap_zb3, zmap_zb4, zmap_zb5, zmap_zb6, zmap_zc1, zmap_zc2, zmap_zc3, zmap_zc4, md_ck, md_p0, eX12_hand, eX12_in, eX12_of, hF11]
set_option maxRecDepth 100000 in
theorem eX12_unsure_l107  {x4_13 : Int32} {x5_14 : Int32} {x6_25 : Int32}   (n : Nat) : zf1 (fX12_unsure_l107 x4_13 x5_14) n x6_25 = zf1 (gX12_unsure_l107 x4_13 x5_14) n x6_25 := by
  refine zf1_c (fun F26 G26 hF26 x6_25 => ?_) n x6_25
  simp only [fX12_unsure_l107, gX12_unsure_l107, zgd_t, zmap_ite, zmap_some, zmap_none, zmap_zb0, zmap_zni, zq2_k, zq3_k, zq4_k, zq5_k, zzb1_q, zzb2_q, zzb3_q, zzb4_q, zzb5_q, zmap_zb1, zmap_zb2, zmap_zb3, zmap_zb4, zmap_zb5, zmap_zb6, zmap_zc1, zmap_zc2, zmap_zc3, zmap_zc4, md_ck, md_p0, eX12_hand, eX12_in, eX12_of, eX12_unsure_l36, hF26]
set_option maxRecDepth 100000 in
theorem eX12_unsure_l135  {x2 : Int32} {x3 : Int32} {x4_13 : Int32} {x5_14 : Int32} {x6_28 : Int32} {x7_33 : Int64} {x9_34 : Int32}   (n : Nat) : zf2 (fX12_unsure_l135 x2 x3 x4_13 x5_14 x6_28) n x7_33 x9_34 = zf2 (gX12_unsure_l135 x2 x3 x4_13 x5_14 x6_28) n x7_33 x9_34 := by
  refine zf2_c (fun F35 G35 hF35 x7_33 x9_34 => ?_) n x7_33 x9_34
  simp only [fX12_unsure_l135, gX12_unsure_l135, zgd_t, zmap_ite, zmap_some, zmap_none, zmap_zb0, zmap_zni, zq2_k, zq3_k, zq4_k, zq5_k, zzb1_q, zzb2_q, zzb3_q, zzb4_q, zzb5_q, zmap_zb1, zmap_zb2, zmap_zb3, zmap_zb4, zmap_zb5, zmap_zb6, zmap_zc1, zmap_zc2, zmap_zc3, zmap_zc4, md_ck, md_p0, eX12_hand, eX12_in, eX12_of, eX12_unsure_l36, eX12_unsure_l107, hF35]
set_option maxRecDepth 100000 in
theorem eX12_unsure {ν : zM} {Y : Nat} {M : zMS} {x1 : Int32} {x2 : Int32} {x3 : Int32}  : fX12_unsure (mdl ν Y M) Y x1 x2 x3 = Option.map (zq2 (mdl ν Y)) (gX12_unsure M x1 x2 x3) := by simp only [fX12_unsure, gX12_unsure, zgd_t, zmap_ite, zmap_some, zmap_none, zmap_zb0, zmap_zni, zq2_k, zq3_k, zq4_k, zq5_k, zzb1_q, zzb2_q, zzb3_q, zzb4_q, zzb5_q, zmap_zb1, zmap_zb2, zmap_zb3, zmap_zb4, zmap_zb5, zmap_zb6, zmap_zc1, zmap_zc2, zmap_zc3, zmap_zc4, md_ck, md_p0, eX12_hand, eX12_in, eX12_of, eX12_unsure_l36, eX12_unsure_l107, eX12_unsure_l135]
noncomputable def gX12_findSoon_l3 (x1 : Int32) (F3 : Int32 → zMS → Option (zMS)) (x4_1 : Int32) (m2 : zMS) : Option (zMS) :=
  if (m2.1 25) ≤ x4_1 then (
  some m2)
  else (
  zb1 (if x4_1 = x1 then (
  some 0)
  else (
  some 1000000) : Option (Int32)) fun (s11 : Int32) =>
  zb1 (zas 6 (m2.2.2 50) x4_1 s11) fun f13 =>
  zb1 (some (zsA m2 50 f13)) fun M13 =>
  F3 (x4_1 + 1) M13)
noncomputable def gX12_findSoon_b132  : Option (Int32) :=
  some 1000000
noncomputable def gX12_findSoon_l63 (x5_22 : Int32) (x2 : Int32) (x3 : Int32) (F32 : Int32 → zMS → Option (zMS)) (x6_30 : Int32) (m31 : zMS) : Option (zMS) :=
  if (m31.1 25) ≤ x6_30 then (
  some m31)
  else (
  zb1 (gX12_of m31 (33 + x5_22)) fun v39 =>
  zb1 (gX12_of m31 (33 + x6_30)) fun v41 =>
  zb1 (gX12_apart v39 v41) fun v43 =>
  zb1 (gX12_range x2) fun v45 =>
  zb1 (if v45 < v43 then (
  gX12_findSoon_b132)
  else (
  if x5_22 = x6_30 then (
  gX12_findSoon_b132)
  else (
  zb1 (zag 6 (m31.2.2 50) x5_22) fun v61 =>
  zb1 (if x3 = 0 then (
  some v43)
  else (
  some 1) : Option (Int32)) fun (s63 : Int32) =>
  some (v61 + s63))) : Option (Int32)) fun (s46 : Int32) =>
  zb1 (zag 6 (m31.2.2 50) x6_30) fun v53 =>
  zb1 (gX12_lesser v53 s46) fun v56 =>
  zb1 (zas 6 (m31.2.2 50) x6_30 v56) fun f57 =>
  zb1 (some (zsA m31 50 f57)) fun M57 =>
  F32 (x6_30 + 1) M57)
noncomputable def gX12_findSoon_l51 (x2 : Int32) (x3 : Int32) (F24 : Int32 → zMS → Option (zMS)) (x5_22 : Int32) (m23 : zMS) : Option (zMS) :=
  if (m23.1 25) ≤ x5_22 then (
  some m23)
  else (
  zb1 (zf2 (gX12_findSoon_l63 x5_22 x2 x3) zfu 0 m23 : Option (zMS)) fun (m34 : zMS) =>
  F24 (x5_22 + 1) m34)
noncomputable def gX12_findSoon_l41 (x2 : Int32) (x3 : Int32) (F18 : Int32 → zMS → Option (zMS)) (x4_16 : Int32) (m17 : zMS) : Option (zMS) :=
  if 6 ≤ x4_16 then (
  some m17)
  else (
  zb1 (zf2 (gX12_findSoon_l51 x2 x3) zfu 0 m17 : Option (zMS)) fun (m26 : zMS) =>
  F18 (x4_16 + 1) m26)
noncomputable def gX12_findSoon (M : zMS) (x1 : Int32) (x2 : Int32) (x3 : Int32) : Option (zMS) :=
  zb1 (zf2 (gX12_findSoon_l3 x1) zfu 0 M : Option (zMS)) fun (m5 : zMS) =>
  zb1 (zf2 (gX12_findSoon_l41 x2 x3) zfu 0 m5 : Option (zMS)) fun (m20 : zMS) =>
  some m20
set_option maxRecDepth 100000 in
theorem eX12_findSoon_l3 {ν : zM} {Y : Nat} {x1 : Int32} {x4_1 : Int32} {m2 : zMS}   (n : Nat) : zf2 (fX12_findSoon_l3 Y x1) n x4_1 (mdl ν Y m2) = Option.map (mdl ν Y) (zf2 (gX12_findSoon_l3 x1) n x4_1 m2) := by
  refine zf2_m (fun F3 G3 hF3 x4_1 m2 => ?_) n x4_1 m2
  simp only [fX12_findSoon_l3, gX12_findSoon_l3, zgd_t, zmap_ite, zmap_some, zmap_none, zmap_zb0, zmap_zni, zq2_k, zq3_k, zq4_k, zq5_k, zzb1_q, zzb2_q, zzb3_q, zzb4_q, zzb5_q, zmap_zb1, zmap_zb2, zmap_zb3, zmap_zb4, zmap_zb5, zmap_zb6, zmap_zc1, zmap_zc2, zmap_zc3, zmap_zc4, md_ck, md_g25, md_g50, md_a50, md_s50, eX12_apart, eX12_lesser, eX12_of, eX12_range, hF3]
set_option maxRecDepth 100000 in
theorem eX12_findSoon_b132     : fX12_findSoon_b132  = gX12_findSoon_b132  := by simp only [fX12_findSoon_b132, gX12_findSoon_b132, zgd_t, zmap_ite, zmap_some, zmap_none, zmap_zb0, zmap_zni, zq2_k, zq3_k, zq4_k, zq5_k, zzb1_q, zzb2_q, zzb3_q, zzb4_q, zzb5_q, zmap_zb1, zmap_zb2, zmap_zb3, zmap_zb4, zmap_zb5, zmap_zb6, zmap_zc1, zmap_zc2, zmap_zc3, zmap_zc4, md_ck, md_g25, md_g50, md_a50, md_s50, eX12_apart, eX12_lesser, eX12_of, eX12_range, eX12_findSoon_l3]
set_option maxRecDepth 100000 in
theorem eX12_findSoon_l63 {ν : zM} {Y : Nat} {x5_22 : Int32} {x2 : Int32} {x3 : Int32} {x6_30 : Int32} {m31 : zMS}   (n : Nat) : zf2 (fX12_findSoon_l63 Y x5_22 x2 x3) n x6_30 (mdl ν Y m31) = Option.map (mdl ν Y) (zf2 (gX12_findSoon_l63 x5_22 x2 x3) n x6_30 m31) := by
  refine zf2_m (fun F32 G32 hF32 x6_30 m31 => ?_) n x6_30 m31
  simp only [fX12_findSoon_l63, gX12_findSoon_l63, zgd_t, zmap_ite, zmap_some, zmap_none, zmap_zb0, zmap_zni, zq2_k, zq3_k, zq4_k, zq5_k, zzb1_q, zzb2_q, zzb3_q, zzb4_q, zzb5_q, zmap_zb1, zmap_zb2, zmap_zb3, zmap_zb4, zmap_zb5, zmap_zb6, zmap_zc1, zmap_zc2, zmap_zc3, zmap_zc4, md_ck, md_g25, md_g50, md_a50, md_s50, eX12_apart, eX12_lesser, eX12_of, eX12_range, eX12_findSoon_l3, eX12_findSoon_b132, hF32]
set_option maxRecDepth 100000 in
theorem eX12_findSoon_l51 {ν : zM} {Y : Nat} {x2 : Int32} {x3 : Int32} {x5_22 : Int32} {m23 : zMS}   (n : Nat) : zf2 (fX12_findSoon_l51 Y x2 x3) n x5_22 (mdl ν Y m23) = Option.map (mdl ν Y) (zf2 (gX12_findSoon_l51 x2 x3) n x5_22 m23) := by
  refine zf2_m (fun F24 G24 hF24 x5_22 m23 => ?_) n x5_22 m23
  simp only [fX12_findSoon_l51, gX12_findSoon_l51, zgd_t, zmap_ite, zmap_some, zmap_none, zmap_zb0, zmap_zni, zq2_k, zq3_k, zq4_k, zq5_k, zzb1_q, zzb2_q, zzb3_q, zzb4_q, zzb5_q, zmap_zb1, zmap_zb2, zmap_zb3, zmap_zb4, zmap_zb5, zmap_zb6, zmap_zc1, zmap_zc2, zmap_zc3, zmap_zc4, md_ck, md_g25, md_g50, md_a50, md_s50, eX12_apart, eX12_lesser, eX12_of, eX12_range, eX12_findSoon_l3, eX12_findSoon_b132, eX12_findSoon_l63, hF24]
set_option maxRecDepth 100000 in
theorem eX12_findSoon_l41 {ν : zM} {Y : Nat} {x2 : Int32} {x3 : Int32} {x4_16 : Int32} {m17 : zMS}   (n : Nat) : zf2 (fX12_findSoon_l41 Y x2 x3) n x4_16 (mdl ν Y m17) = Option.map (mdl ν Y) (zf2 (gX12_findSoon_l41 x2 x3) n x4_16 m17) := by
  refine zf2_m (fun F18 G18 hF18 x4_16 m17 => ?_) n x4_16 m17
  simp only [fX12_findSoon_l41, gX12_findSoon_l41, zgd_t, zmap_ite, zmap_some, zmap_none, zmap_zb0, zmap_zni, zq2_k, zq3_k, zq4_k, zq5_k, zzb1_q, zzb2_q, zzb3_q, zzb4_q, zzb5_q, zmap_zb1, zmap_zb2, zmap_zb3, zmap_zb4, zmap_zb5, zmap_zb6, zmap_zc1, zmap_zc2, zmap_zc3, zmap_zc4, md_ck, md_g25, md_g50, md_a50, md_s50, eX12_apart, eX12_lesser, eX12_of, eX12_range, eX12_findSoon_l3, eX12_findSoon_b132, eX12_findSoon_l63, eX12_findSoon_l51, hF18]
set_option maxRecDepth 100000 in
theorem eX12_findSoon {ν : zM} {Y : Nat} {M : zMS} {x1 : Int32} {x2 : Int32} {x3 : Int32}  : fX12_findSoon (mdl ν Y M) Y x1 x2 x3 = Option.map (mdl ν Y) (gX12_findSoon M x1 x2 x3) := by simp only [fX12_findSoon, gX12_findSoon, zgd_t, zmap_ite, zmap_some, zmap_none, zmap_zb0, zmap_zni, zq2_k, zq3_k, zq4_k, zq5_k, zzb1_q, zzb2_q, zzb3_q, zzb4_q, zzb5_q, zmap_zb1, zmap_zb2, zmap_zb3, zmap_zb4, zmap_zb5, zmap_zb6, zmap_zc1, zmap_zc2, zmap_zc3, zmap_zc4, md_ck, md_g25, md_g50, md_a50, md_s50, eX12_apart, eX12_lesser, eX12_of, eX12_range, eX12_findSoon_l3, eX12_findSoon_b132, eX12_findSoon_l63, eX12_findSoon_l51, eX12_findSoon_l41]
noncomputable def gX12_spread_l48 (M11 : zMS) (F15 : Int32 → Int32 → Int32 → Option (Int32 × Int32)) (x5_12 : Int32) (x6_13 : Int32) (x7_14 : Int32) : Option (Int32 × Int32) :=
  if (M11.1 25) ≤ x7_14 then (
  some (x5_12, x6_13))
  else (
  zb1 (zag 6 (M11.2.2 50) x7_14) fun v24 =>
  zb1 (if 1000000 ≤ v24 then (
  some 0)
  else (
  some 1) : Option (Int32)) fun (s26 : Int32) =>
  zb1 (zag 6 (M11.2.2 50) x7_14) fun v30 =>
  zb1 (if 1000000 ≤ v30 then (
  some x6_13)
  else (
  zb1 (zag 6 (M11.2.2 50) x7_14) fun v36 =>
  zb1 (gX12_greater x6_13 v36) fun v39 =>
  some v39) : Option (Int32)) fun (s32 : Int32) =>
  F15 (x5_12 + s26) s32 (x7_14 + 1))
noncomputable def gX12_spread (M : zMS) (x1 : Int32) (x2 : Int32) (x3 : Int32) (x4 : Int32) : Option (Int32 × zMS) :=
  zb1 (some (zsI M 0 0)) fun M1 =>
  zb2 (gX12_hand M1 x1) fun v5 M4 =>
  if v5 = 0 then (
  some ((-1), M4))
  else (
  zb1 (gX12_isPerson M4 x2) fun v7 =>
  if v7 = 0 then (
  some ((-1), M4))
  else (
  zb1 (gX12_in x3 0 2) fun v9 =>
  if v9 = 0 then (
  some ((-1), M4))
  else (
  zb1 (gX12_findSoon M4 x2 x3 0) fun M11 =>
  zb2 (zf3 (gX12_spread_l48 M11) zfu 0 0 0 : Option (Int32 × Int32)) fun (x5_17 : Int32) (x6_18 : Int32) =>
  zb1 (if x4 = 0 then (
  some x5_17)
  else (
  some x6_18) : Option (Int32)) fun (s41 : Int32) =>
  some (s41, M11))))
set_option maxRecDepth 100000 in
theorem eX12_spread_l48 {ν : zM} {Y : Nat} {m11 : zMS} {x5_12 : Int32} {x6_13 : Int32} {x7_14 : Int32}   (n : Nat) : zf3 (fX12_spread_l48 (mdl ν Y m11) Y) n x5_12 x6_13 x7_14 = zf3 (gX12_spread_l48 m11) n x5_12 x6_13 x7_14 := by
  refine zf3_c (fun F15 G15 hF15 x5_12 x6_13 x7_14 => ?_) n x5_12 x6_13 x7_14
  simp only [fX12_spread_l48, gX12_spread_l48, zgd_t, zmap_ite, zmap_some, zmap_none, zmap_zb0, zmap_zni, zq2_k, zq3_k, zq4_k, zq5_k, zzb1_q, zzb2_q, zzb3_q, zzb4_q, zzb5_q, zmap_zb1, zmap_zb2, zmap_zb3, zmap_zb4, zmap_zb5, zmap_zb6, zmap_zc1, zmap_zc2, zmap_zc3, zmap_zc4, md_ck, md_g25, md_g50, md_p0, md_a50, md_s50, eX12_findSoon, eX12_greater, eX12_hand, eX12_in, eX12_isPerson, hF15]
set_option maxRecDepth 100000 in
theorem eX12_spread {ν : zM} {Y : Nat} {M : zMS} {x1 : Int32} {x2 : Int32} {x3 : Int32} {x4 : Int32}  : fX12_spread (mdl ν Y M) Y x1 x2 x3 x4 = Option.map (zq2 (mdl ν Y)) (gX12_spread M x1 x2 x3 x4) := by simp only [fX12_spread, gX12_spread, zgd_t, zmap_ite, zmap_some, zmap_none, zmap_zb0, zmap_zni, zq2_k, zq3_k, zq4_k, zq5_k, zzb1_q, zzb2_q, zzb3_q, zzb4_q, zzb5_q, zmap_zb1, zmap_zb2, zmap_zb3, zmap_zb4, zmap_zb5, zmap_zb6, zmap_zc1, zmap_zc2, zmap_zc3, zmap_zc4, md_ck, md_g25, md_g50, md_p0, md_a50, md_s50, eX12_findSoon, eX12_greater, eX12_hand, eX12_in, eX12_isPerson, eX12_spread_l48]
noncomputable def gX12_areGuarded_l16 (M : zMS) (x1 : Int32) (x3_1 : Int32) (x2 : Int32) (F8 : Int32 → Int32 → Option (Int32)) (x4_6 : Int32) (x5_7 : Int32) : Option (Int32) :=
  if (M.1 25) ≤ x5_7 then (
  some x4_6)
  else (
  zb1 (if x4_6 = 0 then (
  zb1 (gX12_has x1 x5_7) fun v17 =>
  if v17 = 0 then (
  some 0)
  else (
  zb1 (gX12_of M (33 + x5_7)) fun v19 =>
  zb1 (gX12_apart x3_1 v19) fun v21 =>
  zb1 (gX12_range x2) fun v23 =>
  if v23 < v21 then (
  some 0)
  else (
  some 1)))
  else (
  some 1) : Option (Int32)) fun (s14 : Int32) =>
  F8 s14 (x5_7 + 1))
noncomputable def gX12_areGuarded_l2 (M : zMS) (x1 : Int32) (x2 : Int32) (F2 : Int32 → Option (Int32)) (x3_1 : Int32) : Option (Int32) :=
  if (M.1 24) < x3_1 then (
  some 1)
  else (
  zb1 (zf2 (gX12_areGuarded_l16 M x1 x3_1 x2) zfu 0 0 : Option (Int32)) fun (x4_10 : Int32) =>
  if x4_10 = 0 then (
  some 0)
  else (
  F2 (x3_1 + 1)))
noncomputable def gX12_areGuarded (M : zMS) (x1 : Int32) (x2 : Int32) : Option (Int32) :=
  zf1 (gX12_areGuarded_l2 M x1 x2) zfu 0
set_option maxRecDepth 100000 in
theorem eX12_areGuarded_l16 {ν : zM} {Y : Nat} {M : zMS} {x1 : Int32} {x3_1 : Int32} {x2 : Int32} {x4_6 : Int32} {x5_7 : Int32}   (n : Nat) : zf2 (fX12_areGuarded_l16 (mdl ν Y M) Y x1 x3_1 x2) n x4_6 x5_7 = zf2 (gX12_areGuarded_l16 M x1 x3_1 x2) n x4_6 x5_7 := by
  refine zf2_c (fun F8 G8 hF8 x4_6 x5_7 => ?_) n x4_6 x5_7
  simp only [fX12_areGuarded_l16, gX12_areGuarded_l16, zgd_t, zmap_ite, zmap_some, zmap_none, zmap_zb0, zmap_zni, zq2_k, zq3_k, zq4_k, zq5_k, zzb1_q, zzb2_q, zzb3_q, zzb4_q, zzb5_q, zmap_zb1, zmap_zb2, zmap_zb3, zmap_zb4, zmap_zb5, zmap_zb6, zmap_zc1, zmap_zc2, zmap_zc3, zmap_zc4, md_ck, md_g24, md_g25, eX12_apart, eX12_has, eX12_of, eX12_range, hF8]
set_option maxRecDepth 100000 in
theorem eX12_areGuarded_l2 {ν : zM} {Y : Nat} {M : zMS} {x1 : Int32} {x2 : Int32} {x3_1 : Int32}   (n : Nat) : zf1 (fX12_areGuarded_l2 (mdl ν Y M) Y x1 x2) n x3_1 = zf1 (gX12_areGuarded_l2 M x1 x2) n x3_1 := by
  refine zf1_c (fun F2 G2 hF2 x3_1 => ?_) n x3_1
  simp only [fX12_areGuarded_l2, gX12_areGuarded_l2, zgd_t, zmap_ite, zmap_some, zmap_none, zmap_zb0, zmap_zni, zq2_k, zq3_k, zq4_k, zq5_k, zzb1_q, zzb2_q, zzb3_q, zzb4_q, zzb5_q, zmap_zb1, zmap_zb2, zmap_zb3, zmap_zb4, zmap_zb5, zmap_zb6, zmap_zc1, zmap_zc2, zmap_zc3, zmap_zc4, md_ck, md_g24, md_g25, eX12_apart, eX12_has, eX12_of, eX12_range, eX12_areGuarded_l16, hF2]
set_option maxRecDepth 100000 in
theorem eX12_areGuarded {ν : zM} {Y : Nat} {M : zMS} {x1 : Int32} {x2 : Int32}  : fX12_areGuarded (mdl ν Y M) Y x1 x2 = gX12_areGuarded M x1 x2 := by simp only [fX12_areGuarded, gX12_areGuarded, zgd_t, zmap_ite, zmap_some, zmap_none, zmap_zb0, zmap_zni, zq2_k, zq3_k, zq4_k, zq5_k, zzb1_q, zzb2_q, zzb3_q, zzb4_q, zzb5_q, zmap_zb1, zmap_zb2, zmap_zb3, zmap_zb4, zmap_zb5, zmap_zb6, zmap_zc1, zmap_zc2, zmap_zc3, zmap_zc4, md_ck, md_g24, md_g25, eX12_apart, eX12_has, eX12_of, eX12_range, eX12_areGuarded_l16, eX12_areGuarded_l2]
