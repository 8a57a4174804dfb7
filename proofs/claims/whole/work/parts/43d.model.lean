def gX12_draw (M : zMS) (x1 : Int32) : Option (Int32 × zMS) :=
  zb1 (some (zsI M 49 (((M.1 49) * 1103515245) + 12345))) fun M3 =>
  zni (x1 = 0) <|
  some (((((M3.1 49) : Int32).toUInt32 >>> ((16 : Int32).toUInt32 &&& Int32.toUInt32 31)).toInt32) - ((((M3.1 49) : Int32).toUInt32 >>> ((16 : Int32).toUInt32 &&& Int32.toUInt32 31)).toInt32) / x1 * x1, M3)
set_option maxRecDepth 100000 in
theorem eX12_draw {ν : zM} {Y : Nat} {M : zMS} {x1 : Int32}  : fX12_draw (mdl ν Y M) Y x1 = Option.map (zq2 (mdl ν Y)) (gX12_draw M x1) := by simp only [fX12_draw, gX12_draw, zgd_t, zmap_ite, zmap_some, zmap_none, zmap_zb0, zmap_zni, zq2_k, zq3_k, zq4_k, zq5_k, zzb1_some, zzb2_some, zzb3_some, zzb4_some, zzb5_some, zzb6_some, zzb1_q, zzb2_q, zzb3_q, zzb4_q, zzb5_q, zmap_zb1, zmap_zb2, zmap_zb3, zmap_zb4, zmap_zb5, zmap_zb6, md_ck, md_g49, md_p49]
def gX12_drawDeed (M : zMS)  : Option (zMS) :=
  zb2 (gX12_draw M (M.1 25)) fun v5 M4 =>
  zb2 (gX12_draw M4 6) fun v8 M7 =>
  zc1 (if 2 < v8 then (
  if 5 ≤ v8 then (
  zb2 (gX12_draw M7 9) fun v13 M12 =>
  zb2 (gX12_waits M12 (1 + v13)) fun v16 M15 =>
  some M15)
  else (
  zb2 (gX12_draw M7 ((M7.1 24) + 1)) fun v21 M20 =>
  zb2 (gX12_walks M20 v5 v21) fun v24 M23 =>
  some M23))
  else (
  zb2 (gX12_draw M7 8) fun v27 M26 =>
  zb1 (gX12_says M26 v5 v27 v8) fun M29 =>
  some M29) : Option (zMS)) fun (m9 : zMS) =>
  some m9
set_option maxRecDepth 100000 in
theorem eX12_drawDeed {ν : zM} {Y : Nat} {M : zMS}   : fX12_drawDeed (mdl ν Y M) Y = Option.map (mdl ν Y) (gX12_drawDeed M ) := by simp only [fX12_drawDeed, gX12_drawDeed, zgd_t, zmap_ite, zmap_some, zmap_none, zmap_zb0, zmap_zni, zq2_k, zq3_k, zq4_k, zq5_k, zzb1_some, zzb2_some, zzb3_some, zzb4_some, zzb5_some, zzb6_some, zzc1_some, zzc2_some, zzc3_some, zzc4_some, zzc5_some, zzc6_some, zzb1_q, zzb2_q, zzb3_q, zzb4_q, zzb5_q, zzc1_q, zzc2_q, zzc3_q, zzc4_q, zzc5_q, zmap_zb1, zmap_zb2, zmap_zb3, zmap_zb4, zmap_zb5, zmap_zb6, zzc1_ite, zzc2_ite, zzc3_ite, zzc4_ite, zzc1_zb0, zzc1_zb1, zzc1_zb2, zzc1_zb3, zzc1_zb4, zzc2_zb0, zzc2_zb1, zzc2_zb2, zzc2_zb3, zzc2_zb4, zzc3_zb0, zzc3_zb1, zzc3_zb2, zzc3_zb3, zzc3_zb4, zzc4_zb0, zzc4_zb1, zzc4_zb2, zzc4_zb3, zzc4_zb4, md_ck, md_g24, md_g25, eX12_draw, eX12_says, eX12_waits, eX12_walks]
def gX12_drawn_l45 (x3 : Int32) (F16 : Int32 → zMS → Option (zMS)) (x5_14 : Int32) (m15 : zMS) : Option (zMS) :=
  if x3 ≤ x5_14 then (
  some m15)
  else (
  zb1 (gX12_drawDeed m15) fun M21 =>
  F16 (x5_14 + 1) M21)
def gX12_drawn (M : zMS) (x1 : Int32) (x2 : Int32) (x3 : Int32) (x4 : Int32) : Option (Int32 × zMS) :=
  zb1 (some (zsI M 0 0)) fun M1 =>
  zb1 (gX12_in x3 0 60) fun v4 =>
  if v4 = 0 then (
  some ((-2), M1))
  else (
  zb2 (gX12_hand M1 x1) fun v7 M6 =>
  if v7 = 0 then (
  some ((-2), M6))
  else (
  if (M6.1 25) = 0 then (
  some ((-2), M6))
  else (
  zb1 (some (zsI M6 49 x2)) fun M10 =>
  zb1 (gX12_begin M10) fun M13 =>
  zb1 (zf2 (gX12_drawn_l45 x3) zfu 0 M13 : Option (zMS)) fun (m18 : zMS) =>
  zb2 (gX12_ofState m18 x4) fun v25 M24 =>
  some (v25, M24))))
set_option maxRecDepth 100000 in
theorem eX12_drawn_l45 {ν : zM} {Y : Nat} {x3 : Int32} {x5_14 : Int32} {m15 : zMS}   (n : Nat) : zf2 (fX12_drawn_l45 x3 Y) n x5_14 (mdl ν Y m15) = Option.map (mdl ν Y) (zf2 (gX12_drawn_l45 x3) n x5_14 m15) := by
  refine zf2_m (fun F16 G16 hF16 x5_14 m15 => ?_) n x5_14 m15
  simp only [fX12_drawn_l45, gX12_drawn_l45, zgd_t, zmap_ite, zmap_some, zmap_none, zmap_zb0, zmap_zni, zq2_k, zq3_k, zq4_k, zq5_k, zzb1_some, zzb2_some, zzb3_some, zzb4_some, zzb5_some, zzb6_some, zzb1_q, zzb2_q, zzb3_q, zzb4_q, zzb5_q, zmap_zb1, zmap_zb2, zmap_zb3, zmap_zb4, zmap_zb5, zmap_zb6, md_ck, md_g25, md_p0, md_p49, eX12_begin, eX12_drawDeed, eX12_hand, eX12_in, eX12_ofState, hF16]
set_option maxRecDepth 100000 in
theorem eX12_drawn {ν : zM} {Y : Nat} {M : zMS} {x1 : Int32} {x2 : Int32} {x3 : Int32} {x4 : Int32}  : fX12_drawn (mdl ν Y M) Y x1 x2 x3 x4 = Option.map (zq2 (mdl ν Y)) (gX12_drawn M x1 x2 x3 x4) := by simp only [fX12_drawn, gX12_drawn, zgd_t, zmap_ite, zmap_some, zmap_none, zmap_zb0, zmap_zni, zq2_k, zq3_k, zq4_k, zq5_k, zzb1_some, zzb2_some, zzb3_some, zzb4_some, zzb5_some, zzb6_some, zzb1_q, zzb2_q, zzb3_q, zzb4_q, zzb5_q, zmap_zb1, zmap_zb2, zmap_zb3, zmap_zb4, zmap_zb5, zmap_zb6, md_ck, md_g25, md_p0, md_p49, eX12_begin, eX12_drawDeed, eX12_hand, eX12_in, eX12_ofState, eX12_drawn_l45]
def gX12_ringOf_l10 (x1 : Int32) (M : zMS) (F5 : Int32 → Int32 → Option (Int32 × Int32)) (x2_3 : Int32) (x3_4 : Int32) : Option (Int32 × Int32) :=
  if x2_3 = x1 then (
  some (x2_3, x3_4))
  else (
  if 8 ≤ x3_4 then (
  some (x2_3, x3_4))
  else (
  zb1 (gX12_of M (3 + x2_3)) fun v11 =>
  F5 v11 (x3_4 + 1)))
def gX12_ringOf (M : zMS) (x1 : Int32) : Option (Int32) :=
  zb1 (gX12_of M (3 + x1)) fun v2 =>
  zb2 (zf2 (gX12_ringOf_l10 x1 M) zfu v2 1 : Option (Int32 × Int32)) fun (x2_7 : Int32) (x3_8 : Int32) =>
  zb1 (if x2_7 = x1 then (
  some x3_8)
  else (
  some 0) : Option (Int32)) fun (s13 : Int32) =>
  some s13
set_option maxRecDepth 100000 in
theorem eX12_ringOf_l10 {ν : zM} {Y : Nat} {x1 : Int32} {M : zMS} {x2_3 : Int32} {x3_4 : Int32}   (n : Nat) : zf2 (fX12_ringOf_l10 x1 (mdl ν Y M) Y) n x2_3 x3_4 = zf2 (gX12_ringOf_l10 x1 M) n x2_3 x3_4 := by
  refine zf2_c (fun F5 G5 hF5 x2_3 x3_4 => ?_) n x2_3 x3_4
  simp only [fX12_ringOf_l10, gX12_ringOf_l10, zgd_t, zmap_ite, zmap_some, zmap_none, zmap_zb0, zmap_zni, zq2_k, zq3_k, zq4_k, zq5_k, zzb1_some, zzb2_some, zzb3_some, zzb4_some, zzb5_some, zzb6_some, zzb1_q, zzb2_q, zzb3_q, zzb4_q, zzb5_q, zmap_zb1, zmap_zb2, zmap_zb3, zmap_zb4, zmap_zb5, zmap_zb6, md_ck, eX12_of, hF5]
set_option maxRecDepth 100000 in
theorem eX12_ringOf {ν : zM} {Y : Nat} {M : zMS} {x1 : Int32}  : fX12_ringOf (mdl ν Y M) Y x1 = gX12_ringOf M x1 := by simp only [fX12_ringOf, gX12_ringOf, zgd_t, zmap_ite, zmap_some, zmap_none, zmap_zb0, zmap_zni, zq2_k, zq3_k, zq4_k, zq5_k, zzb1_some, zzb2_some, zzb3_some, zzb4_some, zzb5_some, zzb6_some, zzb1_q, zzb2_q, zzb3_q, zzb4_q, zzb5_q, zmap_zb1, zmap_zb2, zmap_zb3, zmap_zb4, zmap_zb5, zmap_zb6, md_ck, eX12_of, eX12_ringOf_l10]
def gX12_isFirst_l8 (x1 : Int32) (M : zMS) (F4 : Int32 → Option (Int32)) (x2_3 : Int32) : Option (Int32) :=
  if x2_3 = x1 then (
  some 1)
  else (
  if x1 ≤ x2_3 then (
  zb1 (gX12_of M (3 + x2_3)) fun v7 =>
  F4 v7)
  else (
  some 0))
def gX12_isFirst (M : zMS) (x1 : Int32) : Option (Int32) :=
  zb1 (gX12_of M (3 + x1)) fun v2 =>
  zf1 (gX12_isFirst_l8 x1 M) zfu v2
set_option maxRecDepth 100000 in
theorem eX12_isFirst_l8 {ν : zM} {Y : Nat} {x1 : Int32} {M : zMS} {x2_3 : Int32}   (n : Nat) : zf1 (fX12_isFirst_l8 x1 (mdl ν Y M) Y) n x2_3 = zf1 (gX12_isFirst_l8 x1 M) n x2_3 := by
  refine zf1_c (fun F4 G4 hF4 x2_3 => ?_) n x2_3
  simp only [fX12_isFirst_l8, gX12_isFirst_l8, zgd_t, zmap_ite, zmap_some, zmap_none, zmap_zb0, zmap_zni, zq2_k, zq3_k, zq4_k, zq5_k, zzb1_some, zzb2_some, zzb3_some, zzb4_some, zzb5_some, zzb6_some, zzb1_q, zzb2_q, zzb3_q, zzb4_q, zzb5_q, zmap_zb1, zmap_zb2, zmap_zb3, zmap_zb4, zmap_zb5, zmap_zb6, md_ck, eX12_of, hF4]
set_option maxRecDepth 100000 in
theorem eX12_isFirst {ν : zM} {Y : Nat} {M : zMS} {x1 : Int32}  : fX12_isFirst (mdl ν Y M) Y x1 = gX12_isFirst M x1 := by simp only [fX12_isFirst, gX12_isFirst, zgd_t, zmap_ite, zmap_some, zmap_none, zmap_zb0, zmap_zni, zq2_k, zq3_k, zq4_k, zq5_k, zzb1_some, zzb2_some, zzb3_some, zzb4_some, zzb5_some, zzb6_some, zzb1_q, zzb2_q, zzb3_q, zzb4_q, zzb5_q, zmap_zb1, zmap_zb2, zmap_zb3, zmap_zb4, zmap_zb5, zmap_zb6, md_ck, eX12_of, eX12_isFirst_l8]
def gX12_rings_b69  : Option (Int32) :=
  some 0
def gX12_rings_l35 (M4 : zMS) (F12 : Int32 → Int32 → Int32 → Int32 → Option (Int32 × Int32 × Int32)) (x3_8 : Int32) (x4_9 : Int32) (x5_10 : Int32) (x6_11 : Int32) : Option (Int32 × Int32 × Int32) :=
  if 8 ≤ x6_11 then (
  some (x3_8, x4_9, x5_10))
  else (
  zb1 (gX12_ringOf M4 x6_11) fun v19 =>
  zb1 (if v19 ≤ 0 then (
  gX12_rings_b69)
  else (
  zb1 (gX12_isFirst M4 x6_11) fun v28 =>
  if v28 = 0 then (
  gX12_rings_b69)
  else (
  some 1)) : Option (Int32)) fun (s20 : Int32) =>
  zb1 (gX12_greater x4_9 v19) fun v24 =>
  zb1 (if v19 ≤ 0 then (
  some 0)
  else (
  some (1 <<< (x6_11 &&& 31))) : Option (Int32)) fun (s25 : Int32) =>
  F12 (x3_8 + s20) v24 (x5_10 ||| s25) (x6_11 + 1))
def gX12_rings (M : zMS) (x1 : Int32) (x2 : Int32) : Option (Int32 × zMS) :=
  zb1 (some (zsI M 0 0)) fun M1 =>
  zb2 (gX12_hand M1 x1) fun v5 M4 =>
  if v5 = 0 then (
  some ((-1), M4))
  else (
  zb1 (gX12_in x2 0 2) fun v7 =>
  if v7 = 0 then (
  some ((-1), M4))
  else (
  zb3 (zf4 (gX12_rings_l35 M4) zfu 0 0 0 0 : Option (Int32 × Int32 × Int32)) fun (x3_14 : Int32) (x4_15 : Int32) (x5_16 : Int32) =>
  zb1 (if x2 = 0 then (
  some x3_14)
  else (
  if x2 = 1 then (
  some x4_15)
  else (
  some x5_16)) : Option (Int32)) fun (s30 : Int32) =>
  some (s30, M4)))
set_option maxRecDepth 100000 in
theorem eX12_rings_b69     : fX12_rings_b69  = gX12_rings_b69  := by simp only [fX12_rings_b69, gX12_rings_b69, zgd_t, zmap_ite, zmap_some, zmap_none, zmap_zb0, zmap_zni, zq2_k, zq3_k, zq4_k, zq5_k, zzb1_some, zzb2_some, zzb3_some, zzb4_some, zzb5_some, zzb6_some, zzb1_q, zzb2_q, zzb3_q, zzb4_q, zzb5_q, zmap_zb1, zmap_zb2, zmap_zb3, zmap_zb4, zmap_zb5, zmap_zb6, md_ck, md_p0, eX12_greater, eX12_hand, eX12_in, eX12_isFirst, eX12_ringOf]
set_option maxRecDepth 100000 in
theorem eX12_rings_l35 {ν : zM} {Y : Nat} {m4 : zMS} {x3_8 : Int32} {x4_9 : Int32} {x5_10 : Int32} {x6_11 : Int32}   (n : Nat) : zf4 (fX12_rings_l35 (mdl ν Y m4) Y) n x3_8 x4_9 x5_10 x6_11 = zf4 (gX12_rings_l35 m4) n x3_8 x4_9 x5_10 x6_11 := by
  refine zf4_c (fun F12 G12 hF12 x3_8 x4_9 x5_10 x6_11 => ?_) n x3_8 x4_9 x5_10 x6_11
  simp only [fX12_rings_l35, gX12_rings_l35, zgd_t, zmap_ite, zmap_some, zmap_none, zmap_zb0, zmap_zni, zq2_k, zq3_k, zq4_k, zq5_k, zzb1_some, zzb2_some, zzb3_some, zzb4_some, zzb5_some, zzb6_some, zzb1_q, zzb2_q, zzb3_q, zzb4_q, zzb5_q, zmap_zb1, zmap_zb2, zmap_zb3, zmap_zb4, zmap_zb5, zmap_zb6, md_ck, md_p0, eX12_greater, eX12_hand, eX12_in, eX12_isFirst, eX12_ringOf, eX12_rings_b69, hF12]
set_option maxRecDepth 100000 in
theorem eX12_rings {ν : zM} {Y : Nat} {M : zMS} {x1 : Int32} {x2 : Int32}  : fX12_rings (mdl ν Y M) Y x1 x2 = Option.map (zq2 (mdl ν Y)) (gX12_rings M x1 x2) := by simp only [fX12_rings, gX12_rings, zgd_t, zmap_ite, zmap_some, zmap_none, zmap_zb0, zmap_zni, zq2_k, zq3_k, zq4_k, zq5_k, zzb1_some, zzb2_some, zzb3_some, zzb4_some, zzb5_some, zzb6_some, zzb1_q, zzb2_q, zzb3_q, zzb4_q, zzb5_q, zmap_zb1, zmap_zb2, zmap_zb3, zmap_zb4, zmap_zb5, zmap_zb6, md_ck, md_p0, eX12_greater, eX12_hand, eX12_in, eX12_isFirst, eX12_ringOf, eX12_rings_b69, eX12_rings_l35]
def gX12_unsure_l36 (M6 : zMS) (F11 : Int32 → Int32 → Int32 → Option (Int32 × Int32)) (x4_8 : Int32) (x5_9 : Int32) (x6_10 : Int32) : Option (Int32 × Int32) :=
  if 8 ≤ x6_10 then (
  some (x4_8, x5_9))
  else (
  zb1 (gX12_of M6 (3 + x6_10)) fun v17 =>
  zb1 (if v17 = x6_10 then (
  zb1 (gX12_of M6 (19 + x6_10)) fun v23 =>
  some v23)
  else (
  some 0) : Option (Int32)) fun (s18 : Int32) =>
  zb1 (gX12_of M6 (19 + x6_10)) fun v21 =>
  F11 (x4_8 + s18) (x5_9 + v21) (x6_10 + 1))
def gX12_unsure_l107 (x4_13 : Int32) (x5_14 : Int32) (F26 : Int32 → Option (Int32)) (x6_25 : Int32) : Option (Int32) :=
  zni (x6_25 = 0) <|
  if (x4_13 - x4_13 / x6_25 * x6_25) = 0 then (
  zni (x6_25 = 0) <|
  if (x5_14 - x5_14 / x6_25 * x6_25) = 0 then (
  some x6_25)
  else (
  F26 (x6_25 + (-1))))
  else (
  F26 (x6_25 + (-1)))
def gX12_unsure_l135 (x2 : Int32) (x3 : Int32) (x4_13 : Int32) (x5_14 : Int32) (x6_28 : Int32) (F35 : Int64 → Int32 → Option (Int64)) (x7_33 : Int64) (x9_34 : Int32) : Option (Int64) :=
  if x2 ≤ x9_34 then (
  some x7_33)
  else (
  zb1 (if x3 = 0 then (
  some x4_13)
  else (
  some x5_14) : Option (Int32)) fun (s39 : Int32) =>
  zni (x6_28 = 0) <|
  F35 (x7_33 * ((s39 / x6_28 : Int32).toInt64)) (x9_34 + 1))
def gX12_unsure (M : zMS) (x1 : Int32) (x2 : Int32) (x3 : Int32) : Option (Int64 × zMS) :=
  zb1 (some (zsI M 0 0)) fun M1 =>
  zb1 (gX12_in x2 0 6) fun v4 =>
  if v4 = 0 then (
  some ((-1), M1))
  else (
  zb2 (gX12_hand M1 x1) fun v7 M6 =>
  if v7 = 0 then (
  some ((-1), M6))
  else (
  zb2 (zf3 (gX12_unsure_l36 M6) zfu 0 0 0 : Option (Int32 × Int32)) fun (x4_13 : Int32) (x5_14 : Int32) =>
  if x5_14 = 0 then (
  some ((-1), M6))
  else (
  zb1 (zf1 (gX12_unsure_l107 x4_13 x5_14) zfu x5_14 : Option (Int32)) fun (x6_28 : Int32) =>
  zb1 (zf2 (gX12_unsure_l135 x2 x3 x4_13 x5_14 x6_28) zfu 1 0 : Option (Int64)) fun (x7_37 : Int64) =>
  some (x7_37, M6))))
set_option maxRecDepth 100000 in
theorem eX12_unsure_l36 {ν : zM} {Y : Nat} {m6 : zMS} {x4_8 : Int32} {x5_9 : Int32} {x6_10 : Int32}   (n : Nat) : zf3 (fX12_unsure_l36 (mdl ν Y m6) Y) n x4_8 x5_9 x6_10 = zf3 (gX12_unsure_l36 m6) n x4_8 x5_9 x6_10 := by
  refine zf3_c (fun F11 G11 hF11 x4_8 x5_9 x6_10 => ?_) n x4_8 x5_9 x6_10
  simp only [fX12_unsure_l36, gX12_unsure_l36, zgd_t, zmap_ite, zmap_some, zmap_none, zmap_zb0, zmap_zni, zq2_k, zq3_k, zq4_k, zq5_k, zzb1_some, zzb2_some, zzb3_some, zzb4_some, zzb5_some, zzb6_some, zzb1_q, zzb2_q, zzb3_q, zzb4_q, zzb5_q, zmap_zb1, zmap_zb2, zmap_zb3, zmap_zb4, zmap_zb5, zmap_zb6, md_ck, md_p0, eX12_hand, eX12_in, eX12_of, hF11]
set_option maxRecDepth 100000 in
theorem eX12_unsure_l107  {x4_13 : Int32} {x5_14 : Int32} {x6_25 : Int32}   (n : Nat) : zf1 (fX12_unsure_l107 x4_13 x5_14) n x6_25 = zf1 (gX12_unsure_l107 x4_13 x5_14) n x6_25 := by
  refine zf1_c (fun F26 G26 hF26 x6_25 => ?_) n x6_25
  simp only [fX12_unsure_l107, gX12_unsure_l107, zgd_t, zmap_ite, zmap_some, zmap_none, zmap_zb0, zmap_zni, zq2_k, zq3_k, zq4_k, zq5_k, zzb1_some, zzb2_some, zzb3_some, zzb4_some, zzb5_some, zzb6_some, zzb1_q, zzb2_q, zzb3_q, zzb4_q, zzb5_q, zmap_zb1, zmap_zb2, zmap_zb3, zmap_zb4, zmap_zb5, zmap_zb6, md_ck, md_p0, eX12_hand, eX12_in, eX12_of, eX12_unsure_l36, hF26]
set_option maxRecDepth 100000 in
theorem eX12_unsure_l135  {x2 : Int32} {x3 : Int32} {x4_13 : Int32} {x5_14 : Int32} {x6_28 : Int32} {x7_33 : Int64} {x9_34 : Int32}   (n : Nat) : zf2 (fX12_unsure_l135 x2 x3 x4_13 x5_14 x6_28) n x7_33 x9_34 = zf2 (gX12_unsure_l135 x2 x3 x4_13 x5_14 x6_28) n x7_33 x9_34 := by
  refine zf2_c (fun F35 G35 hF35 x7_33 x9_34 => ?_) n x7_33 x9_34
  simp only [fX12_unsure_l135, gX12_unsure_l135, zgd_t, zmap_ite, zmap_some, zmap_none, zmap_zb0, zmap_zni, zq2_k, zq3_k, zq4_k, zq5_k, zzb1_some, zzb2_some, zzb3_some, zzb4_some, zzb5_some, zzb6_some, zzb1_q, zzb2_q, zzb3_q, zzb4_q, zzb5_q, zmap_zb1, zmap_zb2, zmap_zb3, zmap_zb4, zmap_zb5, zmap_zb6, md_ck, md_p0, eX12_hand, eX12_in, eX12_of, eX12_unsure_l36, eX12_unsure_l107, hF35]
set_option maxRecDepth 100000 in
theorem eX12_unsure {ν : zM} {Y : Nat} {M : zMS} {x1 : Int32} {x2 : Int32} {x3 : Int32}  : fX12_unsure (mdl ν Y M) Y x1 x2 x3 = Option.map (zq2 (mdl ν Y)) (gX12_unsure M x1 x2 x3) := by simp only [fX12_unsure, gX12_unsure, zgd_t, zmap_ite, zmap_some, zmap_none, zmap_zb0, zmap_zni, zq2_k, zq3_k, zq4_k, zq5_k, zzb1_some, zzb2_some, zzb3_some, zzb4_some, zzb5_some, zzb6_some, zzb1_q, zzb2_q, zzb3_q, zzb4_q, zzb5_q, zmap_zb1, zmap_zb2, zmap_zb3, zmap_zb4, zmap_zb5, zmap_zb6, md_ck, md_p0, eX12_hand, eX12_in, eX12_of, eX12_unsure_l36, eX12_unsure_l107, eX12_unsure_l135]
def gX12_findSoon_l3 (x1 : Int32) (F3 : Int32 → zMS → Option (zMS)) (x4_1 : Int32) (m2 : zMS) : Option (zMS) :=
  if (m2.1 25) ≤ x4_1 then (
  some m2)
  else (
  zb1 (if x4_1 = x1 then (
  some 0)
  else (
  some 1000000) : Option (Int32)) fun (s11 : Int32) =>
  zb1 (zas 6 (m2.2.2 50) x4_1 s11) fun f13 =>
  zb1 (some (zsA m2 50 f13)) fun M13 =>
  F3 (x4_1 + 1) M13)
def gX12_findSoon_b132  : Option (Int32) :=
  some 1000000
def gX12_findSoon_l63 (x5_22 : Int32) (x2 : Int32) (x3 : Int32) (F32 : Int32 → zMS → Option (zMS)) (x6_30 : Int32) (m31 : zMS) : Option (zMS) :=
  if (m31.1 25) ≤ x6_30 then (
  some m31)
  else (
  zb1 (gX12_of m31 (33 + x5_22)) fun v39 =>
  zb1 (gX12_of m31 (33 + x6_30)) fun v41 =>
  zb1 (gX12_apart v39 v41) fun v43 =>
  zb1 (gX12_range x2) fun v45 =>
  zb1 (if v45 < v43 then (
  gX12_findSoon_b132)
  else (
  if x5_22 = x6_30 then (
  gX12_findSoon_b132)
  else (
  zb1 (zag 6 (m31.2.2 50) x5_22) fun v61 =>
  zb1 (if x3 = 0 then (
  some v43)
  else (
  some 1) : Option (Int32)) fun (s63 : Int32) =>
  some (v61 + s63))) : Option (Int32)) fun (s46 : Int32) =>
  zb1 (zag 6 (m31.2.2 50) x6_30) fun v53 =>
  zb1 (gX12_lesser v53 s46) fun v56 =>
  zb1 (zas 6 (m31.2.2 50) x6_30 v56) fun f57 =>
  zb1 (some (zsA m31 50 f57)) fun M57 =>
  F32 (x6_30 + 1) M57)
def gX12_findSoon_l51 (x2 : Int32) (x3 : Int32) (F24 : Int32 → zMS → Option (zMS)) (x5_22 : Int32) (m23 : zMS) : Option (zMS) :=
  if (m23.1 25) ≤ x5_22 then (
  some m23)
  else (
  zb1 (zf2 (gX12_findSoon_l63 x5_22 x2 x3) zfu 0 m23 : Option (zMS)) fun (m34 : zMS) =>
  F24 (x5_22 + 1) m34)
def gX12_findSoon_l41 (x2 : Int32) (x3 : Int32) (F18 : Int32 → zMS → Option (zMS)) (x4_16 : Int32) (m17 : zMS) : Option (zMS) :=
  if 6 ≤ x4_16 then (
  some m17)
  else (
  zb1 (zf2 (gX12_findSoon_l51 x2 x3) zfu 0 m17 : Option (zMS)) fun (m26 : zMS) =>
  F18 (x4_16 + 1) m26)
def gX12_findSoon (M : zMS) (x1 : Int32) (x2 : Int32) (x3 : Int32) : Option (zMS) :=
  zb1 (zf2 (gX12_findSoon_l3 x1) zfu 0 M : Option (zMS)) fun (m5 : zMS) =>
  zb1 (zf2 (gX12_findSoon_l41 x2 x3) zfu 0 m5 : Option (zMS)) fun (m20 : zMS) =>
  some m20
set_option maxRecDepth 100000 in
theorem eX12_findSoon_l3 {ν : zM} {Y : Nat} {x1 : Int32} {x4_1 : Int32} {m2 : zMS}   (n : Nat) : zf2 (fX12_findSoon_l3 Y x1) n x4_1 (mdl ν Y m2) = Option.map (mdl ν Y) (zf2 (gX12_findSoon_l3 x1) n x4_1 m2) := by
  refine zf2_m (fun F3 G3 hF3 x4_1 m2 => ?_) n x4_1 m2
  simp only [fX12_findSoon_l3, gX12_findSoon_l3, zgd_t, zmap_ite, zmap_some, zmap_none, zmap_zb0, zmap_zni, zq2_k, zq3_k, zq4_k, zq5_k, zzb1_some, zzb2_some, zzb3_some, zzb4_some, zzb5_some, zzb6_some, zzb1_q, zzb2_q, zzb3_q, zzb4_q, zzb5_q, zmap_zb1, zmap_zb2, zmap_zb3, zmap_zb4, zmap_zb5, zmap_zb6, md_ck, md_g25, md_g50, md_a50, md_s50, eX12_apart, eX12_lesser, eX12_of, eX12_range, hF3]
set_option maxRecDepth 100000 in
theorem eX12_findSoon_b132     : fX12_findSoon_b132  = gX12_findSoon_b132  := by simp only [fX12_findSoon_b132, gX12_findSoon_b132, zgd_t, zmap_ite, zmap_some, zmap_none, zmap_zb0, zmap_zni, zq2_k, zq3_k, zq4_k, zq5_k, zzb1_some, zzb2_some, zzb3_some, zzb4_some, zzb5_some, zzb6_some, zzb1_q, zzb2_q, zzb3_q, zzb4_q, zzb5_q, zmap_zb1, zmap_zb2, zmap_zb3, zmap_zb4, zmap_zb5, zmap_zb6, md_ck, md_g25, md_g50, md_a50, md_s50, eX12_apart, eX12_lesser, eX12_of, eX12_range, eX12_findSoon_l3]
set_option maxRecDepth 100000 in
theorem eX12_findSoon_l63 {ν : zM} {Y : Nat} {x5_22 : Int32} {x2 : Int32} {x3 : Int32} {x6_30 : Int32} {m31 : zMS}   (n : Nat) : zf2 (fX12_findSoon_l63 Y x5_22 x2 x3) n x6_30 (mdl ν Y m31) = Option.map (mdl ν Y) (zf2 (gX12_findSoon_l63 x5_22 x2 x3) n x6_30 m31) := by
  refine zf2_m (fun F32 G32 hF32 x6_30 m31 => ?_) n x6_30 m31
  simp only [fX12_findSoon_l63, gX12_findSoon_l63, zgd_t, zmap_ite, zmap_some, zmap_none, zmap_zb0, zmap_zni, zq2_k, zq3_k, zq4_k, zq5_k, zzb1_some, zzb2_some, zzb3_some, zzb4_some, zzb5_some, zzb6_some, zzb1_q, zzb2_q, zzb3_q, zzb4_q, zzb5_q, zmap_zb1, zmap_zb2, zmap_zb3, zmap_zb4, zmap_zb5, zmap_zb6, md_ck, md_g25, md_g50, md_a50, md_s50, eX12_apart, eX12_lesser, eX12_of, eX12_range, eX12_findSoon_l3, eX12_findSoon_b132, hF32]
set_option maxRecDepth 100000 in
theorem eX12_findSoon_l51 {ν : zM} {Y : Nat} {x2 : Int32} {x3 : Int32} {x5_22 : Int32} {m23 : zMS}   (n : Nat) : zf2 (fX12_findSoon_l51 Y x2 x3) n x5_22 (mdl ν Y m23) = Option.map (mdl ν Y) (zf2 (gX12_findSoon_l51 x2 x3) n x5_22 m23) := by
  refine zf2_m (fun F24 G24 hF24 x5_22 m23 => ?_) n x5_22 m23
  simp only [fX12_findSoon_l51, gX12_findSoon_l51, zgd_t, zmap_ite, zmap_some, zmap_none, zmap_zb0, zmap_zni, zq2_k, zq3_k, zq4_k, zq5_k, zzb1_some, zzb2_some, zzb3_some, zzb4_some, zzb5_some, zzb6_some, zzb1_q, zzb2_q, zzb3_q, zzb4_q, zzb5_q, zmap_zb1, zmap_zb2, zmap_zb3, zmap_zb4, zmap_zb5, zmap_zb6, md_ck, md_g25, md_g50, md_a50, md_s50, eX12_apart, eX12_lesser, eX12_of, eX12_range, eX12_findSoon_l3, eX12_findSoon_b132, eX12_findSoon_l63, hF24]
set_option maxRecDepth 100000 in
theorem eX12_findSoon_l41 {ν : zM} {Y : Nat} {x2 : Int32} {x3 : Int32} {x4_16 : Int32} {m17 : zMS}   (n : Nat) : zf2 (fX12_findSoon_l41 Y x2 x3) n x4_16 (mdl ν Y m17) = Option.map (mdl ν Y) (zf2 (gX12_findSoon_l41 x2 x3) n x4_16 m17) := by
  refine zf2_m (fun F18 G18 hF18 x4_16 m17 => ?_) n x4_16 m17
  simp only [fX12_findSoon_l41, gX12_findSoon_l41, zgd_t, zmap_ite, zmap_some, zmap_none, zmap_zb0, zmap_zni, zq2_k, zq3_k, zq4_k, zq5_k, zzb1_some, zzb2_some, zzb3_some, zzb4_some, zzb5_some, zzb6_some, zzb1_q, zzb2_q, zzb3_q, zzb4_q, zzb5_q, zmap_zb1, zmap_zb2, zmap_zb3, zmap_zb4, zmap_zb5, zmap_zb6, md_ck, md_g25, md_g50, md_a50, md_s50, eX12_apart, eX12_lesser, eX12_of, eX12_range, eX12_findSoon_l3, eX12_findSoon_b132, eX12_findSoon_l63, eX12_findSoon_l51, hF18]
set_option maxRecDepth 100000 in
theorem eX12_findSoon {ν : zM} {Y : Nat} {M : zMS} {x1 : Int32} {x2 : Int32} {x3 : Int32}  : fX12_findSoon (mdl ν Y M) Y x1 x2 x3 = Option.map (mdl ν Y) (gX12_findSoon M x1 x2 x3) := by simp only [fX12_findSoon, gX12_findSoon, zgd_t, zmap_ite, zmap_some, zmap_none, zmap_zb0, zmap_zni, zq2_k, zq3_k, zq4_k, zq5_k, zzb1_some, zzb2_some, zzb3_some, zzb4_some, zzb5_some, zzb6_some, zzb1_q, zzb2_q, zzb3_q, zzb4_q, zzb5_q, zmap_zb1, zmap_zb2, zmap_zb3, zmap_zb4, zmap_zb5, zmap_zb6, md_ck, md_g25, md_g50, md_a50, md_s50, eX12_apart, eX12_lesser, eX12_of, eX12_range, eX12_findSoon_l3, eX12_findSoon_b132, eX12_findSoon_l63, eX12_findSoon_l51, eX12_findSoon_l41]
def gX12_spread_l48 (M11 : zMS) (F15 : Int32 → Int32 → Int32 → Option (Int32 × Int32)) (x5_12 : Int32) (x6_13 : Int32) (x7_14 : Int32) : Option (Int32 × Int32) :=
  if (M11.1 25) ≤ x7_14 then (
  some (x5_12, x6_13))
  else (
  zb1 (zag 6 (M11.2.2 50) x7_14) fun v24 =>
  zb1 (if 1000000 ≤ v24 then (
  some 0)
  else (
  some 1) : Option (Int32)) fun (s26 : Int32) =>
  zb1 (zag 6 (M11.2.2 50) x7_14) fun v30 =>
  zb1 (if 1000000 ≤ v30 then (
  some x6_13)
  else (
  zb1 (zag 6 (M11.2.2 50) x7_14) fun v36 =>
  zb1 (gX12_greater x6_13 v36) fun v39 =>
  some v39) : Option (Int32)) fun (s32 : Int32) =>
  F15 (x5_12 + s26) s32 (x7_14 + 1))
def gX12_spread (M : zMS) (x1 : Int32) (x2 : Int32) (x3 : Int32) (x4 : Int32) : Option (Int32 × zMS) :=
  zb1 (some (zsI M 0 0)) fun M1 =>
  zb2 (gX12_hand M1 x1) fun v5 M4 =>
  if v5 = 0 then (
  some ((-1), M4))
  else (
  zb1 (gX12_isPerson M4 x2) fun v7 =>
  if v7 = 0 then (
  some ((-1), M4))
  else (
  zb1 (gX12_in x3 0 2) fun v9 =>
  if v9 = 0 then (
  some ((-1), M4))
  else (
  zb1 (gX12_findSoon M4 x2 x3 0) fun M11 =>
  zb2 (zf3 (gX12_spread_l48 M11) zfu 0 0 0 : Option (Int32 × Int32)) fun (x5_17 : Int32) (x6_18 : Int32) =>
  zb1 (if x4 = 0 then (
  some x5_17)
  else (
  some x6_18) : Option (Int32)) fun (s41 : Int32) =>
  some (s41, M11))))
set_option maxRecDepth 100000 in
theorem eX12_spread_l48 {ν : zM} {Y : Nat} {m11 : zMS} {x5_12 : Int32} {x6_13 : Int32} {x7_14 : Int32}   (n : Nat) : zf3 (fX12_spread_l48 (mdl ν Y m11) Y) n x5_12 x6_13 x7_14 = zf3 (gX12_spread_l48 m11) n x5_12 x6_13 x7_14 := by
  refine zf3_c (fun F15 G15 hF15 x5_12 x6_13 x7_14 => ?_) n x5_12 x6_13 x7_14
  simp only [fX12_spread_l48, gX12_spread_l48, zgd_t, zmap_ite, zmap_some, zmap_none, zmap_zb0, zmap_zni, zq2_k, zq3_k, zq4_k, zq5_k, zzb1_some, zzb2_some, zzb3_some, zzb4_some, zzb5_some, zzb6_some, zzb1_q, zzb2_q, zzb3_q, zzb4_q, zzb5_q, zmap_zb1, zmap_zb2, zmap_zb3, zmap_zb4, zmap_zb5, zmap_zb6, md_ck, md_g25, md_g50, md_p0, md_a50, md_s50, eX12_findSoon, eX12_greater, eX12_hand, eX12_in, eX12_isPerson, hF15]
set_option maxRecDepth 100000 in
theorem eX12_spread {ν : zM} {Y : Nat} {M : zMS} {x1 : Int32} {x2 : Int32} {x3 : Int32} {x4 : Int32}  : fX12_spread (mdl ν Y M) Y x1 x2 x3 x4 = Option.map (zq2 (mdl ν Y)) (gX12_spread M x1 x2 x3 x4) := by simp only [fX12_spread, gX12_spread, zgd_t, zmap_ite, zmap_some, zmap_none, zmap_zb0, zmap_zni, zq2_k, zq3_k, zq4_k, zq5_k, zzb1_some, zzb2_some, zzb3_some, zzb4_some, zzb5_some, zzb6_some, zzb1_q, zzb2_q, zzb3_q, zzb4_q, zzb5_q, zmap_zb1, zmap_zb2, zmap_zb3, zmap_zb4, zmap_zb5, zmap_zb6, md_ck, md_g25, md_g50, md_p0, md_a50, md_s50, eX12_findSoon, eX12_greater, eX12_hand, eX12_in, eX12_isPerson, eX12_spread_l48]
def gX12_areGuarded_l16 (M : zMS) (x1 : Int32) (x3_1 : Int32) (x2 : Int32) (F8 : Int32 → Int32 → Option (Int32)) (x4_6 : Int32) (x5_7 : Int32) : Option (Int32) :=
  if (M.1 25) ≤ x5_7 then (
  some x4_6)
  else (
  zb1 (if x4_6 = 0 then (
  zb1 (gX12_has x1 x5_7) fun v17 =>
  if v17 = 0 then (
  some 0)
  else (
  zb1 (gX12_of M (33 + x5_7)) fun v19 =>
  zb1 (gX12_apart x3_1 v19) fun v21 =>
  zb1 (gX12_range x2) fun v23 =>
  if v23 < v21 then (
  some 0)
  else (
  some 1)))
  else (
  some 1) : Option (Int32)) fun (s14 : Int32) =>
  F8 s14 (x5_7 + 1))
def gX12_areGuarded_l2 (M : zMS) (x1 : Int32) (x2 : Int32) (F2 : Int32 → Option (Int32)) (x3_1 : Int32) : Option (Int32) :=
  if (M.1 24) < x3_1 then (
  some 1)
  else (
  zb1 (zf2 (gX12_areGuarded_l16 M x1 x3_1 x2) zfu 0 0 : Option (Int32)) fun (x4_10 : Int32) =>
  if x4_10 = 0 then (
  some 0)
  else (
  F2 (x3_1 + 1)))
def gX12_areGuarded (M : zMS) (x1 : Int32) (x2 : Int32) : Option (Int32) :=
  zf1 (gX12_areGuarded_l2 M x1 x2) zfu 0
set_option maxRecDepth 100000 in
theorem eX12_areGuarded_l16 {ν : zM} {Y : Nat} {M : zMS} {x1 : Int32} {x3_1 : Int32} {x2 : Int32} {x4_6 : Int32} {x5_7 : Int32}   (n : Nat) : zf2 (fX12_areGuarded_l16 (mdl ν Y M) Y x1 x3_1 x2) n x4_6 x5_7 = zf2 (gX12_areGuarded_l16 M x1 x3_1 x2) n x4_6 x5_7 := by
  refine zf2_c (fun F8 G8 hF8 x4_6 x5_7 => ?_) n x4_6 x5_7
  simp only [fX12_areGuarded_l16, gX12_areGuarded_l16, zgd_t, zmap_ite, zmap_some, zmap_none, zmap_zb0, zmap_zni, zq2_k, zq3_k, zq4_k, zq5_k, zzb1_some, zzb2_some, zzb3_some, zzb4_some, zzb5_some, zzb6_some, zzb1_q, zzb2_q, zzb3_q, zzb4_q, zzb5_q, zmap_zb1, zmap_zb2, zmap_zb3, zmap_zb4, zmap_zb5, zmap_zb6, md_ck, md_g24, md_g25, eX12_apart, eX12_has, eX12_of, eX12_range, hF8]
set_option maxRecDepth 100000 in
theorem eX12_areGuarded_l2 {ν : zM} {Y : Nat} {M : zMS} {x1 : Int32} {x2 : Int32} {x3_1 : Int32}   (n : Nat) : zf1 (fX12_areGuarded_l2 (mdl ν Y M) Y x1 x2) n x3_1 = zf1 (gX12_areGuarded_l2 M x1 x2) n x3_1 := by
  refine zf1_c (fun F2 G2 hF2 x3_1 => ?_) n x3_1
  simp only [fX12_areGuarded_l2, gX12_areGuarded_l2, zgd_t, zmap_ite, zmap_some, zmap_none, zmap_zb0, zmap_zni, zq2_k, zq3_k, zq4_k, zq5_k, zzb1_some, zzb2_some, zzb3_some, zzb4_some, zzb5_some, zzb6_some, zzb1_q, zzb2_q, zzb3_q, zzb4_q, zzb5_q, zmap_zb1, zmap_zb2, zmap_zb3, zmap_zb4, zmap_zb5, zmap_zb6, md_ck, md_g24, md_g25, eX12_apart, eX12_has, eX12_of, eX12_range, eX12_areGuarded_l16, hF2]
set_option maxRecDepth 100000 in
theorem eX12_areGuarded {ν : zM} {Y : Nat} {M : zMS} {x1 : Int32} {x2 : Int32}  : fX12_areGuarded (mdl ν Y M) Y x1 x2 = gX12_areGuarded M x1 x2 := by simp only [fX12_areGuarded, gX12_areGuarded, zgd_t, zmap_ite, zmap_some, zmap_none, zmap_zb0, zmap_zni, zq2_k, zq3_k, zq4_k, zq5_k, zzb1_some, zzb2_some, zzb3_some, zzb4_some, zzb5_some, zzb6_some, zzb1_q, zzb2_q, zzb3_q, zzb4_q, zzb5_q, zmap_zb1, zmap_zb2, zmap_zb3, zmap_zb4, zmap_zb5, zmap_zb6, md_ck, md_g24, md_g25, eX12_apart, eX12_has, eX12_of, eX12_range, eX12_areGuarded_l16, eX12_areGuarded_l2]
def gX12_ones_l4 (x0 : Int32) (F3 : Int32 → Int32 → Option (Int32)) (x1_1 : Int32) (x2_2 : Int32) : Option (Int32) :=
  if 6 ≤ x2_2 then (
  some x1_1)
  else (
  zb1 (gX12_has x0 x2_2) fun v8 =>
  zb1 (if v8 = 0 then (
  some 0)
  else (
  some 1) : Option (Int32)) fun (s9 : Int32) =>
  F3 (x1_1 + s9) (x2_2 + 1))
def gX12_ones  (x0 : Int32) : Option (Int32) :=
  zb1 (zf2 (gX12_ones_l4 x0) zfu 0 0 : Option (Int32)) fun (x1_5 : Int32) =>
  some x1_5
set_option maxRecDepth 100000 in
theorem eX12_ones_l4 {ν : zM} {Y : Nat} {M : zMS} {x0 : Int32} {x1_1 : Int32} {x2_2 : Int32}   (n : Nat) : zf2 (fX12_ones_l4 (mdl ν Y M) x0) n x1_1 x2_2 = zf2 (gX12_ones_l4 x0) n x1_1 x2_2 := by
  refine zf2_c (fun F3 G3 hF3 x1_1 x2_2 => ?_) n x1_1 x2_2
  simp only [fX12_ones_l4, gX12_ones_l4, zgd_t, zmap_ite, zmap_some, zmap_none, zmap_zb0, zmap_zni, zq2_k, zq3_k, zq4_k, zq5_k, zzb1_some, zzb2_some, zzb3_some, zzb4_some, zzb5_some, zzb6_some, zzb1_q, zzb2_q, zzb3_q, zzb4_q, zzb5_q, zmap_zb1, zmap_zb2, zmap_zb3, zmap_zb4, zmap_zb5, zmap_zb6, md_ck, eX12_has, hF3]
set_option maxRecDepth 100000 in
theorem eX12_ones {μ : zM} {x0 : Int32} : fX12_ones μ x0 = gX12_ones x0 := by simp only [fX12_ones, gX12_ones, zgd_t, zmap_ite, zmap_some, zmap_none, zmap_zb0, zmap_zni, zq2_k, zq3_k, zq4_k, zq5_k, zzb1_some, zzb2_some, zzb3_some, zzb4_some, zzb5_some, zzb6_some, zzb1_q, zzb2_q, zzb3_q, zzb4_q, zzb5_q, zmap_zb1, zmap_zb2, zmap_zb3, zmap_zb4, zmap_zb5, zmap_zb6, md_ck, eX12_has, eX12_ones_l4]
def gX12_guards_l29 (M4 : zMS) (x2 : Int32) (F10 : Int32 → Int32 → Option (Int32)) (x3_8 : Int32) (x4_9 : Int32) : Option (Int32) :=
  if (1 <<< ((M4.1 25) &&& 31)) ≤ x4_9 then (
  some x3_8)
  else (
  zb1 (gX12_areGuarded M4 x4_9 x2) fun v17 =>
  zb1 (if v17 = 0 then (
  some x3_8)
  else (
  if x3_8 = (-1) then (
  some x4_9)
  else (
  zb1 (gX12_ones x4_9) fun v21 =>
  zb1 (gX12_ones x3_8) fun v23 =>
  if v23 ≤ v21 then (
  some x3_8)
  else (
  some x4_9))) : Option (Int32)) fun (s18 : Int32) =>
  F10 s18 (x4_9 + 1))
def gX12_guards (M : zMS) (x1 : Int32) (x2 : Int32) : Option (Int32 × zMS) :=
  zb1 (some (zsI M 0 0)) fun M1 =>
  zb2 (gX12_hand M1 x1) fun v5 M4 =>
  if v5 = 0 then (
  some ((-1), M4))
  else (
  zb1 (gX12_in x2 0 2) fun v7 =>
  if v7 = 0 then (
  some ((-1), M4))
  else (
  zb1 (zf2 (gX12_guards_l29 M4 x2) zfu (-1) 0 : Option (Int32)) fun (x3_12 : Int32) =>
  some (x3_12, M4)))
set_option maxRecDepth 100000 in
theorem eX12_guards_l29 {ν : zM} {Y : Nat} {m4 : zMS} {x2 : Int32} {x3_8 : Int32} {x4_9 : Int32}   (n : Nat) : zf2 (fX12_guards_l29 (mdl ν Y m4) Y x2) n x3_8 x4_9 = zf2 (gX12_guards_l29 m4 x2) n x3_8 x4_9 := by
  refine zf2_c (fun F10 G10 hF10 x3_8 x4_9 => ?_) n x3_8 x4_9
  simp only [fX12_guards_l29, gX12_guards_l29, zgd_t, zmap_ite, zmap_some, zmap_none, zmap_zb0, zmap_zni, zq2_k, zq3_k, zq4_k, zq5_k, zzb1_some, zzb2_some, zzb3_some, zzb4_some, zzb5_some, zzb6_some, zzb1_q, zzb2_q, zzb3_q, zzb4_q, zzb5_q, zmap_zb1, zmap_zb2, zmap_zb3, zmap_zb4, zmap_zb5, zmap_zb6, md_ck, md_g25, md_p0, eX12_areGuarded, eX12_hand, eX12_in, eX12_ones, hF10]
set_option maxRecDepth 100000 in
theorem eX12_guards {ν : zM} {Y : Nat} {M : zMS} {x1 : Int32} {x2 : Int32}  : fX12_guards (mdl ν Y M) Y x1 x2 = Option.map (zq2 (mdl ν Y)) (gX12_guards M x1 x2) := by simp only [fX12_guards, gX12_guards, zgd_t, zmap_ite, zmap_some, zmap_none, zmap_zb0, zmap_zni, zq2_k, zq3_k, zq4_k, zq5_k, zzb1_some, zzb2_some, zzb3_some, zzb4_some, zzb5_some, zzb6_some, zzb1_q, zzb2_q, zzb3_q, zzb4_q, zzb5_q, zmap_zb1, zmap_zb2, zmap_zb3, zmap_zb4, zmap_zb5, zmap_zb6, md_ck, md_g25, md_p0, eX12_areGuarded, eX12_hand, eX12_in, eX12_ones, eX12_guards_l29]
def gX12_together_l4 (M : zMS) (x1 : Int32) (F3 : Int32 → Int32 → Option (Int32)) (x2_1 : Int32) (x3_2 : Int32) : Option (Int32) :=
  if (M.1 25) ≤ x3_2 then (
  some x2_1)
  else (
  zb1 (gX12_of M (33 + x3_2)) fun v10 =>
  zb1 (gX12_apart x1 v10) fun v12 =>
  F3 (x2_1 + v12) (x3_2 + 1))
def gX12_together (M : zMS) (x1 : Int32) : Option (Int32) :=
  zb1 (zf2 (gX12_together_l4 M x1) zfu 0 0 : Option (Int32)) fun (x2_5 : Int32) =>
  some x2_5
set_option maxRecDepth 100000 in
theorem eX12_together_l4 {ν : zM} {Y : Nat} {M : zMS} {x1 : Int32} {x2_1 : Int32} {x3_2 : Int32}   (n : Nat) : zf2 (fX12_together_l4 (mdl ν Y M) Y x1) n x2_1 x3_2 = zf2 (gX12_together_l4 M x1) n x2_1 x3_2 := by
  refine zf2_c (fun F3 G3 hF3 x2_1 x3_2 => ?_) n x2_1 x3_2
  simp only [fX12_together_l4, gX12_together_l4, zgd_t, zmap_ite, zmap_some, zmap_none, zmap_zb0, zmap_zni, zq2_k, zq3_k, zq4_k, zq5_k, zzb1_some, zzb2_some, zzb3_some, zzb4_some, zzb5_some, zzb6_some, zzb1_q, zzb2_q, zzb3_q, zzb4_q, zzb5_q, zmap_zb1, zmap_zb2, zmap_zb3, zmap_zb4, zmap_zb5, zmap_zb6, md_ck, md_g25, eX12_apart, eX12_of, hF3]
set_option maxRecDepth 100000 in
theorem eX12_together {ν : zM} {Y : Nat} {M : zMS} {x1 : Int32}  : fX12_together (mdl ν Y M) Y x1 = gX12_together M x1 := by simp only [fX12_together, gX12_together, zgd_t, zmap_ite, zmap_some, zmap_none, zmap_zb0, zmap_zni, zq2_k, zq3_k, zq4_k, zq5_k, zzb1_some, zzb2_some, zzb3_some, zzb4_some, zzb5_some, zzb6_some, zzb1_q, zzb2_q, zzb3_q, zzb4_q, zzb5_q, zmap_zb1, zmap_zb2, zmap_zb3, zmap_zb4, zmap_zb5, zmap_zb6, md_ck, md_g25, eX12_apart, eX12_of, eX12_together_l4]
def gX12_furthest_l4 (M : zMS) (x1 : Int32) (F3 : Int32 → Int32 → Option (Int32)) (x2_1 : Int32) (x3_2 : Int32) : Option (Int32) :=
  if (M.1 25) ≤ x3_2 then (
  some x2_1)
  else (
  zb1 (gX12_of M (33 + x3_2)) fun v10 =>
  zb1 (gX12_apart x1 v10) fun v12 =>
  zb1 (gX12_greater x2_1 v12) fun v14 =>
  F3 v14 (x3_2 + 1))
def gX12_furthest (M : zMS) (x1 : Int32) : Option (Int32) :=
  zb1 (zf2 (gX12_furthest_l4 M x1) zfu 0 0 : Option (Int32)) fun (x2_5 : Int32) =>
  some x2_5
set_option maxRecDepth 100000 in
theorem eX12_furthest_l4 {ν : zM} {Y : Nat} {M : zMS} {x1 : Int32} {x2_1 : Int32} {x3_2 : Int32}   (n : Nat) : zf2 (fX12_furthest_l4 (mdl ν Y M) Y x1) n x2_1 x3_2 = zf2 (gX12_furthest_l4 M x1) n x2_1 x3_2 := by
  refine zf2_c (fun F3 G3 hF3 x2_1 x3_2 => ?_) n x2_1 x3_2
  simp only [fX12_furthest_l4, gX12_furthest_l4, zgd_t, zmap_ite, zmap_some, zmap_none, zmap_zb0, zmap_zni, zq2_k, zq3_k, zq4_k, zq5_k, zzb1_some, zzb2_some, zzb3_some, zzb4_some, zzb5_some, zzb6_some, zzb1_q, zzb2_q, zzb3_q, zzb4_q, zzb5_q, zmap_zb1, zmap_zb2, zmap_zb3, zmap_zb4, zmap_zb5, zmap_zb6, md_ck, md_g25, eX12_apart, eX12_greater, eX12_of, hF3]
set_option maxRecDepth 100000 in
theorem eX12_furthest {ν : zM} {Y : Nat} {M : zMS} {x1 : Int32}  : fX12_furthest (mdl ν Y M) Y x1 = gX12_furthest M x1 := by simp only [fX12_furthest, gX12_furthest, zgd_t, zmap_ite, zmap_some, zmap_none, zmap_zb0, zmap_zni, zq2_k, zq3_k, zq4_k, zq5_k, zzb1_some, zzb2_some, zzb3_some, zzb4_some, zzb5_some, zzb6_some, zzb1_q, zzb2_q, zzb3_q, zzb4_q, zzb5_q, zmap_zb1, zmap_zb2, zmap_zb3, zmap_zb4, zmap_zb5, zmap_zb6, md_ck, md_g25, eX12_apart, eX12_greater, eX12_of, eX12_furthest_l4]
def gX12_middle_l32 (M4 : zMS) (F11 : Int32 → Int32 → Int32 → Option (Int32 × Int32)) (x3_8 : Int32) (x4_9 : Int32) (x5_10 : Int32) : Option (Int32 × Int32) :=
  if (M4.1 24) < x5_10 then (
  some (x3_8, x4_9))
  else (
  zb1 (gX12_together M4 x5_10) fun v19 =>
  zb1 (gX12_together M4 x3_8) fun v21 =>
  zb1 (if v21 ≤ v19 then (
  some x3_8)
  else (
  some x5_10) : Option (Int32)) fun (s22 : Int32) =>
  zb1 (gX12_furthest M4 x5_10) fun v25 =>
  zb1 (gX12_furthest M4 x4_9) fun v27 =>
  zb1 (if v27 ≤ v25 then (
  some x4_9)
  else (
  some x5_10) : Option (Int32)) fun (s28 : Int32) =>
  F11 s22 s28 (x5_10 + 1))
def gX12_middle (M : zMS) (x1 : Int32) (x2 : Int32) : Option (Int32 × zMS) :=
  zb1 (some (zsI M 0 0)) fun M1 =>
  zb2 (gX12_hand M1 x1) fun v5 M4 =>
  if v5 = 0 then (
  some ((-1), M4))
  else (
  zb1 (gX12_in x2 0 3) fun v7 =>
  if v7 = 0 then (
  some ((-1), M4))
  else (
  zb2 (zf3 (gX12_middle_l32 M4) zfu 0 0 1 : Option (Int32 × Int32)) fun (x3_13 : Int32) (x4_14 : Int32) =>
  zb1 (if x2 = 0 then (
  some x3_13)
  else (
  if x2 = 1 then (
  zb1 (gX12_together M4 x3_13) fun v36 =>
  some v36)
  else (
  if x2 = 2 then (
  some x4_14)
  else (
  zb1 (gX12_furthest M4 x4_14) fun v34 =>
  some v34))) : Option (Int32)) fun (s31 : Int32) =>
  some (s31, M4)))
set_option maxRecDepth 100000 in
theorem eX12_middle_l32 {ν : zM} {Y : Nat} {m4 : zMS} {x3_8 : Int32} {x4_9 : Int32} {x5_10 : Int32}   (n : Nat) : zf3 (fX12_middle_l32 (mdl ν Y m4) Y) n x3_8 x4_9 x5_10 = zf3 (gX12_middle_l32 m4) n x3_8 x4_9 x5_10 := by
  refine zf3_c (fun F11 G11 hF11 x3_8 x4_9 x5_10 => ?_) n x3_8 x4_9 x5_10
  simp only [fX12_middle_l32, gX12_middle_l32, zgd_t, zmap_ite, zmap_some, zmap_none, zmap_zb0, zmap_zni, zq2_k, zq3_k, zq4_k, zq5_k, zzb1_some, zzb2_some, zzb3_some, zzb4_some, zzb5_some, zzb6_some, zzb1_q, zzb2_q, zzb3_q, zzb4_q, zzb5_q, zmap_zb1, zmap_zb2, zmap_zb3, zmap_zb4, zmap_zb5, zmap_zb6, md_ck, md_g24, md_p0, eX12_furthest, eX12_hand, eX12_in, eX12_together, hF11]
set_option maxRecDepth 100000 in
theorem eX12_middle {ν : zM} {Y : Nat} {M : zMS} {x1 : Int32} {x2 : Int32}  : fX12_middle (mdl ν Y M) Y x1 x2 = Option.map (zq2 (mdl ν Y)) (gX12_middle M x1 x2) := by simp only [fX12_middle, gX12_middle, zgd_t, zmap_ite, zmap_some, zmap_none, zmap_zb0, zmap_zni, zq2_k, zq3_k, zq4_k, zq5_k, zzb1_some, zzb2_some, zzb3_some, zzb4_some, zzb5_some, zzb6_some, zzb1_q, zzb2_q, zzb3_q, zzb4_q, zzb5_q, zmap_zb1, zmap_zb2, zmap_zb3, zmap_zb4, zmap_zb5, zmap_zb6, md_ck, md_g24, md_p0, eX12_furthest, eX12_hand, eX12_in, eX12_together, eX12_middle_l32]
def gX12_auction_l30 (M4 : zMS) (F10 : Int32 → Int32 → Option (Int32)) (x4_8 : Int32) (x5_9 : Int32) : Option (Int32) :=
  if (M4.1 25) ≤ x5_9 then (
  some x4_8)
  else (
  zb1 (gX12_isKind M4 x5_9 1) fun v17 =>
  zb1 (if v17 = 0 then (
  some x4_8)
  else (
  if x4_8 = (-1) then (
  some x5_9)
  else (
  zb1 (gX12_of M4 (39 + x5_9)) fun v21 =>
  zb1 (gX12_of M4 (39 + x4_8)) fun v23 =>
  if v21 ≤ v23 then (
  some x4_8)
  else (
  some x5_9))) : Option (Int32)) fun (s18 : Int32) =>
  F10 s18 (x5_9 + 1))
def gX12_auction_l132 (M4 : zMS) (x4_12 : Int32) (F33 : Int32 → Int32 → Option (Int32)) (x5_31 : Int32) (x6_32 : Int32) : Option (Int32) :=
  if (M4.1 25) ≤ x6_32 then (
  some x5_31)
  else (
  zb1 (gX12_isKind M4 x6_32 1) fun v40 =>
  zb1 (if v40 = 0 then (
  some x5_31)
  else (
  if x6_32 = x4_12 then (
  some x5_31)
  else (
  zb1 (gX12_of M4 (39 + x6_32)) fun v44 =>
  zb1 (gX12_greater x5_31 v44) fun v46 =>
  some v46)) : Option (Int32)) fun (s41 : Int32) =>
  F33 s41 (x6_32 + 1))
def gX12_auction (M : zMS) (x1 : Int32) (x2 : Int32) (x3 : Int32) : Option (Int32 × zMS) :=
  zb1 (some (zsI M 0 0)) fun M1 =>
  zb2 (gX12_hand M1 x1) fun v5 M4 =>
  if v5 = 0 then (
  some ((-1), M4))
  else (
  zb1 (gX12_isKind M4 x2 0) fun v7 =>
  if v7 = 0 then (
  some ((-1), M4))
  else (
  zb1 (zf2 (gX12_auction_l30 M4) zfu (-1) 0 : Option (Int32)) fun (x4_12 : Int32) =>
  if x4_12 = (-1) then (
  some ((-1), M4))
  else (
  zb1 (gX12_of M4 (39 + x4_12)) fun v26 =>
  zb1 (gX12_of M4 (39 + x2)) fun v28 =>
  if v28 ≤ v26 then (
  zb1 (gX12_of M4 (39 + x2)) fun v30 =>
  zb1 (zf2 (gX12_auction_l132 M4 x4_12) zfu v30 0 : Option (Int32)) fun (x5_35 : Int32) =>
  zb1 (if x3 = 0 then (
  some x4_12)
  else (
  some x5_35) : Option (Int32)) fun (s48 : Int32) =>
  some (s48, M4))
  else (
  some ((-1), M4)))))
set_option maxRecDepth 100000 in
theorem eX12_auction_l30 {ν : zM} {Y : Nat} {m4 : zMS} {x4_8 : Int32} {x5_9 : Int32}   (n : Nat) : zf2 (fX12_auction_l30 (mdl ν Y m4) Y) n x4_8 x5_9 = zf2 (gX12_auction_l30 m4) n x4_8 x5_9 := by
  refine zf2_c (fun F10 G10 hF10 x4_8 x5_9 => ?_) n x4_8 x5_9
  simp only [fX12_auction_l30, gX12_auction_l30, zgd_t, zmap_ite, zmap_some, zmap_none, zmap_zb0, zmap_zni, zq2_k, zq3_k, zq4_k, zq5_k, zzb1_some, zzb2_some, zzb3_some, zzb4_some, zzb5_some, zzb6_some, zzb1_q, zzb2_q, zzb3_q, zzb4_q, zzb5_q, zmap_zb1, zmap_zb2, zmap_zb3, zmap_zb4, zmap_zb5, zmap_zb6, md_ck, md_g25, md_p0, eX12_greater, eX12_hand, eX12_isKind, eX12_of, hF10]
set_option maxRecDepth 100000 in
theorem eX12_auction_l132 {ν : zM} {Y : Nat} {m4 : zMS} {x4_12 : Int32} {x5_31 : Int32} {x6_32 : Int32}   (n : Nat) : zf2 (fX12_auction_l132 (mdl ν Y m4) Y x4_12) n x5_31 x6_32 = zf2 (gX12_auction_l132 m4 x4_12) n x5_31 x6_32 := by
  refine zf2_c (fun F33 G33 hF33 x5_31 x6_32 => ?_) n x5_31 x6_32
  simp only [fX12_auction_l132, gX12_auction_l132, zgd_t, zmap_ite, zmap_some, zmap_none, zmap_zb0, zmap_zni, zq2_k, zq3_k, zq4_k, zq5_k, zzb1_some, zzb2_some, zzb3_some, zzb4_some, zzb5_some, zzb6_some, zzb1_q, zzb2_q, zzb3_q, zzb4_q, zzb5_q, zmap_zb1, zmap_zb2, zmap_zb3, zmap_zb4, zmap_zb5, zmap_zb6, md_ck, md_g25, md_p0, eX12_greater, eX12_hand, eX12_isKind, eX12_of, eX12_auction_l30, hF33]
set_option maxRecDepth 100000 in
theorem eX12_auction {ν : zM} {Y : Nat} {M : zMS} {x1 : Int32} {x2 : Int32} {x3 : Int32}  : fX12_auction (mdl ν Y M) Y x1 x2 x3 = Option.map (zq2 (mdl ν Y)) (gX12_auction M x1 x2 x3) := by simp only [fX12_auction, gX12_auction, zgd_t, zmap_ite, zmap_some, zmap_none, zmap_zb0, zmap_zni, zq2_k, zq3_k, zq4_k, zq5_k, zzb1_some, zzb2_some, zzb3_some, zzb4_some, zzb5_some, zzb6_some, zzb1_q, zzb2_q, zzb3_q, zzb4_q, zzb5_q, zmap_zb1, zmap_zb2, zmap_zb3, zmap_zb4, zmap_zb5, zmap_zb6, md_ck, md_g25, md_p0, eX12_greater, eX12_hand, eX12_isKind, eX12_of, eX12_auction_l30, eX12_auction_l132]
def gX12_relayed (M : zMS) (x1 : Int32) (x2 : Int32) (x3 : Int32) (x4 : Int32) : Option (Int32 × zMS) :=
  zb1 (some (zsI M 0 0)) fun M1 =>
  zb2 (gX12_hand M1 x1) fun v5 M4 =>
  if v5 = 0 then (
  some ((-1), M4))
  else (
  zb1 (gX12_isPerson M4 x2) fun v7 =>
  if v7 = 0 then (
  some ((-1), M4))
  else (
  zb1 (gX12_isPerson M4 x3) fun v9 =>
  if v9 = 0 then (
  some ((-1), M4))
  else (
  zb1 (gX12_in x4 0 2) fun v11 =>
  if v11 = 0 then (
  some ((-1), M4))
  else (
  zb1 (gX12_findSoon M4 x2 x4 1) fun M13 =>
  zb1 (zag 6 (M13.2.2 50) x3) fun v16 =>
  zb1 (if v16 < 1000000 then (
  zb1 (zag 6 (M13.2.2 50) x3) fun v22 =>
  some v22)
  else (
  some (-1)) : Option (Int32)) fun (s18 : Int32) =>
  some (s18, M13)))))
set_option maxRecDepth 100000 in
theorem eX12_relayed {ν : zM} {Y : Nat} {M : zMS} {x1 : Int32} {x2 : Int32} {x3 : Int32} {x4 : Int32}  : fX12_relayed (mdl ν Y M) Y x1 x2 x3 x4 = Option.map (zq2 (mdl ν Y)) (gX12_relayed M x1 x2 x3 x4) := by simp only [fX12_relayed, gX12_relayed, zgd_t, zmap_ite, zmap_some, zmap_none, zmap_zb0, zmap_zni, zq2_k, zq3_k, zq4_k, zq5_k, zzb1_some, zzb2_some, zzb3_some, zzb4_some, zzb5_some, zzb6_some, zzb1_q, zzb2_q, zzb3_q, zzb4_q, zzb5_q, zmap_zb1, zmap_zb2, zmap_zb3, zmap_zb4, zmap_zb5, zmap_zb6, md_ck, md_g50, md_p0, md_a50, md_s50, eX12_findSoon, eX12_hand, eX12_in, eX12_isPerson]
def gX12_weather_b95  : Option (Int32) :=
  some 0
def gX12_weather_l68 (M6 : zMS) (F11 : Int32 → Int32 → Int32 → Option (Int32)) (x3_8 : Int32) (x4_9 : Int32) (x5_10 : Int32) : Option (Int32) :=
  if 99 < x5_10 then (
  some x3_8)
  else (
  zb1 (gX12_isSky M6 0 x5_10) fun v16 =>
  zb1 (if v16 = 0 then (
  zb1 (gX12_isSky M6 1 x5_10) fun v23 =>
  if v23 = 0 then (
  some (x4_9 + 1))
  else (
  gX12_weather_b95))
  else (
  gX12_weather_b95) : Option (Int32)) fun (s17 : Int32) =>
  zb1 (gX12_greater x3_8 s17) fun v21 =>
  F11 v21 s17 (x5_10 + 1))
def gX12_weather (M : zMS) (x1 : Int32) (x2 : Int32) : Option (Int32 × zMS) :=
  zb1 (some (zsI M 0 0)) fun M1 =>
  zb1 (gX12_in x2 (-1) 99) fun v4 =>
  if v4 = 0 then (
  some ((-1), M1))
  else (
  zb2 (gX12_hand M1 x1) fun v7 M6 =>
  if v7 = 0 then (
  some ((-1), M6))
  else (
  if x2 = (-1) then (
  zb1 (zf3 (gX12_weather_l68 M6) zfu 0 0 0 : Option (Int32)) fun (x3_13 : Int32) =>
  some (x3_13, M6))
  else (
  zb1 (gX12_isSky M6 0 x2) fun v26 =>
  zb1 (if v26 = 0 then (
  some 0)
  else (
  some 1) : Option (Int32)) fun (s27 : Int32) =>
  zb1 (gX12_isSky M6 1 x2) fun v30 =>
  zb1 (if v30 = 0 then (
  some 0)
  else (
  some 2) : Option (Int32)) fun (s31 : Int32) =>
  some (s27 + s31, M6))))
set_option maxRecDepth 100000 in
theorem eX12_weather_b95     : fX12_weather_b95  = gX12_weather_b95  := by simp only [fX12_weather_b95, gX12_weather_b95, zgd_t, zmap_ite, zmap_some, zmap_none, zmap_zb0, zmap_zni, zq2_k, zq3_k, zq4_k, zq5_k, zzb1_some, zzb2_some, zzb3_some, zzb4_some, zzb5_some, zzb6_some, zzb1_q, zzb2_q, zzb3_q, zzb4_q, zzb5_q, zmap_zb1, zmap_zb2, zmap_zb3, zmap_zb4, zmap_zb5, zmap_zb6, md_ck, md_p0, eX12_greater, eX12_hand, eX12_in, eX12_isSky]
set_option maxRecDepth 100000 in
theorem eX12_weather_l68 {ν : zM} {Y : Nat} {m6 : zMS} {x3_8 : Int32} {x4_9 : Int32} {x5_10 : Int32}   (n : Nat) : zf3 (fX12_weather_l68 (mdl ν Y m6) Y) n x3_8 x4_9 x5_10 = zf3 (gX12_weather_l68 m6) n x3_8 x4_9 x5_10 := by
  refine zf3_c (fun F11 G11 hF11 x3_8 x4_9 x5_10 => ?_) n x3_8 x4_9 x5_10
  simp only [fX12_weather_l68, gX12_weather_l68, zgd_t, zmap_ite, zmap_some, zmap_none, zmap_zb0, zmap_zni, zq2_k, zq3_k, zq4_k, zq5_k, zzb1_some, zzb2_some, zzb3_some, zzb4_some, zzb5_some, zzb6_some, zzb1_q, zzb2_q, zzb3_q, zzb4_q, zzb5_q, zmap_zb1, zmap_zb2, zmap_zb3, zmap_zb4, zmap_zb5, zmap_zb6, md_ck, md_p0, eX12_greater, eX12_hand, eX12_in, eX12_isSky, eX12_weather_b95, hF11]
set_option maxRecDepth 100000 in
theorem eX12_weather {ν : zM} {Y : Nat} {M : zMS} {x1 : Int32} {x2 : Int32}  : fX12_weather (mdl ν Y M) Y x1 x2 = Option.map (zq2 (mdl ν Y)) (gX12_weather M x1 x2) := by simp only [fX12_weather, gX12_weather, zgd_t, zmap_ite, zmap_some, zmap_none, zmap_zb0, zmap_zni, zq2_k, zq3_k, zq4_k, zq5_k, zzb1_some, zzb2_some, zzb3_some, zzb4_some, zzb5_some, zzb6_some, zzb1_q, zzb2_q, zzb3_q, zzb4_q, zzb5_q, zmap_zb1, zmap_zb2, zmap_zb3, zmap_zb4, zmap_zb5, zmap_zb6, md_ck, md_p0, eX12_greater, eX12_hand, eX12_in, eX12_isSky, eX12_weather_b95, eX12_weather_l68]
def gX12_isNearer (M : zMS) (x1 : Int32) (x2 : Int32) (x3 : Int32) : Option (Int32) :=
  zb1 (gX12_of M (33 + x1)) fun v2 =>
  zb1 (gX12_of M (33 + x2)) fun v4 =>
  zb1 (gX12_apart v2 v4) fun v6 =>
  zb1 (if x3 = (-1) then (
  some 1000000)
  else (
  zb1 (gX12_of M (33 + x1)) fun v14 =>
  zb1 (gX12_of M (33 + x3)) fun v16 =>
  zb1 (gX12_apart v14 v16) fun v18 =>
  some v18) : Option (Int32)) fun (s7 : Int32) =>
  zb1 (if v6 < s7 then (
  some 1)
  else (
  if v6 = s7 then (
  if x3 ≤ x2 then (
  some 0)
  else (
  some 1))
  else (
  some 0)) : Option (Int32)) fun (s9 : Int32) =>
  zb1 (zbz s9) fun v11 =>
  some v11
set_option maxRecDepth 100000 in
theorem eX12_isNearer {ν : zM} {Y : Nat} {M : zMS} {x1 : Int32} {x2 : Int32} {x3 : Int32}  : fX12_isNearer (mdl ν Y M) Y x1 x2 x3 = gX12_isNearer M x1 x2 x3 := by simp only [fX12_isNearer, gX12_isNearer, zgd_t, zmap_ite, zmap_some, zmap_none, zmap_zb0, zmap_zni, zq2_k, zq3_k, zq4_k, zq5_k, zzb1_some, zzb2_some, zzb3_some, zzb4_some, zzb5_some, zzb6_some, zzb1_q, zzb2_q, zzb3_q, zzb4_q, zzb5_q, zmap_zb1, zmap_zb2, zmap_zb3, zmap_zb4, zmap_zb5, zmap_zb6, md_ck, eX12_apart, eX12_of]
def gX12_nextFor_l4 (M : zMS) (x1 : Int32) (F3 : Int32 → Int32 → Option (Int32)) (x2_1 : Int32) (x3_2 : Int32) : Option (Int32) :=
  if (M.1 25) ≤ x3_2 then (
  some x2_1)
  else (
  zb1 (gX12_isKind M x3_2 1) fun v10 =>
  zb1 (if v10 = 0 then (
  some x2_1)
  else (
  zb1 (zag 6 (M.2.2 52) x1) fun v15 =>
  zb1 (gX12_has v15 x3_2) fun v18 =>
  if v18 = 0 then (
  zb1 (gX12_isNearer M x1 x3_2 x2_1) fun v20 =>
  if v20 = 0 then (
  some x2_1)
  else (
  some x3_2))
  else (
  some x2_1)) : Option (Int32)) fun (s11 : Int32) =>
  F3 s11 (x3_2 + 1))
def gX12_nextFor (M : zMS) (x1 : Int32) : Option (Int32) :=
  zb1 (zf2 (gX12_nextFor_l4 M x1) zfu (-1) 0 : Option (Int32)) fun (x2_5 : Int32) =>
  some x2_5
set_option maxRecDepth 100000 in
theorem eX12_nextFor_l4 {ν : zM} {Y : Nat} {M : zMS} {x1 : Int32} {x2_1 : Int32} {x3_2 : Int32}   (n : Nat) : zf2 (fX12_nextFor_l4 (mdl ν Y M) Y x1) n x2_1 x3_2 = zf2 (gX12_nextFor_l4 M x1) n x2_1 x3_2 := by
  refine zf2_c (fun F3 G3 hF3 x2_1 x3_2 => ?_) n x2_1 x3_2
  simp only [fX12_nextFor_l4, gX12_nextFor_l4, zgd_t, zmap_ite, zmap_some, zmap_none, zmap_zb0, zmap_zni, zq2_k, zq3_k, zq4_k, zq5_k, zzb1_some, zzb2_some, zzb3_some, zzb4_some, zzb5_some, zzb6_some, zzb1_q, zzb2_q, zzb3_q, zzb4_q, zzb5_q, zmap_zb1, zmap_zb2, zmap_zb3, zmap_zb4, zmap_zb5, zmap_zb6, md_ck, md_g25, md_g52, md_a52, md_s52, eX12_has, eX12_isKind, eX12_isNearer, hF3]
set_option maxRecDepth 100000 in
theorem eX12_nextFor {ν : zM} {Y : Nat} {M : zMS} {x1 : Int32}  : fX12_nextFor (mdl ν Y M) Y x1 = gX12_nextFor M x1 := by simp only [fX12_nextFor, gX12_nextFor, zgd_t, zmap_ite, zmap_some, zmap_none, zmap_zb0, zmap_zni, zq2_k, zq3_k, zq4_k, zq5_k, zzb1_some, zzb2_some, zzb3_some, zzb4_some, zzb5_some, zzb6_some, zzb1_q, zzb2_q, zzb3_q, zzb4_q, zzb5_q, zmap_zb1, zmap_zb2, zmap_zb3, zmap_zb4, zmap_zb5, zmap_zb6, md_ck, md_g25, md_g52, md_a52, md_s52, eX12_has, eX12_isKind, eX12_isNearer, eX12_nextFor_l4]
def gX12_asksOn_b64 (M11 : zMS) (s5 : Int32) (x1 : Int32) : Option (zMS) :=
  zb1 (zag 6 (M11.2.2 51) s5) fun v21 =>
  zc1 (if v21 = (-1) then (
  some M11)
  else (
  zb1 (zag 6 (M11.2.2 51) s5) fun v37 =>
  zb1 (zas 6 (M11.2.2 51) v37 (-1)) fun f39 =>
  zb1 (some (zsA M11 51 f39)) fun M39 =>
  some M39) : Option (zMS)) fun (m23 : zMS) =>
  zb1 (zas 6 (m23.2.2 51) s5 x1) fun f27 =>
  zb1 (some (zsA m23 51 f27)) fun M27 =>
  zb1 (zas 6 (M27.2.2 51) x1 s5) fun f31 =>
  zb1 (some (zsA M27 51 f31)) fun M31 =>
  some M31
def gX12_asksOn (M : zMS) (x1 : Int32) : Option (Int32 × zMS) :=
  zb1 (zag 6 (M.2.2 51) x1) fun v3 =>
  zb1 (if v3 = (-1) then (
  zb1 (gX12_nextFor M x1) fun v49 =>
  some v49)
  else (
  some (-1)) : Option (Int32)) fun (s5 : Int32) =>
  if s5 = (-1) then (
  some (0, M))
  else (
  zb1 (zag 6 (M.2.2 52) x1) fun v9 =>
  zb1 (zas 6 (M.2.2 52) x1 (v9 ||| (1 <<< (s5 &&& 31)))) fun f11 =>
  zb1 (some (zsA M 52 f11)) fun M11 =>
  zb1 (zag 6 (M11.2.2 51) s5) fun v15 =>
  zc1 (if v15 = (-1) then (
  gX12_asksOn_b64 M11 s5 x1)
  else (
  zb1 (zag 6 (M11.2.2 51) s5) fun v44 =>
  zb1 (gX12_isNearer M11 s5 x1 v44) fun v47 =>
  if v47 = 0 then (
  some M11)
  else (
  gX12_asksOn_b64 M11 s5 x1)) : Option (zMS)) fun (m17 : zMS) =>
  some (1, m17))
set_option maxRecDepth 100000 in
theorem eX12_asksOn_b64 {ν : zM} {Y : Nat} {m11 : zMS} {s5 : Int32} {x1 : Int32}   : fX12_asksOn_b64 (mdl ν Y m11) Y s5 x1  = Option.map (mdl ν Y) (gX12_asksOn_b64 m11 s5 x1 ) := by simp only [fX12_asksOn_b64, gX12_asksOn_b64, zgd_t, zmap_ite, zmap_some, zmap_none, zmap_zb0, zmap_zni, zq2_k, zq3_k, zq4_k, zq5_k, zzb1_some, zzb2_some, zzb3_some, zzb4_some, zzb5_some, zzb6_some, zzc1_some, zzc2_some, zzc3_some, zzc4_some, zzc5_some, zzc6_some, zzb1_q, zzb2_q, zzb3_q, zzb4_q, zzb5_q, zzc1_q, zzc2_q, zzc3_q, zzc4_q, zzc5_q, zmap_zb1, zmap_zb2, zmap_zb3, zmap_zb4, zmap_zb5, zmap_zb6, zzc1_ite, zzc2_ite, zzc3_ite, zzc4_ite, zzc1_zb0, zzc1_zb1, zzc1_zb2, zzc1_zb3, zzc1_zb4, zzc2_zb0, zzc2_zb1, zzc2_zb2, zzc2_zb3, zzc2_zb4, zzc3_zb0, zzc3_zb1, zzc3_zb2, zzc3_zb3, zzc3_zb4, zzc4_zb0, zzc4_zb1, zzc4_zb2, zzc4_zb3, zzc4_zb4, md_ck, md_g51, md_g52, md_a51, md_s51, md_a52, md_s52, eX12_isNearer, eX12_nextFor]
set_option maxRecDepth 100000 in
theorem eX12_asksOn {ν : zM} {Y : Nat} {M : zMS} {x1 : Int32}  : fX12_asksOn (mdl ν Y M) Y x1 = Option.map (zq2 (mdl ν Y)) (gX12_asksOn M x1) := by simp only [fX12_asksOn, gX12_asksOn, zgd_t, zmap_ite, zmap_some, zmap_none, zmap_zb0, zmap_zni, zq2_k, zq3_k, zq4_k, zq5_k, zzb1_some, zzb2_some, zzb3_some, zzb4_some, zzb5_some, zzb6_some, zzc1_some, zzc2_some, zzc3_some, zzc4_some, zzc5_some, zzc6_some, zzb1_q, zzb2_q, zzb3_q, zzb4_q, zzb5_q, zzc1_q, zzc2_q, zzc3_q, zzc4_q, zzc5_q, zmap_zb1, zmap_zb2, zmap_zb3, zmap_zb4, zmap_zb5, zmap_zb6, zzc1_ite, zzc2_ite, zzc3_ite, zzc4_ite, zzc1_zb0, zzc1_zb1, zzc1_zb2, zzc1_zb3, zzc1_zb4, zzc2_zb0, zzc2_zb1, zzc2_zb2, zzc2_zb3, zzc2_zb4, zzc3_zb0, zzc3_zb1, zzc3_zb2, zzc3_zb3, zzc3_zb4, zzc4_zb0, zzc4_zb1, zzc4_zb2, zzc4_zb3, zzc4_zb4, md_ck, md_g51, md_g52, md_a51, md_s51, md_a52, md_s52, eX12_isNearer, eX12_nextFor, eX12_asksOn_b64]
def gX12_matched_l25  (F10 : Int32 → zMS → Option (zMS)) (x3_8 : Int32) (m9 : zMS) : Option (zMS) :=
  if 6 ≤ x3_8 then (
  some m9)
  else (
  zb1 (zas 6 (m9.2.2 51) x3_8 (-1)) fun f16 =>
  zb1 (some (zsA m9 51 f16)) fun M16 =>
  zb1 (zas 6 (M16.2.2 52) x3_8 0) fun f20 =>
  zb1 (some (zsA M16 52 f20)) fun M20 =>
  F10 (x3_8 + 1) M20)
def gX12_matched_b94 (m44 : zMS) : Option (Int32 × zMS) :=
  some (0, m44)
def gX12_matched_l62  (F32 : Int32 → Int32 → zMS → Option (Int32 × zMS)) (x3_29 : Int32) (x4_30 : Int32) (m31 : zMS) : Option (Int32 × zMS) :=
  if (m31.1 25) ≤ x4_30 then (
  some (x3_29, m31))
  else (
  zb1 (gX12_isKind m31 x4_30 0) fun v40 =>
  zc2 (if v40 = 0 then (
  gX12_matched_b94 m31)
  else (
  zb2 (gX12_asksOn m31 x4_30) fun v50 M49 =>
  if v50 = 0 then (
  gX12_matched_b94 M49)
  else (
  some (1, M49))) : Option (Int32 × zMS)) fun (s41 : Int32) (m42 : zMS) =>
  zb1 (if x3_29 = 0 then (
  if s41 = 0 then (
  some 0)
  else (
  some 1))
  else (
  some 1) : Option (Int32)) fun (s46 : Int32) =>
  F32 s46 (x4_30 + 1) m42)
def gX12_matched_l53  (F25 : Int32 → zMS → Option (zMS)) (x3_23 : Int32) (m24 : zMS) : Option (zMS) :=
  if x3_23 = 0 then (
  some m24)
  else (
  zb2 (zf3 gX12_matched_l62 zfu 0 0 m24 : Option (Int32 × zMS)) fun (x3_34 : Int32) (m35 : zMS) =>
  F25 x3_34 m35)
def gX12_matched (M : zMS) (x1 : Int32) (x2 : Int32) : Option (Int32 × zMS) :=
  zb1 (some (zsI M 0 0)) fun M1 =>
  zb2 (gX12_hand M1 x1) fun v5 M4 =>
  if v5 = 0 then (
  some ((-1), M4))
  else (
  zb1 (gX12_isPerson M4 x2) fun v7 =>
  if v7 = 0 then (
  some ((-1), M4))
  else (
  zb1 (zf2 gX12_matched_l25 zfu 0 M4 : Option (zMS)) fun (m12 : zMS) =>
  zb1 (zf2 gX12_matched_l53 zfu 1 m12 : Option (zMS)) fun (m27 : zMS) =>
  zb1 (zag 6 (m27.2.2 51) x2) fun v55 =>
  some (v55, m27)))
set_option maxRecDepth 100000 in
theorem eX12_matched_l25 {ν : zM} {Y : Nat} {x3_8 : Int32} {m9 : zMS}   (n : Nat) : zf2 (fX12_matched_l25 Y) n x3_8 (mdl ν Y m9) = Option.map (mdl ν Y) (zf2 gX12_matched_l25 n x3_8 m9) := by
  refine zf2_m (fun F10 G10 hF10 x3_8 m9 => ?_) n x3_8 m9
  simp only [fX12_matched_l25, gX12_matched_l25, zgd_t, zmap_ite, zmap_some, zmap_none, zmap_zb0, zmap_zni, zq2_k, zq3_k, zq4_k, zq5_k, zzb1_some, zzb2_some, zzb3_some, zzb4_some, zzb5_some, zzb6_some, zzc1_some, zzc2_some, zzc3_some, zzc4_some, zzc5_some, zzc6_some, zzb1_q, zzb2_q, zzb3_q, zzb4_q, zzb5_q, zzc1_q, zzc2_q, zzc3_q, zzc4_q, zzc5_q, zmap_zb1, zmap_zb2, zmap_zb3, zmap_zb4, zmap_zb5, zmap_zb6, zzc1_ite, zzc2_ite, zzc3_ite, zzc4_ite, zzc1_zb0, zzc1_zb1, zzc1_zb2, zzc1_zb3, zzc1_zb4, zzc2_zb0, zzc2_zb1, zzc2_zb2, zzc2_zb3, zzc2_zb4, zzc3_zb0, zzc3_zb1, zzc3_zb2, zzc3_zb3, zzc3_zb4, zzc4_zb0, zzc4_zb1, zzc4_zb2, zzc4_zb3, zzc4_zb4, md_ck, md_g25, md_g51, md_g52, md_p0, md_a51, md_s51, md_a52, md_s52, eX12_asksOn, eX12_hand, eX12_isKind, eX12_isPerson, hF10]
set_option maxRecDepth 100000 in
theorem eX12_matched_b94 {ν : zM} {Y : Nat} {m44 : zMS}   : fX12_matched_b94 (mdl ν Y m44) = Option.map (zq2 (mdl ν Y)) (gX12_matched_b94 m44) := by simp only [fX12_matched_b94, gX12_matched_b94, zgd_t, zmap_ite, zmap_some, zmap_none, zmap_zb0, zmap_zni, zq2_k, zq3_k, zq4_k, zq5_k, zzb1_some, zzb2_some, zzb3_some, zzb4_some, zzb5_some, zzb6_some, zzc1_some, zzc2_some, zzc3_some, zzc4_some, zzc5_some, zzc6_some, zzb1_q, zzb2_q, zzb3_q, zzb4_q, zzb5_q, zzc1_q, zzc2_q, zzc3_q, zzc4_q, zzc5_q, zmap_zb1, zmap_zb2, zmap_zb3, zmap_zb4, zmap_zb5, zmap_zb6, zzc1_ite, zzc2_ite, zzc3_ite, zzc4_ite, zzc1_zb0, zzc1_zb1, zzc1_zb2, zzc1_zb3, zzc1_zb4, zzc2_zb0, zzc2_zb1, zzc2_zb2, zzc2_zb3, zzc2_zb4, zzc3_zb0, zzc3_zb1, zzc3_zb2, zzc3_zb3, zzc3_zb4, zzc4_zb0, zzc4_zb1, zzc4_zb2, zzc4_zb3, zzc4_zb4, md_ck, md_g25, md_g51, md_g52, md_p0, md_a51, md_s51, md_a52, md_s52, eX12_asksOn, eX12_hand, eX12_isKind, eX12_isPerson, eX12_matched_l25]
set_option maxRecDepth 100000 in
theorem eX12_matched_l62 {ν : zM} {Y : Nat} {x3_29 : Int32} {x4_30 : Int32} {m31 : zMS}   (n : Nat) : zf3 (fX12_matched_l62 Y) n x3_29 x4_30 (mdl ν Y m31) = Option.map (zq2 (mdl ν Y)) (zf3 gX12_matched_l62 n x3_29 x4_30 m31) := by
  refine zf3_m (fun F32 G32 hF32 x3_29 x4_30 m31 => ?_) n x3_29 x4_30 m31
  simp only [fX12_matched_l62, gX12_matched_l62, zgd_t, zmap_ite, zmap_some, zmap_none, zmap_zb0, zmap_zni, zq2_k, zq3_k, zq4_k, zq5_k, zzb1_some, zzb2_some, zzb3_some, zzb4_some, zzb5_some, zzb6_some, zzc1_some, zzc2_some, zzc3_some, zzc4_some, zzc5_some, zzc6_some, zzb1_q, zzb2_q, zzb3_q, zzb4_q, zzb5_q, zzc1_q, zzc2_q, zzc3_q, zzc4_q, zzc5_q, zmap_zb1, zmap_zb2, zmap_zb3, zmap_zb4, zmap_zb5, zmap_zb6, zzc1_ite, zzc2_ite, zzc3_ite, zzc4_ite, zzc1_zb0, zzc1_zb1, zzc1_zb2, zzc1_zb3, zzc1_zb4, zzc2_zb0, zzc2_zb1, zzc2_zb2, zzc2_zb3, zzc2_zb4, zzc3_zb0, zzc3_zb1, zzc3_zb2, zzc3_zb3, zzc3_zb4, zzc4_zb0, zzc4_zb1, zzc4_zb2, zzc4_zb3, zzc4_zb4, md_ck, md_g25, md_g51, md_g52, md_p0, md_a51, md_s51, md_a52, md_s52, eX12_asksOn, eX12_hand, eX12_isKind, eX12_isPerson, eX12_matched_l25, eX12_matched_b94, hF32]
set_option maxRecDepth 100000 in
theorem eX12_matched_l53 {ν : zM} {Y : Nat} {x3_23 : Int32} {m24 : zMS}   (n : Nat) : zf2 (fX12_matched_l53 Y) n x3_23 (mdl ν Y m24) = Option.map (mdl ν Y) (zf2 gX12_matched_l53 n x3_23 m24) := by
  refine zf2_m (fun F25 G25 hF25 x3_23 m24 => ?_) n x3_23 m24
  simp only [fX12_matched_l53, gX12_matched_l53, zgd_t, zmap_ite, zmap_some, zmap_none, zmap_zb0, zmap_zni, zq2_k, zq3_k, zq4_k, zq5_k, zzb1_some, zzb2_some, zzb3_some, zzb4_some, zzb5_some, zzb6_some, zzc1_some, zzc2_some, zzc3_some, zzc4_some, zzc5_some, zzc6_some, zzb1_q, zzb2_q, zzb3_q, zzb4_q, zzb5_q, zzc1_q, zzc2_q, zzc3_q, zzc4_q, zzc5_q, zmap_zb1, zmap_zb2, zmap_zb3, zmap_zb4, zmap_zb5, zmap_zb6, zzc1_ite, zzc2_ite, zzc3_ite, zzc4_ite, zzc1_zb0, zzc1_zb1, zzc1_zb2, zzc1_zb3, zzc1_zb4, zzc2_zb0, zzc2_zb1, zzc2_zb2, zzc2_zb3, zzc2_zb4, zzc3_zb0, zzc3_zb1, zzc3_zb2, zzc3_zb3, zzc3_zb4, zzc4_zb0, zzc4_zb1, zzc4_zb2, zzc4_zb3, zzc4_zb4, md_ck, md_g25, md_g51, md_g52, md_p0, md_a51, md_s51, md_a52, md_s52, eX12_asksOn, eX12_hand, eX12_isKind, eX12_isPerson, eX12_matched_l25, eX12_matched_b94, eX12_matched_l62, hF25]
set_option maxRecDepth 100000 in
theorem eX12_matched {ν : zM} {Y : Nat} {M : zMS} {x1 : Int32} {x2 : Int32}  : fX12_matched (mdl ν Y M) Y x1 x2 = Option.map (zq2 (mdl ν Y)) (gX12_matched M x1 x2) := by simp only [fX12_matched, gX12_matched, zgd_t, zmap_ite, zmap_some, zmap_none, zmap_zb0, zmap_zni, zq2_k, zq3_k, zq4_k, zq5_k, zzb1_some, zzb2_some, zzb3_some, zzb4_some, zzb5_some, zzb6_some, zzc1_some, zzc2_some, zzc3_some, zzc4_some, zzc5_some, zzc6_some, zzb1_q, zzb2_q, zzb3_q, zzb4_q, zzb5_q, zzc1_q, zzc2_q, zzc3_q, zzc4_q, zzc5_q, zmap_zb1, zmap_zb2, zmap_zb3, zmap_zb4, zmap_zb5, zmap_zb6, zzc1_ite, zzc2_ite, zzc3_ite, zzc4_ite, zzc1_zb0, zzc1_zb1, zzc1_zb2, zzc1_zb3, zzc1_zb4, zzc2_zb0, zzc2_zb1, zzc2_zb2, zzc2_zb3, zzc2_zb4, zzc3_zb0, zzc3_zb1, zzc3_zb2, zzc3_zb3, zzc3_zb4, zzc4_zb0, zzc4_zb1, zzc4_zb2, zzc4_zb3, zzc4_zb4, md_ck, md_g25, md_g51, md_g52, md_p0, md_a51, md_s51, md_a52, md_s52, eX12_asksOn, eX12_hand, eX12_isKind, eX12_isPerson, eX12_matched_l25, eX12_matched_b94, eX12_matched_l62, eX12_matched_l53]
def gX12_count (M : zMS) (x1 : Int32) : Option (Int32 × zMS) :=
  zb1 (some (zsI M 0 0)) fun M1 =>
  zb1 (gX12_in x1 0 3) fun v4 =>
  zb1 (if v4 = 0 then (
  some (-2))
  else (
  zb1 (zag 16 (M1.2.2 5) x1) fun v9 =>
  some v9) : Option (Int32)) fun (s5 : Int32) =>
  some (s5, M1)
set_option maxRecDepth 100000 in
theorem eX12_count {ν : zM} {Y : Nat} {M : zMS} {x1 : Int32}  : fX12_count (mdl ν Y M) Y x1 = Option.map (zq2 (mdl ν Y)) (gX12_count M x1) := by simp only [fX12_count, gX12_count, zgd_t, zmap_ite, zmap_some, zmap_none, zmap_zb0, zmap_zni, zq2_k, zq3_k, zq4_k, zq5_k, zzb1_some, zzb2_some, zzb3_some, zzb4_some, zzb5_some, zzb6_some, zzb1_q, zzb2_q, zzb3_q, zzb4_q, zzb5_q, zmap_zb1, zmap_zb2, zmap_zb3, zmap_zb4, zmap_zb5, zmap_zb6, md_ck, md_g5, md_p0, md_a5, md_s5, eX12_in]
def gX12_image (M : zMS) (x1 : Int32) : Option (Int32 × zMS) :=
  zb1 (some (zsI M 0 0)) fun M1 =>
  zb1 (gX12_in x1 0 2) fun v4 =>
  if v4 = 0 then (
  some (0, M1))
  else (
  zb1 (gX12_copyAll M1 0 (x1 + 1)) fun M6 =>
  zb1 (zas 3 (M6.2.2 53) x1 (vp_nar .boolean 1)) fun f9 =>
  zb1 (some (zsA M6 53 f9)) fun M9 =>
  some (1, M9))
set_option maxRecDepth 100000 in
theorem eX12_image {ν : zM} {Y : Nat} {M : zMS} {x1 : Int32}  : fX12_image (mdl ν Y M) Y x1 = Option.map (zq2 (mdl ν Y)) (gX12_image M x1) := by simp only [fX12_image, gX12_image, zgd_t, zmap_ite, zmap_some, zmap_none, zmap_zb0, zmap_zni, zq2_k, zq3_k, zq4_k, zq5_k, zzb1_some, zzb2_some, zzb3_some, zzb4_some, zzb5_some, zzb6_some, zzb1_q, zzb2_q, zzb3_q, zzb4_q, zzb5_q, zmap_zb1, zmap_zb2, zmap_zb3, zmap_zb4, zmap_zb5, zmap_zb6, md_ck, md_g53, md_p0, md_a53, md_s53, eX12_copyAll, eX12_in]
def gX12_again (M : zMS) (x1 : Int32) : Option (Int32 × zMS) :=
  zb1 (some (zsI M 0 0)) fun M1 =>
  zb1 (gX12_in x1 0 2) fun v4 =>
  if v4 = 0 then (
  some (0, M1))
  else (
  zb1 (zag 3 (M1.2.2 53) x1) fun v7 =>
  if v7 = 0 then (
  some (0, M1))
  else (
  zb1 (gX12_copyAll M1 (x1 + 1) 0) fun M10 =>
  some (1, M10)))
set_option maxRecDepth 100000 in
theorem eX12_again {ν : zM} {Y : Nat} {M : zMS} {x1 : Int32}  : fX12_again (mdl ν Y M) Y x1 = Option.map (zq2 (mdl ν Y)) (gX12_again M x1) := by simp only [fX12_again, gX12_again, zgd_t, zmap_ite, zmap_some, zmap_none, zmap_zb0, zmap_zni, zq2_k, zq3_k, zq4_k, zq5_k, zzb1_some, zzb2_some, zzb3_some, zzb4_some, zzb5_some, zzb6_some, zzb1_q, zzb2_q, zzb3_q, zzb4_q, zzb5_q, zmap_zb1, zmap_zb2, zmap_zb3, zmap_zb4, zmap_zb5, zmap_zb6, md_ck, md_g53, md_p0, md_a53, md_s53, eX12_copyAll, eX12_in]
