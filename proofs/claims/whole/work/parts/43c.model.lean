def gX12_rankOf_l5 (M : zMS) (x2 : Int32) (x1 : Int32) (F3 : Int32 → Int32 → Option (Int32)) (x3_1 : Int32) (x4_2 : Int32) : Option (Int32) :=
  if (M.1 25) ≤ x4_2 then (
  some x3_1)
  else (
  zb1 (if x2 = 0 then (
  zb1 (gX12_of M (39 + x4_2)) fun v18 =>
  zb1 (gX12_of M (39 + x1)) fun v20 =>
  some (v18 - v20))
  else (
  zb1 (gX12_of M (39 + x1)) fun v22 =>
  zb1 (gX12_of M (39 + x4_2)) fun v24 =>
  some (v22 - v24)) : Option (Int32)) fun (s9 : Int32) =>
  zb1 (gX12_of M (27 + x1)) fun v12 =>
  zb1 (gX12_isKind M x4_2 v12) fun v14 =>
  zb1 (if v14 = 0 then (
  some 0)
  else (
  if 0 < s9 then (
  some 1)
  else (
  if s9 = 0 then (
  if x1 ≤ x4_2 then (
  some 0)
  else (
  some 1))
  else (
  some 0))) : Option (Int32)) fun (s15 : Int32) =>
  F3 (x3_1 + s15) (x4_2 + 1))
def gX12_rankOf (M : zMS) (x1 : Int32) (x2 : Int32) : Option (Int32) :=
  zb1 (zf2 (gX12_rankOf_l5 M x2 x1) zfu 0 0 : Option (Int32)) fun (x3_5 : Int32) =>
  some x3_5
set_option maxRecDepth 100000 in
theorem eX12_rankOf_l5 {ν : zM} {Y : Nat} {M : zMS} {x2 : Int32} {x1 : Int32} {x3_1 : Int32} {x4_2 : Int32}   (n : Nat) : zf2 (fX12_rankOf_l5 (mdl ν Y M) Y x2 x1) n x3_1 x4_2 = zf2 (gX12_rankOf_l5 M x2 x1) n x3_1 x4_2 := by
  refine zf2_c (fun F3 G3 hF3 x3_1 x4_2 => ?_) n x3_1 x4_2
  simp only [fX12_rankOf_l5, gX12_rankOf_l5, zgd_t, zmap_ite, zmap_some, zmap_none, zmap_zb0, zmap_zni, zq2_k, zq3_k, zq4_k, zq5_k, zzb1_some, zzb2_some, zzb3_some, zzb4_some, zzb5_some, zzb6_some, zzb1_q, zzb2_q, zzb3_q, zzb4_q, zzb5_q, zmap_zb1, zmap_zb2, zmap_zb3, zmap_zb4, zmap_zb5, zmap_zb6, md_ck, md_g25, eX12_isKind, eX12_of, hF3]
set_option maxRecDepth 100000 in
theorem eX12_rankOf {ν : zM} {Y : Nat} {M : zMS} {x1 : Int32} {x2 : Int32}  : fX12_rankOf (mdl ν Y M) Y x1 x2 = gX12_rankOf M x1 x2 := by simp only [fX12_rankOf, gX12_rankOf, zgd_t, zmap_ite, zmap_some, zmap_none, zmap_zb0, zmap_zni, zq2_k, zq3_k, zq4_k, zq5_k, zzb1_some, zzb2_some, zzb3_some, zzb4_some, zzb5_some, zzb6_some, zzb1_q, zzb2_q, zzb3_q, zzb4_q, zzb5_q, zmap_zb1, zmap_zb2, zmap_zb3, zmap_zb4, zmap_zb5, zmap_zb6, md_ck, md_g25, eX12_isKind, eX12_of, eX12_rankOf_l5]
def gX12_layMarket_l12  (F7 : Int32 → zMS → Option (zMS)) (x1_5 : Int32) (m6 : zMS) : Option (zMS) :=
  if (m6.1 25) ≤ x1_5 then (
  some m6)
  else (
  zb1 (gX12_isKind m6 x1_5 0) fun v14 =>
  zc1 (if v14 = 0 then (
  some m6)
  else (
  zb1 (gX12_rankOf m6 x1_5 1) fun v36 =>
  zb1 (gX12_of m6 (39 + x1_5)) fun v38 =>
  zb1 (zas 6 (m6.2.2 37) v36 v38) fun f39 =>
  zb1 (some (zsA m6 37 f39)) fun M39 =>
  zb1 (some (zsI M39 39 ((M39.1 39) + 1))) fun M43 =>
  some M43) : Option (zMS)) fun (m15 : zMS) =>
  zb1 (gX12_isKind m15 x1_5 1) fun v18 =>
  zc1 (if v18 = 0 then (
  some m15)
  else (
  zb1 (gX12_rankOf m15 x1_5 0) fun v24 =>
  zb1 (gX12_of m15 (39 + x1_5)) fun v26 =>
  zb1 (zas 6 (m15.2.2 38) v24 v26) fun f27 =>
  zb1 (some (zsA m15 38 f27)) fun M27 =>
  zb1 (some (zsI M27 40 ((M27.1 40) + 1))) fun M31 =>
  some M31) : Option (zMS)) fun (m19 : zMS) =>
  F7 (x1_5 + 1) m19)
def gX12_layMarket (M : zMS)  : Option (zMS) :=
  zb1 (some (zsI M 39 0)) fun M1 =>
  zb1 (some (zsI M1 40 0)) fun M3 =>
  zb1 (zf2 gX12_layMarket_l12 zfu 0 M3 : Option (zMS)) fun (m9 : zMS) =>
  some m9
set_option maxRecDepth 100000 in
theorem eX12_layMarket_l12 {ν : zM} {Y : Nat} {x1_5 : Int32} {m6 : zMS}   (n : Nat) : zf2 (fX12_layMarket_l12 Y) n x1_5 (mdl ν Y m6) = Option.map (mdl ν Y) (zf2 gX12_layMarket_l12 n x1_5 m6) := by
  refine zf2_m (fun F7 G7 hF7 x1_5 m6 => ?_) n x1_5 m6
  simp only [fX12_layMarket_l12, gX12_layMarket_l12, zgd_t, zmap_ite, zmap_some, zmap_none, zmap_zb0, zmap_zni, zq2_k, zq3_k, zq4_k, zq5_k, zzb1_some, zzb2_some, zzb3_some, zzb4_some, zzb5_some, zzb6_some, zzc1_some, zzc2_some, zzc3_some, zzc4_some, zzc5_some, zzc6_some, zzb1_q, zzb2_q, zzb3_q, zzb4_q, zzb5_q, zzc1_q, zzc2_q, zzc3_q, zzc4_q, zzc5_q, zmap_zb1, zmap_zb2, zmap_zb3, zmap_zb4, zmap_zb5, zmap_zb6, zzc1_ite, zzc2_ite, zzc3_ite, zzc4_ite, zzc1_zb0, zzc1_zb1, zzc1_zb2, zzc1_zb3, zzc1_zb4, zzc2_zb0, zzc2_zb1, zzc2_zb2, zzc2_zb3, zzc2_zb4, zzc3_zb0, zzc3_zb1, zzc3_zb2, zzc3_zb3, zzc3_zb4, zzc4_zb0, zzc4_zb1, zzc4_zb2, zzc4_zb3, zzc4_zb4, md_ck, md_g25, md_g37, md_g38, md_g39, md_g40, md_p39, md_p40, md_a37, md_s37, md_a38, md_s38, eX12_isKind, eX12_of, eX12_rankOf, hF7]
set_option maxRecDepth 100000 in
theorem eX12_layMarket {ν : zM} {Y : Nat} {M : zMS}   : fX12_layMarket (mdl ν Y M) Y = Option.map (mdl ν Y) (gX12_layMarket M ) := by simp only [fX12_layMarket, gX12_layMarket, zgd_t, zmap_ite, zmap_some, zmap_none, zmap_zb0, zmap_zni, zq2_k, zq3_k, zq4_k, zq5_k, zzb1_some, zzb2_some, zzb3_some, zzb4_some, zzb5_some, zzb6_some, zzc1_some, zzc2_some, zzc3_some, zzc4_some, zzc5_some, zzc6_some, zzb1_q, zzb2_q, zzb3_q, zzb4_q, zzb5_q, zzc1_q, zzc2_q, zzc3_q, zzc4_q, zzc5_q, zmap_zb1, zmap_zb2, zmap_zb3, zmap_zb4, zmap_zb5, zmap_zb6, zzc1_ite, zzc2_ite, zzc3_ite, zzc4_ite, zzc1_zb0, zzc1_zb1, zzc1_zb2, zzc1_zb3, zzc1_zb4, zzc2_zb0, zzc2_zb1, zzc2_zb2, zzc2_zb3, zzc2_zb4, zzc3_zb0, zzc3_zb1, zzc3_zb2, zzc3_zb3, zzc3_zb4, zzc4_zb0, zzc4_zb1, zzc4_zb2, zzc4_zb3, zzc4_zb4, md_ck, md_g25, md_g37, md_g38, md_g39, md_g40, md_p39, md_p40, md_a37, md_s37, md_a38, md_s38, eX12_isKind, eX12_of, eX12_rankOf, eX12_layMarket_l12]
def gX12_clears_l13 (M : zMS) (x1 : Int32) (F4 : Int32 → Int32 → Int32 → Option (Int32 × Int32)) (x2_1 : Int32) (x3_2 : Int32) (x6_3 : Int32) : Option (Int32 × Int32) :=
  if (M.1 39) ≤ x6_3 then (
  some (x2_1, x3_2))
  else (
  zb1 (zag 6 (M.2.2 37) x6_3) fun v13 =>
  zb1 (if x1 ≤ v13 then (
  some 0)
  else (
  some 1) : Option (Int32)) fun (s15 : Int32) =>
  zb1 (zag 6 (M.2.2 37) x6_3) fun v19 =>
  zb1 (if x1 < v19 then (
  some 0)
  else (
  some 1) : Option (Int32)) fun (s21 : Int32) =>
  F4 (x2_1 + s15) (x3_2 + s21) (x6_3 + 1))
def gX12_clears_l69 (M : zMS) (x1 : Int32) (F27 : Int32 → Int32 → Int32 → Option (Int32 × Int32)) (x4_24 : Int32) (x5_25 : Int32) (x6_26 : Int32) : Option (Int32 × Int32) :=
  if (M.1 40) ≤ x6_26 then (
  some (x4_24, x5_25))
  else (
  zb1 (zag 6 (M.2.2 38) x6_26) fun v36 =>
  zb1 (if v36 ≤ x1 then (
  some 0)
  else (
  some 1) : Option (Int32)) fun (s38 : Int32) =>
  zb1 (zag 6 (M.2.2 38) x6_26) fun v42 =>
  zb1 (if v42 < x1 then (
  some 0)
  else (
  some 1) : Option (Int32)) fun (s44 : Int32) =>
  F27 (x4_24 + s38) (x5_25 + s44) (x6_26 + 1))
def gX12_clears (M : zMS) (x1 : Int32) : Option (Int32) :=
  zb2 (zf3 (gX12_clears_l13 M x1) zfu 0 0 0 : Option (Int32 × Int32)) fun (x2_6 : Int32) (x3_7 : Int32) =>
  zb2 (zf3 (gX12_clears_l69 M x1) zfu 0 0 0 : Option (Int32 × Int32)) fun (x4_29 : Int32) (x5_30 : Int32) =>
  zb1 (gX12_greater x2_6 x4_29) fun v48 =>
  zb1 (gX12_lesser x3_7 x5_30) fun v50 =>
  zb1 (if v50 < v48 then (
  some 0)
  else (
  some 1) : Option (Int32)) fun (s51 : Int32) =>
  zb1 (zbz s51) fun v53 =>
  some v53
set_option maxRecDepth 100000 in
theorem eX12_clears_l13 {ν : zM} {Y : Nat} {M : zMS} {x1 : Int32} {x2_1 : Int32} {x3_2 : Int32} {x6_3 : Int32}   (n : Nat) : zf3 (fX12_clears_l13 (mdl ν Y M) Y x1) n x2_1 x3_2 x6_3 = zf3 (gX12_clears_l13 M x1) n x2_1 x3_2 x6_3 := by
  refine zf3_c (fun F4 G4 hF4 x2_1 x3_2 x6_3 => ?_) n x2_1 x3_2 x6_3
  simp only [fX12_clears_l13, gX12_clears_l13, zgd_t, zmap_ite, zmap_some, zmap_none, zmap_zb0, zmap_zni, zq2_k, zq3_k, zq4_k, zq5_k, zzb1_some, zzb2_some, zzb3_some, zzb4_some, zzb5_some, zzb6_some, zzb1_q, zzb2_q, zzb3_q, zzb4_q, zzb5_q, zmap_zb1, zmap_zb2, zmap_zb3, zmap_zb4, zmap_zb5, zmap_zb6, md_ck, md_g37, md_g38, md_g39, md_g40, md_a37, md_s37, md_a38, md_s38, eX12_greater, eX12_lesser, hF4]
set_option maxRecDepth 100000 in
theorem eX12_clears_l69 {ν : zM} {Y : Nat} {M : zMS} {x1 : Int32} {x4_24 : Int32} {x5_25 : Int32} {x6_26 : Int32}   (n : Nat) : zf3 (fX12_clears_l69 (mdl ν Y M) Y x1) n x4_24 x5_25 x6_26 = zf3 (gX12_clears_l69 M x1) n x4_24 x5_25 x6_26 := by
  refine zf3_c (fun F27 G27 hF27 x4_24 x5_25 x6_26 => ?_) n x4_24 x5_25 x6_26
  simp only [fX12_clears_l69, gX12_clears_l69, zgd_t, zmap_ite, zmap_some, zmap_none, zmap_zb0, zmap_zni, zq2_k, zq3_k, zq4_k, zq5_k, zzb1_some, zzb2_some, zzb3_some, zzb4_some, zzb5_some, zzb6_some, zzb1_q, zzb2_q, zzb3_q, zzb4_q, zzb5_q, zmap_zb1, zmap_zb2, zmap_zb3, zmap_zb4, zmap_zb5, zmap_zb6, md_ck, md_g37, md_g38, md_g39, md_g40, md_a37, md_s37, md_a38, md_s38, eX12_greater, eX12_lesser, eX12_clears_l13, hF27]
set_option maxRecDepth 100000 in
theorem eX12_clears {ν : zM} {Y : Nat} {M : zMS} {x1 : Int32}  : fX12_clears (mdl ν Y M) Y x1 = gX12_clears M x1 := by simp only [fX12_clears, gX12_clears, zgd_t, zmap_ite, zmap_some, zmap_none, zmap_zb0, zmap_zni, zq2_k, zq3_k, zq4_k, zq5_k, zzb1_some, zzb2_some, zzb3_some, zzb4_some, zzb5_some, zzb6_some, zzb1_q, zzb2_q, zzb3_q, zzb4_q, zzb5_q, zmap_zb1, zmap_zb2, zmap_zb3, zmap_zb4, zmap_zb5, zmap_zb6, md_ck, md_g37, md_g38, md_g39, md_g40, md_a37, md_s37, md_a38, md_s38, eX12_greater, eX12_lesser, eX12_clears_l13, eX12_clears_l69]
def gX12_market_l33 (M9 : zMS) (F12 : Int32 → Int32 → Option (Int32 × Int32)) (x3_10 : Int32) (x4_11 : Int32) : Option (Int32 × Int32) :=
  if (M9.1 39) ≤ x4_11 then (
  some (x3_10, x4_11))
  else (
  if (M9.1 40) ≤ x4_11 then (
  some (x3_10, x4_11))
  else (
  zb1 (zag 6 (M9.2.2 38) x4_11) fun v23 =>
  zb1 (zag 6 (M9.2.2 37) x4_11) fun v27 =>
  if v23 < v27 then (
  some (x3_10, x4_11))
  else (
  zb1 (zag 6 (M9.2.2 38) x4_11) fun v31 =>
  zb1 (zag 6 (M9.2.2 37) x4_11) fun v35 =>
  F12 (x3_10 + (v31 - v35)) (x4_11 + 1))))
def gX12_market_b132 (x5_38 : Int32) : Option (Int32) :=
  some x5_38
def gX12_market_l101 (M9 : zMS) (F41 : Int32 → Int32 → Int32 → Option (Int32 × Int32)) (x5_38 : Int32) (x6_39 : Int32) (x7_40 : Int32) : Option (Int32 × Int32) :=
  if 99 < x7_40 then (
  some (x5_38, x6_39))
  else (
  zb1 (gX12_clears M9 x7_40) fun v47 =>
  zb1 (if v47 = 0 then (
  gX12_market_b132 x5_38)
  else (
  if x5_38 = (-1) then (
  some x7_40)
  else (
  gX12_market_b132 x5_38)) : Option (Int32)) fun (s48 : Int32) =>
  zb1 (if v47 = 0 then (
  some x6_39)
  else (
  some x7_40) : Option (Int32)) fun (s51 : Int32) =>
  F41 s48 s51 (x7_40 + 1))
def gX12_market (M : zMS) (x1 : Int32) (x2 : Int32) : Option (Int32 × zMS) :=
  zb1 (some (zsI M 0 0)) fun M1 =>
  zb2 (gX12_hand M1 x1) fun v5 M4 =>
  if v5 = 0 then (
  some ((-1), M4))
  else (
  zb1 (gX12_in x2 0 3) fun v7 =>
  if v7 = 0 then (
  some ((-1), M4))
  else (
  zb1 (gX12_layMarket M4) fun M9 =>
  zb2 (zf2 (gX12_market_l33 M9) zfu 0 0 : Option (Int32 × Int32)) fun (x3_14 : Int32) (x4_15 : Int32) =>
  zb2 (zf3 (gX12_market_l101 M9) zfu (-1) (-1) 0 : Option (Int32 × Int32)) fun (x5_43 : Int32) (x6_44 : Int32) =>
  zb1 (if x2 = 0 then (
  some x3_14)
  else (
  if x2 = 1 then (
  some x4_15)
  else (
  if x2 = 2 then (
  some x5_43)
  else (
  some x6_44))) : Option (Int32)) fun (s54 : Int32) =>
  some (s54, M9)))
set_option maxRecDepth 100000 in
theorem eX12_market_l33 {ν : zM} {Y : Nat} {m9 : zMS} {x3_10 : Int32} {x4_11 : Int32}   (n : Nat) : zf2 (fX12_market_l33 (mdl ν Y m9) Y) n x3_10 x4_11 = zf2 (gX12_market_l33 m9) n x3_10 x4_11 := by
  refine zf2_c (fun F12 G12 hF12 x3_10 x4_11 => ?_) n x3_10 x4_11
  simp only [fX12_market_l33, gX12_market_l33, zgd_t, zmap_ite, zmap_some, zmap_none, zmap_zb0, zmap_zni, zq2_k, zq3_k, zq4_k, zq5_k, zzb1_some, zzb2_some, zzb3_some, zzb4_some, zzb5_some, zzb6_some, zzb1_q, zzb2_q, zzb3_q, zzb4_q, zzb5_q, zmap_zb1, zmap_zb2, zmap_zb3, zmap_zb4, zmap_zb5, zmap_zb6, md_ck, md_g37, md_g38, md_g39, md_g40, md_p0, md_a37, md_s37, md_a38, md_s38, eX12_clears, eX12_hand, eX12_in, eX12_layMarket, hF12]
set_option maxRecDepth 100000 in
theorem eX12_market_b132  {x5_38 : Int32}   : fX12_market_b132 x5_38  = gX12_market_b132 x5_38  := by simp only [fX12_market_b132, gX12_market_b132, zgd_t, zmap_ite, zmap_some, zmap_none, zmap_zb0, zmap_zni, zq2_k, zq3_k, zq4_k, zq5_k, zzb1_some, zzb2_some, zzb3_some, zzb4_some, zzb5_some, zzb6_some, zzb1_q, zzb2_q, zzb3_q, zzb4_q, zzb5_q, zmap_zb1, zmap_zb2, zmap_zb3, zmap_zb4, zmap_zb5, zmap_zb6, md_ck, md_g37, md_g38, md_g39, md_g40, md_p0, md_a37, md_s37, md_a38, md_s38, eX12_clears, eX12_hand, eX12_in, eX12_layMarket, eX12_market_l33]
set_option maxRecDepth 100000 in
theorem eX12_market_l101 {ν : zM} {Y : Nat} {m9 : zMS} {x5_38 : Int32} {x6_39 : Int32} {x7_40 : Int32}   (n : Nat) : zf3 (fX12_market_l101 (mdl ν Y m9) Y) n x5_38 x6_39 x7_40 = zf3 (gX12_market_l101 m9) n x5_38 x6_39 x7_40 := by
  refine zf3_c (fun F41 G41 hF41 x5_38 x6_39 x7_40 => ?_) n x5_38 x6_39 x7_40
  simp only [fX12_market_l101, gX12_market_l101, zgd_t, zmap_ite, zmap_some, zmap_none, zmap_zb0, zmap_zni, zq2_k, zq3_k, zq4_k, zq5_k, zzb1_some, zzb2_some, zzb3_some, zzb4_some, zzb5_some, zzb6_some, zzb1_q, zzb2_q, zzb3_q, zzb4_q, zzb5_q, zmap_zb1, zmap_zb2, zmap_zb3, zmap_zb4, zmap_zb5, zmap_zb6, md_ck, md_g37, md_g38, md_g39, md_g40, md_p0, md_a37, md_s37, md_a38, md_s38, eX12_clears, eX12_hand, eX12_in, eX12_layMarket, eX12_market_l33, eX12_market_b132, hF41]
set_option maxRecDepth 100000 in
theorem eX12_market {ν : zM} {Y : Nat} {M : zMS} {x1 : Int32} {x2 : Int32}  : fX12_market (mdl ν Y M) Y x1 x2 = Option.map (zq2 (mdl ν Y)) (gX12_market M x1 x2) := by simp only [fX12_market, gX12_market, zgd_t, zmap_ite, zmap_some, zmap_none, zmap_zb0, zmap_zni, zq2_k, zq3_k, zq4_k, zq5_k, zzb1_some, zzb2_some, zzb3_some, zzb4_some, zzb5_some, zzb6_some, zzb1_q, zzb2_q, zzb3_q, zzb4_q, zzb5_q, zmap_zb1, zmap_zb2, zmap_zb3, zmap_zb4, zmap_zb5, zmap_zb6, md_ck, md_g37, md_g38, md_g39, md_g40, md_p0, md_a37, md_s37, md_a38, md_s38, eX12_clears, eX12_hand, eX12_in, eX12_layMarket, eX12_market_l33, eX12_market_b132, eX12_market_l101]
def gX12_soldFor  (x0 : Int32) (x1 : Int32) (x2 : Int32) : Option (Int32) :=
  zb1 (if x0 ≤ x1 then (
  some (((x0 + x1) / 2) - x2))
  else (
  some 0) : Option (Int32)) fun (s1 : Int32) =>
  some s1
set_option maxRecDepth 100000 in
theorem eX12_soldFor {μ : zM} {x0 : Int32} {x1 : Int32} {x2 : Int32} : fX12_soldFor μ x0 x1 x2 = gX12_soldFor x0 x1 x2 := by simp only [fX12_soldFor, gX12_soldFor, zgd_t, zmap_ite, zmap_some, zmap_none, zmap_zb0, zmap_zni, zq2_k, zq3_k, zq4_k, zq5_k, zzb1_some, zzb2_some, zzb3_some, zzb4_some, zzb5_some, zzb6_some, zzb1_q, zzb2_q, zzb3_q, zzb4_q, zzb5_q, zmap_zb1, zmap_zb2, zmap_zb3, zmap_zb4, zmap_zb5, zmap_zb6, md_ck]
def gX12_boughtFor  (x0 : Int32) (x1 : Int32) (x2 : Int32) : Option (Int32) :=
  zb1 (if x0 ≤ x1 then (
  some (x2 - ((x0 + x1) / 2)))
  else (
  some 0) : Option (Int32)) fun (s1 : Int32) =>
  some s1
set_option maxRecDepth 100000 in
theorem eX12_boughtFor {μ : zM} {x0 : Int32} {x1 : Int32} {x2 : Int32} : fX12_boughtFor μ x0 x1 x2 = gX12_boughtFor x0 x1 x2 := by simp only [fX12_boughtFor, gX12_boughtFor, zgd_t, zmap_ite, zmap_some, zmap_none, zmap_zb0, zmap_zni, zq2_k, zq3_k, zq4_k, zq5_k, zzb1_some, zzb2_some, zzb3_some, zzb4_some, zzb5_some, zzb6_some, zzb1_q, zzb2_q, zzb3_q, zzb4_q, zzb5_q, zmap_zb1, zmap_zb2, zmap_zb3, zmap_zb4, zmap_zb5, zmap_zb6, md_ck]
def gX12_bargain_l86 (x7_14 : Int32) (v11 : Int32) (v13 : Int32) (F30 : Int32 → zMS → Option (zMS)) (x8_28 : Int32) (m29 : zMS) : Option (zMS) :=
  if 99 < x8_28 then (
  some m29)
  else (
  zb1 (zag 100 (m29.2.2 41) x7_14) fun v38 =>
  zb1 (gX12_soldFor x8_28 x7_14 v11) fun v41 =>
  zb1 (gX12_greater v38 v41) fun v43 =>
  zb1 (zas 100 (m29.2.2 41) x7_14 v43) fun f44 =>
  zb1 (some (zsA m29 41 f44)) fun M44 =>
  zb1 (zag 100 (M44.2.2 42) x7_14) fun v50 =>
  zb1 (gX12_boughtFor x7_14 x8_28 v13) fun v53 =>
  zb1 (gX12_greater v50 v53) fun v55 =>
  zb1 (zas 100 (M44.2.2 42) x7_14 v55) fun f56 =>
  zb1 (some (zsA M44 42 f56)) fun M56 =>
  F30 (x8_28 + 1) M56)
def gX12_bargain_l56 (v11 : Int32) (v13 : Int32) (F16 : Int32 → zMS → Option (zMS)) (x7_14 : Int32) (m15 : zMS) : Option (zMS) :=
  if 99 < x7_14 then (
  some m15)
  else (
  zb1 (zas 100 (m15.2.2 41) x7_14 (-1000000)) fun f22 =>
  zb1 (some (zsA m15 41 f22)) fun M22 =>
  zb1 (zas 100 (M22.2.2 42) x7_14 (-1000000)) fun f26 =>
  zb1 (some (zsA M22 42 f26)) fun M26 =>
  zb1 (zf2 (gX12_bargain_l86 x7_14 v11 v13) zfu 0 M26 : Option (zMS)) fun (m32 : zMS) =>
  F16 (x7_14 + 1) m32)
def gX12_bargain_b225  : Option (Int32) :=
  some 0
def gX12_bargain_l176 (x9_62 : Int32) (v11 : Int32) (m18 : zMS) (v13 : Int32) (F71 : Int32 → Int32 → Int32 → Option (Int32 × Int32)) (x7_68 : Int32) (x8_69 : Int32) (x10_70 : Int32) : Option (Int32 × Int32) :=
  if 99 < x10_70 then (
  some (x7_68, x8_69))
  else (
  zb1 (gX12_soldFor x9_62 x10_70 v11) fun v77 =>
  zb1 (zag 100 (m18.2.2 41) x10_70) fun v80 =>
  zb1 (if v77 = v80 then (
  zb1 (gX12_boughtFor x9_62 x10_70 v13) fun v90 =>
  zb1 (zag 100 (m18.2.2 42) x9_62) fun v93 =>
  if v90 = v93 then (
  some 1)
  else (
  gX12_bargain_b225))
  else (
  gX12_bargain_b225) : Option (Int32)) fun (s82 : Int32) =>
  zb1 (if s82 = 0 then (
  some 0)
  else (
  some 1) : Option (Int32)) fun (s85 : Int32) =>
  zb1 (if s82 = 0 then (
  some 0)
  else (
  if x10_70 < x9_62 then (
  some 0)
  else (
  some 1)) : Option (Int32)) fun (s87 : Int32) =>
  F71 (x7_68 + s85) (x8_69 + s87) (x10_70 + 1))
def gX12_bargain_l166 (v11 : Int32) (m18 : zMS) (v13 : Int32) (F63 : Int32 → Int32 → Int32 → Option (Int32 × Int32)) (x7_60 : Int32) (x8_61 : Int32) (x9_62 : Int32) : Option (Int32 × Int32) :=
  if 99 < x9_62 then (
  some (x7_60, x8_61))
  else (
  zb2 (zf3 (gX12_bargain_l176 x9_62 v11 m18 v13) zfu x7_60 x8_61 0 : Option (Int32 × Int32)) fun (x7_73 : Int32) (x8_74 : Int32) =>
  F63 x7_73 x8_74 (x9_62 + 1))
def gX12_bargain (M : zMS) (x1 : Int32) (x2 : Int32) (x3 : Int32) (x4 : Int32) : Option (Int32 × zMS) :=
  zb1 (some (zsI M 0 0)) fun M1 =>
  zb2 (gX12_hand M1 x1) fun v5 M4 =>
  if v5 = 0 then (
  some ((-1), M4))
  else (
  zb1 (gX12_isKind M4 x2 0) fun v7 =>
  if v7 = 0 then (
  some ((-1), M4))
  else (
  zb1 (gX12_isKind M4 x3 1) fun v9 =>
  if v9 = 0 then (
  some ((-1), M4))
  else (
  zb1 (gX12_of M4 (39 + x2)) fun v11 =>
  zb1 (gX12_of M4 (39 + x3)) fun v13 =>
  zb1 (zf2 (gX12_bargain_l56 v11 v13) zfu 0 M4 : Option (zMS)) fun (m18 : zMS) =>
  zb2 (zf3 (gX12_bargain_l166 v11 m18 v13) zfu 0 0 0 : Option (Int32 × Int32)) fun (x7_65 : Int32) (x8_66 : Int32) =>
  zb1 (if x4 = 0 then (
  some x7_65)
  else (
  some x8_66) : Option (Int32)) fun (s97 : Int32) =>
  some (s97, m18))))
set_option maxRecDepth 100000 in
theorem eX12_bargain_l86 {ν : zM} {Y : Nat} {x7_14 : Int32} {v11 : Int32} {v13 : Int32} {x8_28 : Int32} {m29 : zMS}   (n : Nat) : zf2 (fX12_bargain_l86 Y x7_14 v11 v13) n x8_28 (mdl ν Y m29) = Option.map (mdl ν Y) (zf2 (gX12_bargain_l86 x7_14 v11 v13) n x8_28 m29) := by
  refine zf2_m (fun F30 G30 hF30 x8_28 m29 => ?_) n x8_28 m29
  simp only [fX12_bargain_l86, gX12_bargain_l86, zgd_t, zmap_ite, zmap_some, zmap_none, zmap_zb0, zmap_zni, zq2_k, zq3_k, zq4_k, zq5_k, zzb1_some, zzb2_some, zzb3_some, zzb4_some, zzb5_some, zzb6_some, zzb1_q, zzb2_q, zzb3_q, zzb4_q, zzb5_q, zmap_zb1, zmap_zb2, zmap_zb3, zmap_zb4, zmap_zb5, zmap_zb6, md_ck, md_g41, md_g42, md_p0, md_a41, md_s41, md_a42, md_s42, eX12_boughtFor, eX12_greater, eX12_hand, eX12_isKind, eX12_of, eX12_soldFor, hF30]
set_option maxRecDepth 100000 in
theorem eX12_bargain_l56 {ν : zM} {Y : Nat} {v11 : Int32} {v13 : Int32} {x7_14 : Int32} {m15 : zMS}   (n : Nat) : zf2 (fX12_bargain_l56 Y v11 v13) n x7_14 (mdl ν Y m15) = Option.map (mdl ν Y) (zf2 (gX12_bargain_l56 v11 v13) n x7_14 m15) := by
  refine zf2_m (fun F16 G16 hF16 x7_14 m15 => ?_) n x7_14 m15
  simp only [fX12_bargain_l56, gX12_bargain_l56, zgd_t, zmap_ite, zmap_some, zmap_none, zmap_zb0, zmap_zni, zq2_k, zq3_k, zq4_k, zq5_k, zzb1_some, zzb2_some, zzb3_some, zzb4_some, zzb5_some, zzb6_some, zzb1_q, zzb2_q, zzb3_q, zzb4_q, zzb5_q, zmap_zb1, zmap_zb2, zmap_zb3, zmap_zb4, zmap_zb5, zmap_zb6, md_ck, md_g41, md_g42, md_p0, md_a41, md_s41, md_a42, md_s42, eX12_boughtFor, eX12_greater, eX12_hand, eX12_isKind, eX12_of, eX12_soldFor, eX12_bargain_l86, hF16]
set_option maxRecDepth 100000 in
theorem eX12_bargain_b225     : fX12_bargain_b225  = gX12_bargain_b225  := by simp only [fX12_bargain_b225, gX12_bargain_b225, zgd_t, zmap_ite, zmap_some, zmap_none, zmap_zb0, zmap_zni, zq2_k, zq3_k, zq4_k, zq5_k, zzb1_some, zzb2_some, zzb3_some, zzb4_some, zzb5_some, zzb6_some, zzb1_q, zzb2_q, zzb3_q, zzb4_q, zzb5_q, zmap_zb1, zmap_zb2, zmap_zb3, zmap_zb4, zmap_zb5, zmap_zb6, md_ck, md_g41, md_g42, md_p0, md_a41, md_s41, md_a42, md_s42, eX12_boughtFor, eX12_greater, eX12_hand, eX12_isKind, eX12_of, eX12_soldFor, eX12_bargain_l86, eX12_bargain_l56]
set_option maxRecDepth 100000 in
theorem eX12_bargain_l176 {ν : zM} {Y : Nat} {m18 : zMS} {x9_62 : Int32} {v11 : Int32} {v13 : Int32} {x7_68 : Int32} {x8_69 : Int32} {x10_70 : Int32}   (n : Nat) : zf3 (fX12_bargain_l176 (mdl ν Y m18) x9_62 v11 Y v13) n x7_68 x8_69 x10_70 = zf3 (gX12_bargain_l176 x9_62 v11 m18 v13) n x7_68 x8_69 x10_70 := by
  refine zf3_c (fun F71 G71 hF71 x7_68 x8_69 x10_70 => ?_) n x7_68 x8_69 x10_70
  simp only [fX12_bargain_l176, gX12_bargain_l176, zgd_t, zmap_ite, zmap_some, zmap_none, zmap_zb0, zmap_zni, zq2_k, zq3_k, zq4_k, zq5_k, zzb1_some, zzb2_some, zzb3_some, zzb4_some, zzb5_some, zzb6_some, zzb1_q, zzb2_q, zzb3_q, zzb4_q, zzb5_q, zmap_zb1, zmap_zb2, zmap_zb3, zmap_zb4, zmap_zb5, zmap_zb6, md_ck, md_g41, md_g42, md_p0, md_a41, md_s41, md_a42, md_s42, eX12_boughtFor, eX12_greater, eX12_hand, eX12_isKind, eX12_of, eX12_soldFor, eX12_bargain_l86, eX12_bargain_l56, eX12_bargain_b225, hF71]
set_option maxRecDepth 100000 in
theorem eX12_bargain_l166 {ν : zM} {Y : Nat} {m18 : zMS} {v11 : Int32} {v13 : Int32} {x7_60 : Int32} {x8_61 : Int32} {x9_62 : Int32}   (n : Nat) : zf3 (fX12_bargain_l166 (mdl ν Y m18) v11 Y v13) n x7_60 x8_61 x9_62 = zf3 (gX12_bargain_l166 v11 m18 v13) n x7_60 x8_61 x9_62 := by
  refine zf3_c (fun F63 G63 hF63 x7_60 x8_61 x9_62 => ?_) n x7_60 x8_61 x9_62
  simp only [fX12_bargain_l166, gX12_bargain_l166, zgd_t, zmap_ite, zmap_some, zmap_none, zmap_zb0, zmap_zni, zq2_k, zq3_k, zq4_k, zq5_k, zzb1_some, zzb2_some, zzb3_some, zzb4_some, zzb5_some, zzb6_some, zzb1_q, zzb2_q, zzb3_q, zzb4_q, zzb5_q, zmap_zb1, zmap_zb2, zmap_zb3, zmap_zb4, zmap_zb5, zmap_zb6, md_ck, md_g41, md_g42, md_p0, md_a41, md_s41, md_a42, md_s42, eX12_boughtFor, eX12_greater, eX12_hand, eX12_isKind, eX12_of, eX12_soldFor, eX12_bargain_l86, eX12_bargain_l56, eX12_bargain_b225, eX12_bargain_l176, hF63]
set_option maxRecDepth 100000 in
theorem eX12_bargain {ν : zM} {Y : Nat} {M : zMS} {x1 : Int32} {x2 : Int32} {x3 : Int32} {x4 : Int32}  : fX12_bargain (mdl ν Y M) Y x1 x2 x3 x4 = Option.map (zq2 (mdl ν Y)) (gX12_bargain M x1 x2 x3 x4) := by simp only [fX12_bargain, gX12_bargain, zgd_t, zmap_ite, zmap_some, zmap_none, zmap_zb0, zmap_zni, zq2_k, zq3_k, zq4_k, zq5_k, zzb1_some, zzb2_some, zzb3_some, zzb4_some, zzb5_some, zzb6_some, zzb1_q, zzb2_q, zzb3_q, zzb4_q, zzb5_q, zmap_zb1, zmap_zb2, zmap_zb3, zmap_zb4, zmap_zb5, zmap_zb6, md_ck, md_g41, md_g42, md_p0, md_a41, md_s41, md_a42, md_s42, eX12_boughtFor, eX12_greater, eX12_hand, eX12_isKind, eX12_of, eX12_soldFor, eX12_bargain_l86, eX12_bargain_l56, eX12_bargain_b225, eX12_bargain_l176, eX12_bargain_l166]
def gX12_heavy_l13 (M : zMS) (x2_1 : Int32) (F6 : Int32 → Int32 → Option (Int32)) (x3_4 : Int32) (x4_5 : Int32) : Option (Int32) :=
  if 8 ≤ x4_5 then (
  some x3_4)
  else (
  zb1 (gX12_of M (19 + x4_5)) fun v11 =>
  zb1 (gX12_of M (19 + x2_1)) fun v13 =>
  zb1 (if v13 < v11 then (
  some 1)
  else (
  zb1 (gX12_of M (19 + x4_5)) fun v17 =>
  zb1 (gX12_of M (19 + x2_1)) fun v19 =>
  if v17 = v19 then (
  if x2_1 ≤ x4_5 then (
  some 0)
  else (
  some 1))
  else (
  some 0)) : Option (Int32)) fun (s14 : Int32) =>
  F6 (x3_4 + s14) (x4_5 + 1))
def gX12_heavy_l2 (M : zMS) (x1 : Int32) (F2 : Int32 → Option (Int32)) (x2_1 : Int32) : Option (Int32) :=
  if 8 ≤ x2_1 then (
  some 0)
  else (
  zb1 (zf2 (gX12_heavy_l13 M x2_1) zfu 0 0 : Option (Int32)) fun (x3_8 : Int32) =>
  if x3_8 = x1 then (
  zb1 (gX12_of M (19 + x2_1)) fun v22 =>
  some v22)
  else (
  F2 (x2_1 + 1)))
def gX12_heavy (M : zMS) (x1 : Int32) : Option (Int32) :=
  zf1 (gX12_heavy_l2 M x1) zfu 0
set_option maxRecDepth 100000 in
theorem eX12_heavy_l13 {ν : zM} {Y : Nat} {M : zMS} {x2_1 : Int32} {x3_4 : Int32} {x4_5 : Int32}   (n : Nat) : zf2 (fX12_heavy_l13 (mdl ν Y M) Y x2_1) n x3_4 x4_5 = zf2 (gX12_heavy_l13 M x2_1) n x3_4 x4_5 := by
  refine zf2_c (fun F6 G6 hF6 x3_4 x4_5 => ?_) n x3_4 x4_5
  simp only [fX12_heavy_l13, gX12_heavy_l13, zgd_t, zmap_ite, zmap_some, zmap_none, zmap_zb0, zmap_zni, zq2_k, zq3_k, zq4_k, zq5_k, zzb1_some, zzb2_some, zzb3_some, zzb4_some, zzb5_some, zzb6_some, zzb1_q, zzb2_q, zzb3_q, zzb4_q, zzb5_q, zmap_zb1, zmap_zb2, zmap_zb3, zmap_zb4, zmap_zb5, zmap_zb6, md_ck, eX12_of, hF6]
set_option maxRecDepth 100000 in
theorem eX12_heavy_l2 {ν : zM} {Y : Nat} {M : zMS} {x1 : Int32} {x2_1 : Int32}   (n : Nat) : zf1 (fX12_heavy_l2 (mdl ν Y M) Y x1) n x2_1 = zf1 (gX12_heavy_l2 M x1) n x2_1 := by
  refine zf1_c (fun F2 G2 hF2 x2_1 => ?_) n x2_1
  simp only [fX12_heavy_l2, gX12_heavy_l2, zgd_t, zmap_ite, zmap_some, zmap_none, zmap_zb0, zmap_zni, zq2_k, zq3_k, zq4_k, zq5_k, zzb1_some, zzb2_some, zzb3_some, zzb4_some, zzb5_some, zzb6_some, zzb1_q, zzb2_q, zzb3_q, zzb4_q, zzb5_q, zmap_zb1, zmap_zb2, zmap_zb3, zmap_zb4, zmap_zb5, zmap_zb6, md_ck, eX12_of, eX12_heavy_l13, hF2]
set_option maxRecDepth 100000 in
theorem eX12_heavy {ν : zM} {Y : Nat} {M : zMS} {x1 : Int32}  : fX12_heavy (mdl ν Y M) Y x1 = gX12_heavy M x1 := by simp only [fX12_heavy, gX12_heavy, zgd_t, zmap_ite, zmap_some, zmap_none, zmap_zb0, zmap_zni, zq2_k, zq3_k, zq4_k, zq5_k, zzb1_some, zzb2_some, zzb3_some, zzb4_some, zzb5_some, zzb6_some, zzb1_q, zzb2_q, zzb3_q, zzb4_q, zzb5_q, zmap_zb1, zmap_zb2, zmap_zb3, zmap_zb4, zmap_zb5, zmap_zb6, md_ck, eX12_of, eX12_heavy_l13, eX12_heavy_l2]
def gX12_treeOf_l6 (x1 : Int32) (F3 : Int32 → zMS → Option (zMS)) (x3_1 : Int32) (m2 : zMS) : Option (zMS) :=
  if (1 <<< (x1 &&& 31)) < x3_1 then (
  some m2)
  else (
  zb1 (zas 1161 (m2.2.2 43) (1032 + x3_1) 0) fun f9 =>
  zb1 (some (zsA m2 43 f9)) fun M9 =>
  F3 (x3_1 + 1) M9)
def gX12_treeOf_l59 (x1 : Int32) (x5_20 : Int32) (m21 : zMS) (x3_12 : Int32) (v19 : Int32) (F28 : Int32 → Int32 → Option (Int32)) (x6_26 : Int32) (x7_27 : Int32) : Option (Int32) :=
  if x1 < x7_27 then (
  some x6_26)
  else (
  zb1 (if x5_20 < (((1 : Int32) <<< (x1 &&& 31)) >>> (x7_27 &&& 31)) then (
  some x6_26)
  else (
  zb1 (zag 1161 (m21.2.2 43) (((129 * (x3_12 + 1)) + x5_20) - (((1 : Int32) <<< (x1 &&& 31)) >>> (x7_27 &&& 31)))) fun v36 =>
  zb1 (gX12_lesser x6_26 ((x7_27 * v19) + v36)) fun v39 =>
  some v39) : Option (Int32)) fun (s32 : Int32) =>
  F28 s32 (x7_27 + 1))
def gX12_treeOf_l45 (x1 : Int32) (x3_12 : Int32) (v19 : Int32) (F22 : Int32 → zMS → Option (zMS)) (x5_20 : Int32) (m21 : zMS) : Option (zMS) :=
  if (1 <<< (x1 &&& 31)) < x5_20 then (
  some m21)
  else (
  zb1 (zf2 (gX12_treeOf_l59 x1 x5_20 m21 x3_12 v19) zfu 1000000 1 : Option (Int32)) fun (x6_30 : Int32) =>
  zb1 (zas 1161 (m21.2.2 43) ((129 * x3_12) + x5_20) x6_30) fun f43 =>
  zb1 (some (zsA m21 43 f43)) fun M43 =>
  F22 (x5_20 + 1) M43)
def gX12_treeOf_l31 (x1 : Int32) (F14 : Int32 → zMS → Option (zMS)) (x3_12 : Int32) (m13 : zMS) : Option (zMS) :=
  if x3_12 < 0 then (
  some m13)
  else (
  zb1 (gX12_heavy m13 x3_12) fun v19 =>
  zb1 (zf2 (gX12_treeOf_l45 x1 x3_12 v19) zfu 0 m13 : Option (zMS)) fun (m24 : zMS) =>
  F14 (x3_12 + (-1)) m24)
def gX12_treeOf (M : zMS) (x1 : Int32) : Option (Int32 × zMS) :=
  zb1 (zf2 (gX12_treeOf_l6 x1) zfu 0 M : Option (zMS)) fun (m5 : zMS) =>
  zb1 (zf2 (gX12_treeOf_l31 x1) zfu 7 m5 : Option (zMS)) fun (m16 : zMS) =>
  zb1 (zag 1161 (m16.2.2 43) (1 <<< (x1 &&& 31))) fun v49 =>
  some (v49, m16)
set_option maxRecDepth 100000 in
theorem eX12_treeOf_l6 {ν : zM} {Y : Nat} {x1 : Int32} {x3_1 : Int32} {m2 : zMS}   (n : Nat) : zf2 (fX12_treeOf_l6 x1 Y) n x3_1 (mdl ν Y m2) = Option.map (mdl ν Y) (zf2 (gX12_treeOf_l6 x1) n x3_1 m2) := by
  refine zf2_m (fun F3 G3 hF3 x3_1 m2 => ?_) n x3_1 m2
  simp only [fX12_treeOf_l6, gX12_treeOf_l6, zgd_t, zmap_ite, zmap_some, zmap_none, zmap_zb0, zmap_zni, zq2_k, zq3_k, zq4_k, zq5_k, zzb1_some, zzb2_some, zzb3_some, zzb4_some, zzb5_some, zzb6_some, zzb1_q, zzb2_q, zzb3_q, zzb4_q, zzb5_q, zmap_zb1, zmap_zb2, zmap_zb3, zmap_zb4, zmap_zb5, zmap_zb6, md_ck, md_g43, md_a43, md_s43, eX12_heavy, eX12_lesser, hF3]
set_option maxRecDepth 100000 in
theorem eX12_treeOf_l59 {ν : zM} {Y : Nat} {x1 : Int32} {x5_20 : Int32} {m21 : zMS} {x3_12 : Int32} {v19 : Int32} {x6_26 : Int32} {x7_27 : Int32}   (n : Nat) : zf2 (fX12_treeOf_l59 x1 x5_20 (mdl ν Y m21) Y x3_12 v19) n x6_26 x7_27 = zf2 (gX12_treeOf_l59 x1 x5_20 m21 x3_12 v19) n x6_26 x7_27 := by
  refine zf2_c (fun F28 G28 hF28 x6_26 x7_27 => ?_) n x6_26 x7_27
  simp only [fX12_treeOf_l59, gX12_treeOf_l59, zgd_t, zmap_ite, zmap_some, zmap_none, zmap_zb0, zmap_zni, zq2_k, zq3_k, zq4_k, zq5_k, zzb1_some, zzb2_some, zzb3_some, zzb4_some, zzb5_some, zzb6_some, zzb1_q, zzb2_q, zzb3_q, zzb4_q, zzb5_q, zmap_zb1, zmap_zb2, zmap_zb3, zmap_zb4, zmap_zb5, zmap_zb6, md_ck, md_g43, md_a43, md_s43, eX12_heavy, eX12_lesser, eX12_treeOf_l6, hF28]
set_option maxRecDepth 100000 in
theorem eX12_treeOf_l45 {ν : zM} {Y : Nat} {x1 : Int32} {x3_12 : Int32} {v19 : Int32} {x5_20 : Int32} {m21 : zMS}   (n : Nat) : zf2 (fX12_treeOf_l45 x1 Y x3_12 v19) n x5_20 (mdl ν Y m21) = Option.map (mdl ν Y) (zf2 (gX12_treeOf_l45 x1 x3_12 v19) n x5_20 m21) := by
  refine zf2_m (fun F22 G22 hF22 x5_20 m21 => ?_) n x5_20 m21
  simp only [fX12_treeOf_l45, gX12_treeOf_l45, zgd_t, zmap_ite, zmap_some, zmap_none, zmap_zb0, zmap_zni, zq2_k, zq3_k, zq4_k, zq5_k, zzb1_some, zzb2_some, zzb3_some, zzb4_some, zzb5_some, zzb6_some, zzb1_q, zzb2_q, zzb3_q, zzb4_q, zzb5_q, zmap_zb1, zmap_zb2, zmap_zb3, zmap_zb4, zmap_zb5, zmap_zb6, md_ck, md_g43, md_a43, md_s43, eX12_heavy, eX12_lesser, eX12_treeOf_l6, eX12_treeOf_l59, hF22]
set_option maxRecDepth 100000 in
theorem eX12_treeOf_l31 {ν : zM} {Y : Nat} {x1 : Int32} {x3_12 : Int32} {m13 : zMS}   (n : Nat) : zf2 (fX12_treeOf_l31 Y x1) n x3_12 (mdl ν Y m13) = Option.map (mdl ν Y) (zf2 (gX12_treeOf_l31 x1) n x3_12 m13) := by
  refine zf2_m (fun F14 G14 hF14 x3_12 m13 => ?_) n x3_12 m13
  simp only [fX12_treeOf_l31, gX12_treeOf_l31, zgd_t, zmap_ite, zmap_some, zmap_none, zmap_zb0, zmap_zni, zq2_k, zq3_k, zq4_k, zq5_k, zzb1_some, zzb2_some, zzb3_some, zzb4_some, zzb5_some, zzb6_some, zzb1_q, zzb2_q, zzb3_q, zzb4_q, zzb5_q, zmap_zb1, zmap_zb2, zmap_zb3, zmap_zb4, zmap_zb5, zmap_zb6, md_ck, md_g43, md_a43, md_s43, eX12_heavy, eX12_lesser, eX12_treeOf_l6, eX12_treeOf_l59, eX12_treeOf_l45, hF14]
set_option maxRecDepth 100000 in
theorem eX12_treeOf {ν : zM} {Y : Nat} {M : zMS} {x1 : Int32}  : fX12_treeOf (mdl ν Y M) Y x1 = Option.map (zq2 (mdl ν Y)) (gX12_treeOf M x1) := by simp only [fX12_treeOf, gX12_treeOf, zgd_t, zmap_ite, zmap_some, zmap_none, zmap_zb0, zmap_zni, zq2_k, zq3_k, zq4_k, zq5_k, zzb1_some, zzb2_some, zzb3_some, zzb4_some, zzb5_some, zzb6_some, zzb1_q, zzb2_q, zzb3_q, zzb4_q, zzb5_q, zmap_zb1, zmap_zb2, zmap_zb3, zmap_zb4, zmap_zb5, zmap_zb6, md_ck, md_g43, md_a43, md_s43, eX12_heavy, eX12_lesser, eX12_treeOf_l6, eX12_treeOf_l59, eX12_treeOf_l45, eX12_treeOf_l31]
def gX12_talk_b30 (x2 : Int32) (M4 : zMS) : Option (Int32 × zMS) :=
  zb1 (if x2 = (-1) then (
  some 7)
  else (
  some x2) : Option (Int32)) fun (s6 : Int32) =>
  zb2 (gX12_treeOf M4 s6) fun v10 M9 =>
  some (v10, M9)
def gX12_talk (M : zMS) (x1 : Int32) (x2 : Int32) : Option (Int32 × zMS) :=
  zb1 (some (zsI M 0 0)) fun M1 =>
  zb2 (gX12_hand M1 x1) fun v5 M4 =>
  if v5 = 0 then (
  some ((-1), M4))
  else (
  if x2 = (-1) then (
  gX12_talk_b30 x2 M4)
  else (
  zb1 (gX12_in x2 3 7) fun v13 =>
  if v13 = 0 then (
  some ((-1), M4))
  else (
  gX12_talk_b30 x2 M4)))
set_option maxRecDepth 100000 in
theorem eX12_talk_b30 {ν : zM} {Y : Nat} {x2 : Int32} {m4 : zMS}   : fX12_talk_b30 x2 (mdl ν Y m4) Y  = Option.map (zq2 (mdl ν Y)) (gX12_talk_b30 x2 m4 ) := by simp only [fX12_talk_b30, gX12_talk_b30, zgd_t, zmap_ite, zmap_some, zmap_none, zmap_zb0, zmap_zni, zq2_k, zq3_k, zq4_k, zq5_k, zzb1_some, zzb2_some, zzb3_some, zzb4_some, zzb5_some, zzb6_some, zzb1_q, zzb2_q, zzb3_q, zzb4_q, zzb5_q, zmap_zb1, zmap_zb2, zmap_zb3, zmap_zb4, zmap_zb5, zmap_zb6, md_ck, md_p0, eX12_hand, eX12_in, eX12_treeOf]
set_option maxRecDepth 100000 in
theorem eX12_talk {ν : zM} {Y : Nat} {M : zMS} {x1 : Int32} {x2 : Int32}  : fX12_talk (mdl ν Y M) Y x1 x2 = Option.map (zq2 (mdl ν Y)) (gX12_talk M x1 x2) := by simp only [fX12_talk, gX12_talk, zgd_t, zmap_ite, zmap_some, zmap_none, zmap_zb0, zmap_zni, zq2_k, zq3_k, zq4_k, zq5_k, zzb1_some, zzb2_some, zzb3_some, zzb4_some, zzb5_some, zzb6_some, zzb1_q, zzb2_q, zzb3_q, zzb4_q, zzb5_q, zmap_zb1, zmap_zb2, zmap_zb3, zmap_zb4, zmap_zb5, zmap_zb6, md_ck, md_p0, eX12_hand, eX12_in, eX12_treeOf, eX12_talk_b30]
def gX12_lessonOf (M : zMS) (x1 : Int32) : Option (Int32) :=
  zb1 (zag 176 (M.2.2 8) ((22 * (M.1 44)) + x1)) fun v5 =>
  some v5
set_option maxRecDepth 100000 in
theorem eX12_lessonOf {ν : zM} {Y : Nat} {M : zMS} {x1 : Int32}  : fX12_lessonOf (mdl ν Y M) Y x1 = gX12_lessonOf M x1 := by simp only [fX12_lessonOf, gX12_lessonOf, zgd_t, zmap_ite, zmap_some, zmap_none, zmap_zb0, zmap_zni, zq2_k, zq3_k, zq4_k, zq5_k, zzb1_some, zzb2_some, zzb3_some, zzb4_some, zzb5_some, zzb6_some, zzb1_q, zzb2_q, zzb3_q, zzb4_q, zzb5_q, zmap_zb1, zmap_zb2, zmap_zb3, zmap_zb4, zmap_zb5, zmap_zb6, md_ck, md_g8, md_g44, md_a8, md_s8]
def gX12_hasLesson (M : zMS) (x1 : Int32) : Option (Int32 × zMS) :=
  zb1 (some (zsI M 44 x1)) fun M1 =>
  zb1 (gX12_is M1 2 x1) fun v4 =>
  zb1 (zbz v4) fun v5 =>
  some (v5, M1)
set_option maxRecDepth 100000 in
theorem eX12_hasLesson {ν : zM} {Y : Nat} {M : zMS} {x1 : Int32}  : fX12_hasLesson (mdl ν Y M) Y x1 = Option.map (zq2 (mdl ν Y)) (gX12_hasLesson M x1) := by simp only [fX12_hasLesson, gX12_hasLesson, zgd_t, zmap_ite, zmap_some, zmap_none, zmap_zb0, zmap_zni, zq2_k, zq3_k, zq4_k, zq5_k, zzb1_some, zzb2_some, zzb3_some, zzb4_some, zzb5_some, zzb6_some, zzb1_q, zzb2_q, zzb3_q, zzb4_q, zzb5_q, zmap_zb1, zmap_zb2, zmap_zb3, zmap_zb4, zmap_zb5, zmap_zb6, md_ck, md_p44, eX12_is]
def gX12_lesson (M : zMS) (x1 : Int32) (x2 : Int32) : Option (Int32 × zMS) :=
  zb1 (some (zsI M 0 0)) fun M1 =>
  zb2 (gX12_hasLesson M1 x1) fun v5 M4 =>
  if v5 = 0 then (
  some ((-1), M4))
  else (
  zb1 (gX12_in x2 10 29) fun v7 =>
  if v7 = 0 then (
  zb1 (gX12_in x2 0 1) fun v9 =>
  zb1 (if v9 = 0 then (
  some (-1))
  else (
  zb1 (gX12_lessonOf M4 x2) fun v13 =>
  some v13) : Option (Int32)) fun (s10 : Int32) =>
  some (s10, M4))
  else (
  zb1 (gX12_lessonOf M4 1) fun v15 =>
  zb1 (if v15 ≤ (x2 - x2 / 10 * 10) then (
  some (-1))
  else (
  zb1 (gX12_lessonOf M4 ((2 + (2 * (x2 - x2 / 10 * 10))) + (x2 / 20))) fun v19 =>
  some v19) : Option (Int32)) fun (s16 : Int32) =>
  some (s16, M4)))
set_option maxRecDepth 100000 in
theorem eX12_lesson {ν : zM} {Y : Nat} {M : zMS} {x1 : Int32} {x2 : Int32}  : fX12_lesson (mdl ν Y M) Y x1 x2 = Option.map (zq2 (mdl ν Y)) (gX12_lesson M x1 x2) := by simp only [fX12_lesson, gX12_lesson, zgd_t, zmap_ite, zmap_some, zmap_none, zmap_zb0, zmap_zni, zq2_k, zq3_k, zq4_k, zq5_k, zzb1_some, zzb2_some, zzb3_some, zzb4_some, zzb5_some, zzb6_some, zzb1_q, zzb2_q, zzb3_q, zzb4_q, zzb5_q, zmap_zb1, zmap_zb2, zmap_zb3, zmap_zb4, zmap_zb5, zmap_zb6, md_ck, md_p0, eX12_hasLesson, eX12_in, eX12_lessonOf]
def gX12_ruled  (x0 : Int32) (x1 : Int32) : Option (Int32) :=
  some ((((x0 / 8) * x1) + x0) - (((x0 / 8) * x1) + x0) / 8 * 8)
set_option maxRecDepth 100000 in
theorem eX12_ruled {μ : zM} {x0 : Int32} {x1 : Int32} : fX12_ruled μ x0 x1 = gX12_ruled x0 x1 := by simp only [fX12_ruled, gX12_ruled, zgd_t, zmap_ite, zmap_some, zmap_none, zmap_zb0, zmap_zni, zq2_k, zq3_k, zq4_k, zq5_k, zzb1_some, zzb2_some, zzb3_some, zzb4_some, zzb5_some, zzb6_some, zzb1_q, zzb2_q, zzb3_q, zzb4_q, zzb5_q, zmap_zb1, zmap_zb2, zmap_zb3, zmap_zb4, zmap_zb5, zmap_zb6, md_ck]
def gX12_wrongs_l4 (M : zMS) (x1 : Int32) (F3 : Int32 → Int32 → Option (Int32)) (x2_1 : Int32) (x3_2 : Int32) : Option (Int32) :=
  zb1 (gX12_lessonOf M 1) fun v8 =>
  if v8 ≤ x3_2 then (
  some x2_1)
  else (
  zb1 (gX12_lessonOf M (2 + (2 * x3_2))) fun v10 =>
  zb1 (gX12_ruled x1 v10) fun v12 =>
  zb1 (gX12_lessonOf M (3 + (2 * x3_2))) fun v14 =>
  zb1 (if v12 = v14 then (
  some 0)
  else (
  some 1) : Option (Int32)) fun (s15 : Int32) =>
  F3 (x2_1 + s15) (x3_2 + 1))
def gX12_wrongs (M : zMS) (x1 : Int32) : Option (Int32) :=
  zb1 (zf2 (gX12_wrongs_l4 M x1) zfu 0 0 : Option (Int32)) fun (x2_5 : Int32) =>
  some x2_5
set_option maxRecDepth 100000 in
theorem eX12_wrongs_l4 {ν : zM} {Y : Nat} {M : zMS} {x1 : Int32} {x2_1 : Int32} {x3_2 : Int32}   (n : Nat) : zf2 (fX12_wrongs_l4 (mdl ν Y M) Y x1) n x2_1 x3_2 = zf2 (gX12_wrongs_l4 M x1) n x2_1 x3_2 := by
  refine zf2_c (fun F3 G3 hF3 x2_1 x3_2 => ?_) n x2_1 x3_2
  simp only [fX12_wrongs_l4, gX12_wrongs_l4, zgd_t, zmap_ite, zmap_some, zmap_none, zmap_zb0, zmap_zni, zq2_k, zq3_k, zq4_k, zq5_k, zzb1_some, zzb2_some, zzb3_some, zzb4_some, zzb5_some, zzb6_some, zzb1_q, zzb2_q, zzb3_q, zzb4_q, zzb5_q, zmap_zb1, zmap_zb2, zmap_zb3, zmap_zb4, zmap_zb5, zmap_zb6, md_ck, eX12_lessonOf, eX12_ruled, hF3]
set_option maxRecDepth 100000 in
theorem eX12_wrongs {ν : zM} {Y : Nat} {M : zMS} {x1 : Int32}  : fX12_wrongs (mdl ν Y M) Y x1 = gX12_wrongs M x1 := by simp only [fX12_wrongs, gX12_wrongs, zgd_t, zmap_ite, zmap_some, zmap_none, zmap_zb0, zmap_zni, zq2_k, zq3_k, zq4_k, zq5_k, zzb1_some, zzb2_some, zzb3_some, zzb4_some, zzb5_some, zzb6_some, zzb1_q, zzb2_q, zzb3_q, zzb4_q, zzb5_q, zmap_zb1, zmap_zb2, zmap_zb3, zmap_zb4, zmap_zb5, zmap_zb6, md_ck, eX12_lessonOf, eX12_ruled, eX12_wrongs_l4]
def gX12_fits (M : zMS) (x1 : Int32) : Option (Int32) :=
  zb1 (gX12_wrongs M x1) fun v2 =>
  zb1 (gX12_lessonOf M 0) fun v4 =>
  zb1 (if v4 < v2 then (
  some 0)
  else (
  some 1) : Option (Int32)) fun (s5 : Int32) =>
  zb1 (zbz s5) fun v7 =>
  some v7
set_option maxRecDepth 100000 in
theorem eX12_fits {ν : zM} {Y : Nat} {M : zMS} {x1 : Int32}  : fX12_fits (mdl ν Y M) Y x1 = gX12_fits M x1 := by simp only [fX12_fits, gX12_fits, zgd_t, zmap_ite, zmap_some, zmap_none, zmap_zb0, zmap_zni, zq2_k, zq3_k, zq4_k, zq5_k, zzb1_some, zzb2_some, zzb3_some, zzb4_some, zzb5_some, zzb6_some, zzb1_q, zzb2_q, zzb3_q, zzb4_q, zzb5_q, zmap_zb1, zmap_zb2, zmap_zb3, zmap_zb4, zmap_zb5, zmap_zb6, md_ck, eX12_lessonOf, eX12_wrongs]
def gX12_findGroups_l2  (F3 : Int32 → zMS → Option (zMS)) (x2_1 : Int32) (m2 : zMS) : Option (zMS) :=
  if 8 ≤ x2_1 then (
  some m2)
  else (
  zb1 (zas 8 (m2.2.2 45) x2_1 0) fun f9 =>
  zb1 (some (zsA m2 45 f9)) fun M9 =>
  F3 (x2_1 + 1) M9)
def gX12_findGroups_l23 (x1 : Int32) (F14 : Int32 → zMS → Option (zMS)) (x2_12 : Int32) (m13 : zMS) : Option (zMS) :=
  if 64 ≤ x2_12 then (
  some m13)
  else (
  zb1 (gX12_ruled x2_12 x1) fun v21 =>
  zb1 (zag 8 (m13.2.2 45) v21) fun v22 =>
  zb1 (gX12_fits m13 x2_12) fun v25 =>
  zb1 (if v25 = 0 then (
  some 0)
  else (
  some 1) : Option (Int32)) fun (s26 : Int32) =>
  zb1 (zas 8 (m13.2.2 45) v21 (v22 + s26)) fun f28 =>
  zb1 (some (zsA m13 45 f28)) fun M28 =>
  F14 (x2_12 + 1) M28)
def gX12_findGroups (M : zMS) (x1 : Int32) : Option (zMS) :=
  zb1 (zf2 gX12_findGroups_l2 zfu 0 M : Option (zMS)) fun (m5 : zMS) =>
  zb1 (zf2 (gX12_findGroups_l23 x1) zfu 0 m5 : Option (zMS)) fun (m16 : zMS) =>
  some m16
set_option maxRecDepth 100000 in
theorem eX12_findGroups_l2 {ν : zM} {Y : Nat} {x2_1 : Int32} {m2 : zMS}   (n : Nat) : zf2 (fX12_findGroups_l2 Y) n x2_1 (mdl ν Y m2) = Option.map (mdl ν Y) (zf2 gX12_findGroups_l2 n x2_1 m2) := by
  refine zf2_m (fun F3 G3 hF3 x2_1 m2 => ?_) n x2_1 m2
  simp only [fX12_findGroups_l2, gX12_findGroups_l2, zgd_t, zmap_ite, zmap_some, zmap_none, zmap_zb0, zmap_zni, zq2_k, zq3_k, zq4_k, zq5_k, zzb1_some, zzb2_some, zzb3_some, zzb4_some, zzb5_some, zzb6_some, zzb1_q, zzb2_q, zzb3_q, zzb4_q, zzb5_q, zmap_zb1, zmap_zb2, zmap_zb3, zmap_zb4, zmap_zb5, zmap_zb6, md_ck, md_g45, md_a45, md_s45, eX12_fits, eX12_ruled, hF3]
set_option maxRecDepth 100000 in
theorem eX12_findGroups_l23 {ν : zM} {Y : Nat} {x1 : Int32} {x2_12 : Int32} {m13 : zMS}   (n : Nat) : zf2 (fX12_findGroups_l23 Y x1) n x2_12 (mdl ν Y m13) = Option.map (mdl ν Y) (zf2 (gX12_findGroups_l23 x1) n x2_12 m13) := by
  refine zf2_m (fun F14 G14 hF14 x2_12 m13 => ?_) n x2_12 m13
  simp only [fX12_findGroups_l23, gX12_findGroups_l23, zgd_t, zmap_ite, zmap_some, zmap_none, zmap_zb0, zmap_zni, zq2_k, zq3_k, zq4_k, zq5_k, zzb1_some, zzb2_some, zzb3_some, zzb4_some, zzb5_some, zzb6_some, zzb1_q, zzb2_q, zzb3_q, zzb4_q, zzb5_q, zmap_zb1, zmap_zb2, zmap_zb3, zmap_zb4, zmap_zb5, zmap_zb6, md_ck, md_g45, md_a45, md_s45, eX12_fits, eX12_ruled, eX12_findGroups_l2, hF14]
set_option maxRecDepth 100000 in
theorem eX12_findGroups {ν : zM} {Y : Nat} {M : zMS} {x1 : Int32}  : fX12_findGroups (mdl ν Y M) Y x1 = Option.map (mdl ν Y) (gX12_findGroups M x1) := by simp only [fX12_findGroups, gX12_findGroups, zgd_t, zmap_ite, zmap_some, zmap_none, zmap_zb0, zmap_zni, zq2_k, zq3_k, zq4_k, zq5_k, zzb1_some, zzb2_some, zzb3_some, zzb4_some, zzb5_some, zzb6_some, zzb1_q, zzb2_q, zzb3_q, zzb4_q, zzb5_q, zmap_zb1, zmap_zb2, zmap_zb3, zmap_zb4, zmap_zb5, zmap_zb6, md_ck, md_g45, md_a45, md_s45, eX12_fits, eX12_ruled, eX12_findGroups_l2, eX12_findGroups_l23]
def gX12_largest_l9 (M2 : zMS) (F5 : Int32 → Int32 → Option (Int32)) (x2_3 : Int32) (x3_4 : Int32) : Option (Int32) :=
  if 8 ≤ x3_4 then (
  some x2_3)
  else (
  zb1 (zag 8 (M2.2.2 45) x3_4) fun v11 =>
  zb1 (gX12_greater x2_3 v11) fun v14 =>
  F5 v14 (x3_4 + 1))
def gX12_largest (M : zMS) (x1 : Int32) : Option (Int32 × zMS) :=
  zb1 (gX12_findGroups M x1) fun M2 =>
  zb1 (zf2 (gX12_largest_l9 M2) zfu 0 0 : Option (Int32)) fun (x2_7 : Int32) =>
  some (x2_7, M2)
set_option maxRecDepth 100000 in
theorem eX12_largest_l9 {ν : zM} {Y : Nat} {m2 : zMS} {x2_3 : Int32} {x3_4 : Int32}   (n : Nat) : zf2 (fX12_largest_l9 (mdl ν Y m2) Y) n x2_3 x3_4 = zf2 (gX12_largest_l9 m2) n x2_3 x3_4 := by
  refine zf2_c (fun F5 G5 hF5 x2_3 x3_4 => ?_) n x2_3 x3_4
  simp only [fX12_largest_l9, gX12_largest_l9, zgd_t, zmap_ite, zmap_some, zmap_none, zmap_zb0, zmap_zni, zq2_k, zq3_k, zq4_k, zq5_k, zzb1_some, zzb2_some, zzb3_some, zzb4_some, zzb5_some, zzb6_some, zzb1_q, zzb2_q, zzb3_q, zzb4_q, zzb5_q, zmap_zb1, zmap_zb2, zmap_zb3, zmap_zb4, zmap_zb5, zmap_zb6, md_ck, md_g45, md_a45, md_s45, eX12_findGroups, eX12_greater, hF5]
set_option maxRecDepth 100000 in
theorem eX12_largest {ν : zM} {Y : Nat} {M : zMS} {x1 : Int32}  : fX12_largest (mdl ν Y M) Y x1 = Option.map (zq2 (mdl ν Y)) (gX12_largest M x1) := by simp only [fX12_largest, gX12_largest, zgd_t, zmap_ite, zmap_some, zmap_none, zmap_zb0, zmap_zni, zq2_k, zq3_k, zq4_k, zq5_k, zzb1_some, zzb2_some, zzb3_some, zzb4_some, zzb5_some, zzb6_some, zzb1_q, zzb2_q, zzb3_q, zzb4_q, zzb5_q, zmap_zb1, zmap_zb2, zmap_zb3, zmap_zb4, zmap_zb5, zmap_zb6, md_ck, md_g45, md_a45, md_s45, eX12_findGroups, eX12_greater, eX12_largest_l9]
def gX12_comesOf_l7 (M2 : zMS) (x2 : Int32) (F4 : Int32 → Option (Int32 × zMS)) (x3_3 : Int32) : Option (Int32 × zMS) :=
  if 8 ≤ x3_3 then (
  some ((-1), M2))
  else (
  zb1 (zag 8 (M2.2.2 45) x3_3) fun v8 =>
  if v8 = x2 then (
  some (x3_3, M2))
  else (
  F4 (x3_3 + 1)))
def gX12_comesOf (M : zMS) (x1 : Int32) (x2 : Int32) : Option (Int32 × zMS) :=
  zb1 (gX12_findGroups M x1) fun M2 =>
  zf1 (gX12_comesOf_l7 M2 x2) zfu 0
set_option maxRecDepth 100000 in
theorem eX12_comesOf_l7 {ν : zM} {Y : Nat} {m2 : zMS} {x2 : Int32} {x3_3 : Int32}   (n : Nat) : zf1 (fX12_comesOf_l7 (mdl ν Y m2) Y x2) n x3_3 = Option.map (zq2 (mdl ν Y)) (zf1 (gX12_comesOf_l7 m2 x2) n x3_3) := by
  refine zf1_p (fun F4 G4 hF4 x3_3 => ?_) n x3_3
  simp only [fX12_comesOf_l7, gX12_comesOf_l7, zgd_t, zmap_ite, zmap_some, zmap_none, zmap_zb0, zmap_zni, zq2_k, zq3_k, zq4_k, zq5_k, zzb1_some, zzb2_some, zzb3_some, zzb4_some, zzb5_some, zzb6_some, zzb1_q, zzb2_q, zzb3_q, zzb4_q, zzb5_q, zmap_zb1, zmap_zb2, zmap_zb3, zmap_zb4, zmap_zb5, zmap_zb6, md_ck, md_g45, md_a45, md_s45, eX12_findGroups, hF4]
set_option maxRecDepth 100000 in
theorem eX12_comesOf {ν : zM} {Y : Nat} {M : zMS} {x1 : Int32} {x2 : Int32}  : fX12_comesOf (mdl ν Y M) Y x1 x2 = Option.map (zq2 (mdl ν Y)) (gX12_comesOf M x1 x2) := by simp only [fX12_comesOf, gX12_comesOf, zgd_t, zmap_ite, zmap_some, zmap_none, zmap_zb0, zmap_zni, zq2_k, zq3_k, zq4_k, zq5_k, zzb1_some, zzb2_some, zzb3_some, zzb4_some, zzb5_some, zzb6_some, zzb1_q, zzb2_q, zzb3_q, zzb4_q, zzb5_q, zmap_zb1, zmap_zb2, zmap_zb3, zmap_zb4, zmap_zb5, zmap_zb6, md_ck, md_g45, md_a45, md_s45, eX12_findGroups, eX12_comesOf_l7]
def gX12_rules_l44 (M4 : zMS) (F11 : Int32 → Int32 → Int32 → Option (Int32 × Int32)) (x3_8 : Int32) (x4_9 : Int32) (x5_10 : Int32) : Option (Int32 × Int32) :=
  if 64 ≤ x5_10 then (
  some (x3_8, x4_9))
  else (
  zb1 (gX12_fits M4 x5_10) fun v17 =>
  zb1 (if v17 = 0 then (
  some 0)
  else (
  some 1) : Option (Int32)) fun (s18 : Int32) =>
  zb1 (gX12_wrongs M4 x5_10) fun v21 =>
  zb1 (gX12_wrongs M4 x4_9) fun v23 =>
  zb1 (if v23 ≤ v21 then (
  some x4_9)
  else (
  some x5_10) : Option (Int32)) fun (s24 : Int32) =>
  F11 (x3_8 + s18) s24 (x5_10 + 1))
def gX12_rules_l155  (F30 : Int32 → Int32 → zMS → Option (Int32 × zMS)) (x5_27 : Int32) (x6_28 : Int32) (m29 : zMS) : Option (Int32 × zMS) :=
  if 8 ≤ x6_28 then (
  some (x5_27, m29))
  else (
  zb2 (gX12_largest m29 x6_28) fun v37 M36 =>
  zb2 (gX12_largest M36 x5_27) fun v40 M39 =>
  zb1 (if v40 ≤ v37 then (
  some x5_27)
  else (
  some x6_28) : Option (Int32)) fun (s41 : Int32) =>
  F30 s41 (x6_28 + 1) M39)
def gX12_rules_b36 (M4 : zMS) (x2 : Int32) : Option (Int32 × zMS) :=
  zb2 (zf3 (gX12_rules_l44 M4) zfu 0 0 0 : Option (Int32 × Int32)) fun (x3_13 : Int32) (x4_14 : Int32) =>
  if 3 ≤ x2 then (
  if x3_13 = 0 then (
  some ((-1), M4))
  else (
  if x2 ≤ 3 then (
  zb2 (zf3 gX12_rules_l155 zfu 0 1 M4 : Option (Int32 × zMS)) fun (x5_32 : Int32) (m33 : zMS) =>
  some (x5_32, m33))
  else (
  zb2 (gX12_comesOf M4 (x2 - 10) x3_13) fun v46 M45 =>
  some (v46, M45))))
  else (
  zb1 (if x2 = 0 then (
  some x3_13)
  else (
  if x2 = 1 then (
  zb1 (gX12_wrongs M4 x4_14) fun v50 =>
  some v50)
  else (
  some x4_14)) : Option (Int32)) fun (s47 : Int32) =>
  some (s47, M4))
def gX12_rules (M : zMS) (x1 : Int32) (x2 : Int32) : Option (Int32 × zMS) :=
  zb1 (some (zsI M 0 0)) fun M1 =>
  zb2 (gX12_hasLesson M1 x1) fun v5 M4 =>
  if v5 = 0 then (
  some ((-2), M4))
  else (
  zb1 (gX12_in x2 0 3) fun v7 =>
  if v7 = 0 then (
  zb1 (gX12_in x2 10 17) fun v53 =>
  if v53 = 0 then (
  some ((-2), M4))
  else (
  gX12_rules_b36 M4 x2))
  else (
  gX12_rules_b36 M4 x2))
set_option maxRecDepth 100000 in
theorem eX12_rules_l44 {ν : zM} {Y : Nat} {m4 : zMS} {x3_8 : Int32} {x4_9 : Int32} {x5_10 : Int32}   (n : Nat) : zf3 (fX12_rules_l44 (mdl ν Y m4) Y) n x3_8 x4_9 x5_10 = zf3 (gX12_rules_l44 m4) n x3_8 x4_9 x5_10 := by
  refine zf3_c (fun F11 G11 hF11 x3_8 x4_9 x5_10 => ?_) n x3_8 x4_9 x5_10
  simp only [fX12_rules_l44, gX12_rules_l44, zgd_t, zmap_ite, zmap_some, zmap_none, zmap_zb0, zmap_zni, zq2_k, zq3_k, zq4_k, zq5_k, zzb1_some, zzb2_some, zzb3_some, zzb4_some, zzb5_some, zzb6_some, zzb1_q, zzb2_q, zzb3_q, zzb4_q, zzb5_q, zmap_zb1, zmap_zb2, zmap_zb3, zmap_zb4, zmap_zb5, zmap_zb6, md_ck, md_p0, eX12_comesOf, eX12_fits, eX12_hasLesson, eX12_in, eX12_largest, eX12_wrongs, hF11]
set_option maxRecDepth 100000 in
theorem eX12_rules_l155 {ν : zM} {Y : Nat} {x5_27 : Int32} {x6_28 : Int32} {m29 : zMS}   (n : Nat) : zf3 (fX12_rules_l155 Y) n x5_27 x6_28 (mdl ν Y m29) = Option.map (zq2 (mdl ν Y)) (zf3 gX12_rules_l155 n x5_27 x6_28 m29) := by
  refine zf3_m (fun F30 G30 hF30 x5_27 x6_28 m29 => ?_) n x5_27 x6_28 m29
  simp only [fX12_rules_l155, gX12_rules_l155, zgd_t, zmap_ite, zmap_some, zmap_none, zmap_zb0, zmap_zni, zq2_k, zq3_k, zq4_k, zq5_k, zzb1_some, zzb2_some, zzb3_some, zzb4_some, zzb5_some, zzb6_some, zzb1_q, zzb2_q, zzb3_q, zzb4_q, zzb5_q, zmap_zb1, zmap_zb2, zmap_zb3, zmap_zb4, zmap_zb5, zmap_zb6, md_ck, md_p0, eX12_comesOf, eX12_fits, eX12_hasLesson, eX12_in, eX12_largest, eX12_wrongs, eX12_rules_l44, hF30]
set_option maxRecDepth 100000 in
theorem eX12_rules_b36 {ν : zM} {Y : Nat} {m4 : zMS} {x2 : Int32}   : fX12_rules_b36 (mdl ν Y m4) Y x2  = Option.map (zq2 (mdl ν Y)) (gX12_rules_b36 m4 x2 ) := by simp only [fX12_rules_b36, gX12_rules_b36, zgd_t, zmap_ite, zmap_some, zmap_none, zmap_zb0, zmap_zni, zq2_k, zq3_k, zq4_k, zq5_k, zzb1_some, zzb2_some, zzb3_some, zzb4_some, zzb5_some, zzb6_some, zzb1_q, zzb2_q, zzb3_q, zzb4_q, zzb5_q, zmap_zb1, zmap_zb2, zmap_zb3, zmap_zb4, zmap_zb5, zmap_zb6, md_ck, md_p0, eX12_comesOf, eX12_fits, eX12_hasLesson, eX12_in, eX12_largest, eX12_wrongs, eX12_rules_l44, eX12_rules_l155]
set_option maxRecDepth 100000 in
theorem eX12_rules {ν : zM} {Y : Nat} {M : zMS} {x1 : Int32} {x2 : Int32}  : fX12_rules (mdl ν Y M) Y x1 x2 = Option.map (zq2 (mdl ν Y)) (gX12_rules M x1 x2) := by simp only [fX12_rules, gX12_rules, zgd_t, zmap_ite, zmap_some, zmap_none, zmap_zb0, zmap_zni, zq2_k, zq3_k, zq4_k, zq5_k, zzb1_some, zzb2_some, zzb3_some, zzb4_some, zzb5_some, zzb6_some, zzb1_q, zzb2_q, zzb3_q, zzb4_q, zzb5_q, zmap_zb1, zmap_zb2, zmap_zb3, zmap_zb4, zmap_zb5, zmap_zb6, md_ck, md_p0, eX12_comesOf, eX12_fits, eX12_hasLesson, eX12_in, eX12_largest, eX12_wrongs, eX12_rules_l44, eX12_rules_l155, eX12_rules_b36]
def gX12_facts (M : zMS)  : Option (Int32) :=
  zb1 (zag 264 (M.2.2 9) (33 * (M.1 46))) fun v5 =>
  some v5
set_option maxRecDepth 100000 in
theorem eX12_facts {ν : zM} {Y : Nat} {M : zMS}   : fX12_facts (mdl ν Y M) Y = gX12_facts M  := by simp only [fX12_facts, gX12_facts, zgd_t, zmap_ite, zmap_some, zmap_none, zmap_zb0, zmap_zni, zq2_k, zq3_k, zq4_k, zq5_k, zzb1_some, zzb2_some, zzb3_some, zzb4_some, zzb5_some, zzb6_some, zzb1_q, zzb2_q, zzb3_q, zzb4_q, zzb5_q, zmap_zb1, zmap_zb2, zmap_zb3, zmap_zb4, zmap_zb5, zmap_zb6, md_ck, md_g9, md_g46, md_a9, md_s9]
def gX12_factOf (M : zMS) (x1 : Int32) (x2 : Int32) : Option (Int32) :=
  zb1 (zag 264 (M.2.2 9) ((((33 * (M.1 46)) + 1) + (4 * x1)) + x2)) fun v5 =>
  some v5
set_option maxRecDepth 100000 in
theorem eX12_factOf {ν : zM} {Y : Nat} {M : zMS} {x1 : Int32} {x2 : Int32}  : fX12_factOf (mdl ν Y M) Y x1 x2 = gX12_factOf M x1 x2 := by simp only [fX12_factOf, gX12_factOf, zgd_t, zmap_ite, zmap_some, zmap_none, zmap_zb0, zmap_zni, zq2_k, zq3_k, zq4_k, zq5_k, zzb1_some, zzb2_some, zzb3_some, zzb4_some, zzb5_some, zzb6_some, zzb1_q, zzb2_q, zzb3_q, zzb4_q, zzb5_q, zmap_zb1, zmap_zb2, zmap_zb3, zmap_zb4, zmap_zb5, zmap_zb6, md_ck, md_g9, md_g46, md_a9, md_s9]
def gX12_hasSight (M : zMS) (x1 : Int32) : Option (Int32 × zMS) :=
  zb1 (some (zsI M 46 x1)) fun M1 =>
  zb1 (gX12_is M1 3 x1) fun v4 =>
  zb1 (zbz v4) fun v5 =>
  some (v5, M1)
set_option maxRecDepth 100000 in
theorem eX12_hasSight {ν : zM} {Y : Nat} {M : zMS} {x1 : Int32}  : fX12_hasSight (mdl ν Y M) Y x1 = Option.map (zq2 (mdl ν Y)) (gX12_hasSight M x1) := by simp only [fX12_hasSight, gX12_hasSight, zgd_t, zmap_ite, zmap_some, zmap_none, zmap_zb0, zmap_zni, zq2_k, zq3_k, zq4_k, zq5_k, zzb1_some, zzb2_some, zzb3_some, zzb4_some, zzb5_some, zzb6_some, zzb1_q, zzb2_q, zzb3_q, zzb4_q, zzb5_q, zmap_zb1, zmap_zb2, zmap_zb3, zmap_zb4, zmap_zb5, zmap_zb6, md_ck, md_p46, eX12_is]
def gX12_fact (M : zMS) (x1 : Int32) (x2 : Int32) (x3 : Int32) : Option (Int32 × zMS) :=
  zb1 (some (zsI M 0 0)) fun M1 =>
  zb2 (gX12_hasSight M1 x1) fun v5 M4 =>
  if v5 = 0 then (
  some ((-2), M4))
  else (
  if x2 = (-1) then (
  zb1 (if x3 = 0 then (
  zb1 (gX12_facts M4) fun v19 =>
  some v19)
  else (
  some (-2)) : Option (Int32)) fun (s16 : Int32) =>
  some (s16, M4))
  else (
  zb1 (gX12_facts M4) fun v7 =>
  zb1 (gX12_in x2 0 (v7 - 1)) fun v9 =>
  zb1 (if v9 = 0 then (
  some (-2))
  else (
  zb1 (gX12_in x3 0 3) fun v13 =>
  if v13 = 0 then (
  some (-2))
  else (
  zb1 (gX12_factOf M4 x2 x3) fun v15 =>
  some v15)) : Option (Int32)) fun (s10 : Int32) =>
  some (s10, M4)))
set_option maxRecDepth 100000 in
theorem eX12_fact {ν : zM} {Y : Nat} {M : zMS} {x1 : Int32} {x2 : Int32} {x3 : Int32}  : fX12_fact (mdl ν Y M) Y x1 x2 x3 = Option.map (zq2 (mdl ν Y)) (gX12_fact M x1 x2 x3) := by simp only [fX12_fact, gX12_fact, zgd_t, zmap_ite, zmap_some, zmap_none, zmap_zb0, zmap_zni, zq2_k, zq3_k, zq4_k, zq5_k, zzb1_some, zzb2_some, zzb3_some, zzb4_some, zzb5_some, zzb6_some, zzb1_q, zzb2_q, zzb3_q, zzb4_q, zzb5_q, zmap_zb1, zmap_zb2, zmap_zb3, zmap_zb4, zmap_zb5, zmap_zb6, md_ck, md_p0, eX12_factOf, eX12_facts, eX12_hasSight, eX12_in]
def gX12_laySight_l20 (M5 : zMS) (F8 : Int32 → Option (Int32 × zMS)) (x3_7 : Int32) : Option (Int32 × zMS) :=
  zb1 (gX12_facts M5) fun v11 =>
  if v11 ≤ x3_7 then (
  some (1, M5))
  else (
  zb1 (gX12_factOf M5 x3_7 1) fun v13 =>
  zb1 (gX12_isPlace M5 v13) fun v15 =>
  if v15 = 0 then (
  some (0, M5))
  else (
  F8 (x3_7 + 1)))
def gX12_laySight (M : zMS) (x1 : Int32) (x2 : Int32) : Option (Int32 × zMS) :=
  zb2 (gX12_hasSight M x2) fun v3 M2 =>
  if v3 = 0 then (
  some (0, M2))
  else (
  zb2 (gX12_hand M2 x1) fun v6 M5 =>
  if v6 = 0 then (
  some (0, M5))
  else (
  zf1 (gX12_laySight_l20 M5) zfu 0))
set_option maxRecDepth 100000 in
theorem eX12_laySight_l20 {ν : zM} {Y : Nat} {m5 : zMS} {x3_7 : Int32}   (n : Nat) : zf1 (fX12_laySight_l20 (mdl ν Y m5) Y) n x3_7 = Option.map (zq2 (mdl ν Y)) (zf1 (gX12_laySight_l20 m5) n x3_7) := by
  refine zf1_p (fun F8 G8 hF8 x3_7 => ?_) n x3_7
  simp only [fX12_laySight_l20, gX12_laySight_l20, zgd_t, zmap_ite, zmap_some, zmap_none, zmap_zb0, zmap_zni, zq2_k, zq3_k, zq4_k, zq5_k, zzb1_some, zzb2_some, zzb3_some, zzb4_some, zzb5_some, zzb6_some, zzb1_q, zzb2_q, zzb3_q, zzb4_q, zzb5_q, zmap_zb1, zmap_zb2, zmap_zb3, zmap_zb4, zmap_zb5, zmap_zb6, md_ck, eX12_factOf, eX12_facts, eX12_hand, eX12_hasSight, eX12_isPlace, hF8]
set_option maxRecDepth 100000 in
theorem eX12_laySight {ν : zM} {Y : Nat} {M : zMS} {x1 : Int32} {x2 : Int32}  : fX12_laySight (mdl ν Y M) Y x1 x2 = Option.map (zq2 (mdl ν Y)) (gX12_laySight M x1 x2) := by simp only [fX12_laySight, gX12_laySight, zgd_t, zmap_ite, zmap_some, zmap_none, zmap_zb0, zmap_zni, zq2_k, zq3_k, zq4_k, zq5_k, zzb1_some, zzb2_some, zzb3_some, zzb4_some, zzb5_some, zzb6_some, zzb1_q, zzb2_q, zzb3_q, zzb4_q, zzb5_q, zmap_zb1, zmap_zb2, zmap_zb3, zmap_zb4, zmap_zb5, zmap_zb6, md_ck, eX12_factOf, eX12_facts, eX12_hand, eX12_hasSight, eX12_isPlace, eX12_laySight_l20]
def gX12_isSo_l18 (M : zMS) (x4_1 : Int32) (x1 : Int32) (x3 : Int32) (x2 : Int32) (F8 : Int32 → Int32 → Option (Int32)) (x5_6 : Int32) (x6_7 : Int32) : Option (Int32) :=
  if 2 < x6_7 then (
  some x5_6)
  else (
  zb1 (gX12_factOf M x4_1 1) fun v13 =>
  zb1 (gX12_comes M x1 x3 2 x2 v13 x6_7) fun v15 =>
  zb1 (gX12_factOf M x4_1 2) fun v17 =>
  zb1 (if v15 = v17 then (
  some 1)
  else (
  some 0) : Option (Int32)) fun (s18 : Int32) =>
  zb1 (if x5_6 = 0 then (
  if s18 = 0 then (
  some 0)
  else (
  zb1 (if x6_7 = 0 then (
  some x3)
  else (
  zb1 (gX12_given M x3 x2 x6_7) fun v27 =>
  some v27) : Option (Int32)) fun (s22 : Int32) =>
  zb1 (gX12_factOf M x4_1 3) fun v25 =>
  if s22 = v25 then (
  some 1)
  else (
  some 0)))
  else (
  some 1) : Option (Int32)) fun (s20 : Int32) =>
  F8 s20 (x6_7 + 1))
def gX12_isSo_l3 (M : zMS) (x1 : Int32) (x3 : Int32) (x2 : Int32) (F2 : Int32 → Option (Int32)) (x4_1 : Int32) : Option (Int32) :=
  zb1 (gX12_facts M) fun v5 =>
  if v5 ≤ x4_1 then (
  some 1)
  else (
  zb1 (zf2 (gX12_isSo_l18 M x4_1 x1 x3 x2) zfu 0 0 : Option (Int32)) fun (x5_10 : Int32) =>
  zb1 (gX12_factOf M x4_1 0) fun v30 =>
  zb1 (if v30 = 1 then (
  some 1)
  else (
  some 0) : Option (Int32)) fun (s31 : Int32) =>
  if x5_10 = s31 then (
  F2 (x4_1 + 1))
  else (
  some 0))
def gX12_isSo (M : zMS) (x1 : Int32) (x2 : Int32) (x3 : Int32) : Option (Int32) :=
  zf1 (gX12_isSo_l3 M x1 x3 x2) zfu 0
set_option maxRecDepth 100000 in
theorem eX12_isSo_l18 {ν : zM} {Y : Nat} {M : zMS} {x4_1 : Int32} {x1 : Int32} {x3 : Int32} {x2 : Int32} {x5_6 : Int32} {x6_7 : Int32}   (n : Nat) : zf2 (fX12_isSo_l18 (mdl ν Y M) Y x4_1 x1 x3 x2) n x5_6 x6_7 = zf2 (gX12_isSo_l18 M x4_1 x1 x3 x2) n x5_6 x6_7 := by
  refine zf2_c (fun F8 G8 hF8 x5_6 x6_7 => ?_) n x5_6 x6_7
  simp only [fX12_isSo_l18, gX12_isSo_l18, zgd_t, zmap_ite, zmap_some, zmap_none, zmap_zb0, zmap_zni, zq2_k, zq3_k, zq4_k, zq5_k, zzb1_some, zzb2_some, zzb3_some, zzb4_some, zzb5_some, zzb6_some, zzb1_q, zzb2_q, zzb3_q, zzb4_q, zzb5_q, zmap_zb1, zmap_zb2, zmap_zb3, zmap_zb4, zmap_zb5, zmap_zb6, md_ck, eX12_comes, eX12_factOf, eX12_facts, eX12_given, hF8]
set_option maxRecDepth 100000 in
theorem eX12_isSo_l3 {ν : zM} {Y : Nat} {M : zMS} {x1 : Int32} {x3 : Int32} {x2 : Int32} {x4_1 : Int32}   (n : Nat) : zf1 (fX12_isSo_l3 (mdl ν Y M) Y x1 x3 x2) n x4_1 = zf1 (gX12_isSo_l3 M x1 x3 x2) n x4_1 := by
  refine zf1_c (fun F2 G2 hF2 x4_1 => ?_) n x4_1
  simp only [fX12_isSo_l3, gX12_isSo_l3, zgd_t, zmap_ite, zmap_some, zmap_none, zmap_zb0, zmap_zni, zq2_k, zq3_k, zq4_k, zq5_k, zzb1_some, zzb2_some, zzb3_some, zzb4_some, zzb5_some, zzb6_some, zzb1_q, zzb2_q, zzb3_q, zzb4_q, zzb5_q, zmap_zb1, zmap_zb2, zmap_zb3, zmap_zb4, zmap_zb5, zmap_zb6, md_ck, eX12_comes, eX12_factOf, eX12_facts, eX12_given, eX12_isSo_l18, hF2]
set_option maxRecDepth 100000 in
theorem eX12_isSo {ν : zM} {Y : Nat} {M : zMS} {x1 : Int32} {x2 : Int32} {x3 : Int32}  : fX12_isSo (mdl ν Y M) Y x1 x2 x3 = gX12_isSo M x1 x2 x3 := by simp only [fX12_isSo, gX12_isSo, zgd_t, zmap_ite, zmap_some, zmap_none, zmap_zb0, zmap_zni, zq2_k, zq3_k, zq4_k, zq5_k, zzb1_some, zzb2_some, zzb3_some, zzb4_some, zzb5_some, zzb6_some, zzb1_q, zzb2_q, zzb3_q, zzb4_q, zzb5_q, zmap_zb1, zmap_zb2, zmap_zb3, zmap_zb4, zmap_zb5, zmap_zb6, md_ck, eX12_comes, eX12_factOf, eX12_facts, eX12_given, eX12_isSo_l18, eX12_isSo_l3]
def gX12_findSaid_b79 (x3_4 : Int32) : Option (Int32) :=
  some (x3_4 / 1000)
def gX12_findSaid_l9 (x1 : Int32) (F6 : Int32 → Int32 → zMS → Option (Int32 × zMS)) (x2_3 : Int32) (x3_4 : Int32) (m5 : zMS) : Option (Int32 × zMS) :=
  if (1000 * ((m5.1 24) + 1)) ≤ x3_4 then (
  zb1 (if x1 = (-1) then (
  some x2_3)
  else (
  some (-1)) : Option (Int32)) fun (s10 : Int32) =>
  some (s10, m5))
  else (
  if 8 ≤ (x3_4 - x3_4 / 10 * 10) then (
  F6 x2_3 (x3_4 + 1) m5)
  else (
  zb1 (gX12_isSo m5 (x3_4 / 1000) ((x3_4 / 10) - (x3_4 / 10) / 100 * 100) (x3_4 - x3_4 / 10 * 10)) fun v13 =>
  if v13 = 0 then (
  F6 x2_3 (x3_4 + 1) m5)
  else (
  if x2_3 = x1 then (
  some (x3_4, m5))
  else (
  zb1 (if x2_3 = 0 then (
  gX12_findSaid_b79 x3_4)
  else (
  if (m5.1 48) = (x3_4 / 1000) then (
  gX12_findSaid_b79 x3_4)
  else (
  some (-2))) : Option (Int32)) fun (s14 : Int32) =>
  zb1 (some (zsI m5 48 s14)) fun M17 =>
  F6 (x2_3 + 1) (x3_4 + 1) M17))))
def gX12_findSaid (M : zMS) (x1 : Int32) : Option (Int32 × zMS) :=
  zb1 (some (zsI M 48 (-1))) fun M1 =>
  zf3 (gX12_findSaid_l9 x1) zfu 0 0 M1
set_option maxRecDepth 100000 in
theorem eX12_findSaid_b79  {x3_4 : Int32}   : fX12_findSaid_b79 x3_4  = gX12_findSaid_b79 x3_4  := by simp only [fX12_findSaid_b79, gX12_findSaid_b79, zgd_t, zmap_ite, zmap_some, zmap_none, zmap_zb0, zmap_zni, zq2_k, zq3_k, zq4_k, zq5_k, zzb1_some, zzb2_some, zzb3_some, zzb4_some, zzb5_some, zzb6_some, zzb1_q, zzb2_q, zzb3_q, zzb4_q, zzb5_q, zmap_zb1, zmap_zb2, zmap_zb3, zmap_zb4, zmap_zb5, zmap_zb6, md_ck, md_g24, md_g48, md_p48, eX12_isSo]
set_option maxRecDepth 100000 in
theorem eX12_findSaid_l9 {ν : zM} {Y : Nat} {x1 : Int32} {x2_3 : Int32} {x3_4 : Int32} {m5 : zMS}   (n : Nat) : zf3 (fX12_findSaid_l9 Y x1) n x2_3 x3_4 (mdl ν Y m5) = Option.map (zq2 (mdl ν Y)) (zf3 (gX12_findSaid_l9 x1) n x2_3 x3_4 m5) := by
  refine zf3_m (fun F6 G6 hF6 x2_3 x3_4 m5 => ?_) n x2_3 x3_4 m5
  simp only [fX12_findSaid_l9, gX12_findSaid_l9, zgd_t, zmap_ite, zmap_some, zmap_none, zmap_zb0, zmap_zni, zq2_k, zq3_k, zq4_k, zq5_k, zzb1_some, zzb2_some, zzb3_some, zzb4_some, zzb5_some, zzb6_some, zzb1_q, zzb2_q, zzb3_q, zzb4_q, zzb5_q, zmap_zb1, zmap_zb2, zmap_zb3, zmap_zb4, zmap_zb5, zmap_zb6, md_ck, md_g24, md_g48, md_p48, eX12_isSo, eX12_findSaid_b79, hF6]
set_option maxRecDepth 100000 in
theorem eX12_findSaid {ν : zM} {Y : Nat} {M : zMS} {x1 : Int32}  : fX12_findSaid (mdl ν Y M) Y x1 = Option.map (zq2 (mdl ν Y)) (gX12_findSaid M x1) := by simp only [fX12_findSaid, gX12_findSaid, zgd_t, zmap_ite, zmap_some, zmap_none, zmap_zb0, zmap_zni, zq2_k, zq3_k, zq4_k, zq5_k, zzb1_some, zzb2_some, zzb3_some, zzb4_some, zzb5_some, zzb6_some, zzb1_q, zzb2_q, zzb3_q, zzb4_q, zzb5_q, zmap_zb1, zmap_zb2, zmap_zb3, zmap_zb4, zmap_zb5, zmap_zb6, md_ck, md_g24, md_g48, md_p48, eX12_isSo, eX12_findSaid_b79, eX12_findSaid_l9]
def gX12_said (M : zMS) (x1 : Int32) (x2 : Int32) (x3 : Int32) : Option (Int32 × zMS) :=
  zb1 (some (zsI M 0 0)) fun M1 =>
  zb2 (gX12_laySight M1 x1 x2) fun v5 M4 =>
  zc2 (if v5 = 0 then (
  some ((-1), M4))
  else (
  zb2 (gX12_findSaid M4 x3) fun v11 M10 =>
  some (v11, M10)) : Option (Int32 × zMS)) fun (s6 : Int32) (m7 : zMS) =>
  some (s6, m7)
set_option maxRecDepth 100000 in
theorem eX12_said {ν : zM} {Y : Nat} {M : zMS} {x1 : Int32} {x2 : Int32} {x3 : Int32}  : fX12_said (mdl ν Y M) Y x1 x2 x3 = Option.map (zq2 (mdl ν Y)) (gX12_said M x1 x2 x3) := by simp only [fX12_said, gX12_said, zgd_t, zmap_ite, zmap_some, zmap_none, zmap_zb0, zmap_zni, zq2_k, zq3_k, zq4_k, zq5_k, zzb1_some, zzb2_some, zzb3_some, zzb4_some, zzb5_some, zzb6_some, zzc1_some, zzc2_some, zzc3_some, zzc4_some, zzc5_some, zzc6_some, zzb1_q, zzb2_q, zzb3_q, zzb4_q, zzb5_q, zzc1_q, zzc2_q, zzc3_q, zzc4_q, zzc5_q, zmap_zb1, zmap_zb2, zmap_zb3, zmap_zb4, zmap_zb5, zmap_zb6, zzc1_ite, zzc2_ite, zzc3_ite, zzc4_ite, zzc1_zb0, zzc1_zb1, zzc1_zb2, zzc1_zb3, zzc1_zb4, zzc2_zb0, zzc2_zb1, zzc2_zb2, zzc2_zb3, zzc2_zb4, zzc3_zb0, zzc3_zb1, zzc3_zb2, zzc3_zb3, zzc3_zb4, zzc4_zb0, zzc4_zb1, zzc4_zb2, zzc4_zb3, zzc4_zb4, md_ck, md_p0, eX12_findSaid, eX12_laySight]
def gX12_listens_b135  : Option (Int32) :=
  some 0
def gX12_listens_l3 (x1 : Int32) (x3 : Int32) (x2 : Int32) (F3 : Int32 → zMS → Option (zMS)) (x4_1 : Int32) (m2 : zMS) : Option (zMS) :=
  if (m2.1 24) < x4_1 then (
  some m2)
  else (
  zb1 (gX12_comes m2 x1 x3 2 x2 x4_1 0) fun v10 =>
  zb1 (gX12_comes m2 x1 x3 2 x2 x4_1 1) fun v12 =>
  zb1 (gX12_comes m2 x1 x3 2 x2 x4_1 2) fun v14 =>
  zb1 (gX12_lesser v10 99) fun v18 =>
  zb1 (zag 3100 (m2.2.2 47) ((100 * x4_1) + v18)) fun v19 =>
  zb1 (if 99 < v10 then (
  some 0)
  else (
  some 1) : Option (Int32)) fun (s21 : Int32) =>
  zb1 (zas 3100 (m2.2.2 47) ((100 * x4_1) + v18) (v19 + s21)) fun f23 =>
  zb1 (some (zsA m2 47 f23)) fun M23 =>
  zb1 (gX12_in v12 0 99) fun v28 =>
  zb1 (if v28 = 0 then (
  some 0)
  else (
  some v12) : Option (Int32)) fun (s29 : Int32) =>
  zb1 (zag 3100 (M23.2.2 47) ((100 * x4_1) + s29)) fun v31 =>
  zb1 (gX12_in v12 0 99) fun v34 =>
  zb1 (if v34 = 0 then (
  gX12_listens_b135)
  else (
  if v12 = v10 then (
  gX12_listens_b135)
  else (
  some 1)) : Option (Int32)) fun (s35 : Int32) =>
  zb1 (zas 3100 (M23.2.2 47) ((100 * x4_1) + s29) (v31 + s35)) fun f38 =>
  zb1 (some (zsA M23 47 f38)) fun M38 =>
  zb1 (gX12_in v14 0 99) fun v43 =>
  zb1 (if v43 = 0 then (
  some 0)
  else (
  some v14) : Option (Int32)) fun (s44 : Int32) =>
  zb1 (zag 3100 (M38.2.2 47) ((100 * x4_1) + s44)) fun v46 =>
  zb1 (gX12_in v14 0 99) fun v49 =>
  zb1 (if v49 = 0 then (
  some 0)
  else (
  if v14 = v10 then (
  some 0)
  else (
  if v14 = v12 then (
  some 0)
  else (
  some 1))) : Option (Int32)) fun (s50 : Int32) =>
  zb1 (zas 3100 (M38.2.2 47) ((100 * x4_1) + s44) (v46 + s50)) fun f52 =>
  zb1 (some (zsA M38 47 f52)) fun M52 =>
  F3 (x4_1 + 1) M52)
def gX12_listens (M : zMS) (x1 : Int32) (x2 : Int32) (x3 : Int32) : Option (zMS) :=
  zb1 (zf2 (gX12_listens_l3 x1 x3 x2) zfu 0 M : Option (zMS)) fun (m5 : zMS) =>
  some m5
set_option maxRecDepth 100000 in
theorem eX12_listens_b135     : fX12_listens_b135  = gX12_listens_b135  := by simp only [fX12_listens_b135, gX12_listens_b135, zgd_t, zmap_ite, zmap_some, zmap_none, zmap_zb0, zmap_zni, zq2_k, zq3_k, zq4_k, zq5_k, zzb1_some, zzb2_some, zzb3_some, zzb4_some, zzb5_some, zzb6_some, zzb1_q, zzb2_q, zzb3_q, zzb4_q, zzb5_q, zmap_zb1, zmap_zb2, zmap_zb3, zmap_zb4, zmap_zb5, zmap_zb6, md_ck, md_g24, md_g47, md_a47, md_s47, eX12_comes, eX12_in, eX12_lesser]
set_option maxRecDepth 100000 in
theorem eX12_listens_l3 {ν : zM} {Y : Nat} {x1 : Int32} {x3 : Int32} {x2 : Int32} {x4_1 : Int32} {m2 : zMS}   (n : Nat) : zf2 (fX12_listens_l3 Y x1 x3 x2) n x4_1 (mdl ν Y m2) = Option.map (mdl ν Y) (zf2 (gX12_listens_l3 x1 x3 x2) n x4_1 m2) := by
  refine zf2_m (fun F3 G3 hF3 x4_1 m2 => ?_) n x4_1 m2
  simp only [fX12_listens_l3, gX12_listens_l3, zgd_t, zmap_ite, zmap_some, zmap_none, zmap_zb0, zmap_zni, zq2_k, zq3_k, zq4_k, zq5_k, zzb1_some, zzb2_some, zzb3_some, zzb4_some, zzb5_some, zzb6_some, zzb1_q, zzb2_q, zzb3_q, zzb4_q, zzb5_q, zmap_zb1, zmap_zb2, zmap_zb3, zmap_zb4, zmap_zb5, zmap_zb6, md_ck, md_g24, md_g47, md_a47, md_s47, eX12_comes, eX12_in, eX12_lesser, eX12_listens_b135, hF3]
set_option maxRecDepth 100000 in
theorem eX12_listens {ν : zM} {Y : Nat} {M : zMS} {x1 : Int32} {x2 : Int32} {x3 : Int32}  : fX12_listens (mdl ν Y M) Y x1 x2 x3 = Option.map (mdl ν Y) (gX12_listens M x1 x2 x3) := by simp only [fX12_listens, gX12_listens, zgd_t, zmap_ite, zmap_some, zmap_none, zmap_zb0, zmap_zni, zq2_k, zq3_k, zq4_k, zq5_k, zzb1_some, zzb2_some, zzb3_some, zzb4_some, zzb5_some, zzb6_some, zzb1_q, zzb2_q, zzb3_q, zzb4_q, zzb5_q, zmap_zb1, zmap_zb2, zmap_zb3, zmap_zb4, zmap_zb5, zmap_zb6, md_ck, md_g24, md_g47, md_a47, md_s47, eX12_comes, eX12_in, eX12_lesser, eX12_listens_b135, eX12_listens_l3]
def gX12_spot_l55  (F11 : Int32 → zMS → Option (zMS)) (x5_9 : Int32) (m10 : zMS) : Option (zMS) :=
  if 3100 ≤ x5_9 then (
  some m10)
  else (
  zb1 (zas 3100 (m10.2.2 47) x5_9 0) fun f17 =>
  zb1 (some (zsA m10 47 f17)) fun M17 =>
  F11 (x5_9 + 1) M17)
def gX12_spot_l80  (F22 : Int32 → zMS → Option (zMS)) (x5_20 : Int32) (m21 : zMS) : Option (zMS) :=
  if (1000 * ((m21.1 24) + 1)) ≤ x5_20 then (
  some m21)
  else (
  zc1 (if 8 ≤ (x5_20 - x5_20 / 10 * 10) then (
  some m21)
  else (
  zb1 (gX12_isSo m21 (x5_20 / 1000) ((x5_20 / 10) - (x5_20 / 10) / 100 * 100) (x5_20 - x5_20 / 10 * 10)) fun v31 =>
  if v31 = 0 then (
  some m21)
  else (
  zb1 (gX12_listens m21 (x5_20 / 1000) ((x5_20 / 10) - (x5_20 / 10) / 100 * 100) (x5_20 - x5_20 / 10 * 10)) fun M33 =>
  some M33)) : Option (zMS)) fun (m28 : zMS) =>
  F22 (x5_20 + 1) m28)
def gX12_spot_l166 (m24 : zMS) (v8 : Int32) (F37 : Int32 → Int32 → Option (Int32)) (x5_35 : Int32) (x6_36 : Int32) : Option (Int32) :=
  if (100 * ((m24.1 24) + 1)) ≤ x6_36 then (
  some x5_35)
  else (
  zb1 (zag 3100 (m24.2.2 47) x6_36) fun v45 =>
  zb1 (zag 3100 (m24.2.2 47) x6_36) fun v49 =>
  zb1 (gX12_greater v45 (v8 - v49)) fun v52 =>
  zb1 (zag 3100 (m24.2.2 47) x5_35) fun v55 =>
  zb1 (zag 3100 (m24.2.2 47) x5_35) fun v59 =>
  zb1 (gX12_greater v55 (v8 - v59)) fun v62 =>
  zb1 (if v62 ≤ v52 then (
  some x5_35)
  else (
  some x6_36) : Option (Int32)) fun (s63 : Int32) =>
  F37 s63 (x6_36 + 1))
def gX12_spot (M : zMS) (x1 : Int32) (x2 : Int32) (x3 : Int32) : Option (Int32 × zMS) :=
  zb1 (some (zsI M 0 0)) fun M1 =>
  zb2 (gX12_laySight M1 x1 x2) fun v5 M4 =>
  if v5 = 0 then (
  some ((-1), M4))
  else (
  zb2 (gX12_findSaid M4 (-1)) fun v8 M7 =>
  if v8 = 0 then (
  some ((-1), M7))
  else (
  if x3 = 0 then (
  zb1 (if (M7.1 48) = (-2) then (
  some (-1))
  else (
  some (M7.1 48)) : Option (Int32)) fun (s68 : Int32) =>
  some (s68, M7))
  else (
  zb1 (zf2 gX12_spot_l55 zfu 0 M7 : Option (zMS)) fun (m13 : zMS) =>
  zb1 (zf2 gX12_spot_l80 zfu 0 m13 : Option (zMS)) fun (m24 : zMS) =>
  zb1 (zf2 (gX12_spot_l166 m24 v8) zfu 0 1 : Option (Int32)) fun (x5_39 : Int32) =>
  some (x5_39, m24))))
set_option maxRecDepth 100000 in
theorem eX12_spot_l55 {ν : zM} {Y : Nat} {x5_9 : Int32} {m10 : zMS}   (n : Nat) : zf2 (fX12_spot_l55 Y) n x5_9 (mdl ν Y m10) = Option.map (mdl ν Y) (zf2 gX12_spot_l55 n x5_9 m10) := by
  refine zf2_m (fun F11 G11 hF11 x5_9 m10 => ?_) n x5_9 m10
  simp only [fX12_spot_l55, gX12_spot_l55, zgd_t, zmap_ite, zmap_some, zmap_none, zmap_zb0, zmap_zni, zq2_k, zq3_k, zq4_k, zq5_k, zzb1_some, zzb2_some, zzb3_some, zzb4_some, zzb5_some, zzb6_some, zzc1_some, zzc2_some, zzc3_some, zzc4_some, zzc5_some, zzc6_some, zzb1_q, zzb2_q, zzb3_q, zzb4_q, zzb5_q, zzc1_q, zzc2_q, zzc3_q, zzc4_q, zzc5_q, zmap_zb1, zmap_zb2, zmap_zb3, zmap_zb4, zmap_zb5, zmap_zb6, zzc1_ite, zzc2_ite, zzc3_ite, zzc4_ite, zzc1_zb0, zzc1_zb1, zzc1_zb2, zzc1_zb3, zzc1_zb4, zzc2_zb0, zzc2_zb1, zzc2_zb2, zzc2_zb3, zzc2_zb4, zzc3_zb0, zzc3_zb1, zzc3_zb2, zzc3_zb3, zzc3_zb4, zzc4_zb0, zzc4_zb1, zzc4_zb2, zzc4_zb3, zzc4_zb4, md_ck, md_g24, md_g47, md_g48, md_p0, md_a47, md_s47, eX12_findSaid, eX12_greater, eX12_isSo, eX12_laySight, eX12_listens, hF11]
set_option maxRecDepth 100000 in
theorem eX12_spot_l80 {ν : zM} {Y : Nat} {x5_20 : Int32} {m21 : zMS}   (n : Nat) : zf2 (fX12_spot_l80 Y) n x5_20 (mdl ν Y m21) = Option.map (mdl ν Y) (zf2 gX12_spot_l80 n x5_20 m21) := by
  refine zf2_m (fun F22 G22 hF22 x5_20 m21 => ?_) n x5_20 m21
  simp only [fX12_spot_l80, gX12_spot_l80, zgd_t, zmap_ite, zmap_some, zmap_none, zmap_zb0, zmap_zni, zq2_k, zq3_k, zq4_k, zq5_k, zzb1_some, zzb2_some, zzb3_some, zzb4_some, zzb5_some, zzb6_some, zzc1_some, zzc2_some, zzc3_some, zzc4_some, zzc5_some, zzc6_some, zzb1_q, zzb2_q, zzb3_q, zzb4_q, zzb5_q, zzc1_q, zzc2_q, zzc3_q, zzc4_q, zzc5_q, zmap_zb1, zmap_zb2, zmap_zb3, zmap_zb4, zmap_zb5, zmap_zb6, zzc1_ite, zzc2_ite, zzc3_ite, zzc4_ite, zzc1_zb0, zzc1_zb1, zzc1_zb2, zzc1_zb3, zzc1_zb4, zzc2_zb0, zzc2_zb1, zzc2_zb2, zzc2_zb3, zzc2_zb4, zzc3_zb0, zzc3_zb1, zzc3_zb2, zzc3_zb3, zzc3_zb4, zzc4_zb0, zzc4_zb1, zzc4_zb2, zzc4_zb3, zzc4_zb4, md_ck, md_g24, md_g47, md_g48, md_p0, md_a47, md_s47, eX12_findSaid, eX12_greater, eX12_isSo, eX12_laySight, eX12_listens, eX12_spot_l55, hF22]
set_option maxRecDepth 100000 in
theorem eX12_spot_l166 {ν : zM} {Y : Nat} {m24 : zMS} {v8 : Int32} {x5_35 : Int32} {x6_36 : Int32}   (n : Nat) : zf2 (fX12_spot_l166 (mdl ν Y m24) Y v8) n x5_35 x6_36 = zf2 (gX12_spot_l166 m24 v8) n x5_35 x6_36 := by
  refine zf2_c (fun F37 G37 hF37 x5_35 x6_36 => ?_) n x5_35 x6_36
  simp only [fX12_spot_l166, gX12_spot_l166, zgd_t, zmap_ite, zmap_some, zmap_none, zmap_zb0, zmap_zni, zq2_k, zq3_k, zq4_k, zq5_k, zzb1_some, zzb2_some, zzb3_some, zzb4_some, zzb5_some, zzb6_some, zzc1_some, zzc2_some, zzc3_some, zzc4_some, zzc5_some, zzc6_some, zzb1_q, zzb2_q, zzb3_q, zzb4_q, zzb5_q, zzc1_q, zzc2_q, zzc3_q, zzc4_q, zzc5_q, zmap_zb1, zmap_zb2, zmap_zb3, zmap_zb4, zmap_zb5, zmap_zb6, zzc1_ite, zzc2_ite, zzc3_ite, zzc4_ite, zzc1_zb0, zzc1_zb1, zzc1_zb2, zzc1_zb3, zzc1_zb4, zzc2_zb0, zzc2_zb1, zzc2_zb2, zzc2_zb3, zzc2_zb4, zzc3_zb0, zzc3_zb1, zzc3_zb2, zzc3_zb3, zzc3_zb4, zzc4_zb0, zzc4_zb1, zzc4_zb2, zzc4_zb3, zzc4_zb4, md_ck, md_g24, md_g47, md_g48, md_p0, md_a47, md_s47, eX12_findSaid, eX12_greater, eX12_isSo, eX12_laySight, eX12_listens, eX12_spot_l55, eX12_spot_l80, hF37]
set_option maxRecDepth 100000 in
theorem eX12_spot {ν : zM} {Y : Nat} {M : zMS} {x1 : Int32} {x2 : Int32} {x3 : Int32}  : fX12_spot (mdl ν Y M) Y x1 x2 x3 = Option.map (zq2 (mdl ν Y)) (gX12_spot M x1 x2 x3) := by simp only [fX12_spot, gX12_spot, zgd_t, zmap_ite, zmap_some, zmap_none, zmap_zb0, zmap_zni, zq2_k, zq3_k, zq4_k, zq5_k, zzb1_some, zzb2_some, zzb3_some, zzb4_some, zzb5_some, zzb6_some, zzc1_some, zzc2_some, zzc3_some, zzc4_some, zzc5_some, zzc6_some, zzb1_q, zzb2_q, zzb3_q, zzb4_q, zzb5_q, zzc1_q, zzc2_q, zzc3_q, zzc4_q, zzc5_q, zmap_zb1, zmap_zb2, zmap_zb3, zmap_zb4, zmap_zb5, zmap_zb6, zzc1_ite, zzc2_ite, zzc3_ite, zzc4_ite, zzc1_zb0, zzc1_zb1, zzc1_zb2, zzc1_zb3, zzc1_zb4, zzc2_zb0, zzc2_zb1, zzc2_zb2, zzc2_zb3, zzc2_zb4, zzc3_zb0, zzc3_zb1, zzc3_zb2, zzc3_zb3, zzc3_zb4, zzc4_zb0, zzc4_zb1, zzc4_zb2, zzc4_zb3, zzc4_zb4, md_ck, md_g24, md_g47, md_g48, md_p0, md_a47, md_s47, eX12_findSaid, eX12_greater, eX12_isSo, eX12_laySight, eX12_listens, eX12_spot_l55, eX12_spot_l80, eX12_spot_l166]
