noncomputable def gX12_chain_l35 (M4 : zMS) (x3 : Int32) (F12 : Int32 → Int32 → Option (Int32 × zMS)) (x4_10 : Int32) (x5_11 : Int32) : Option (Int32 × zMS) :=
  if 8 < x5_11 then (
  some ((-1), M4))
  else (
  zb1 (gX12_of M4 (3 + x4_10)) fun v15 =>
  if v15 = x3 then (
  some (x5_11, M4))
  else (
  F12 v15 (x5_11 + 1)))
noncomputable def gX12_chain (M : zMS) (x1 : Int32) (x2 : Int32) (x3 : Int32) : Option (Int32 × zMS) :=
  zb1 (some (zsI M 0 0)) fun M1 =>
  zb2 (gX12_hand M1 x1) fun v5 M4 =>
  if v5 = 0 then (
  some ((-1), M4))
  else (
  zb1 (gX12_isWord x2) fun v7 =>
  if v7 = 0 then (
  some ((-1), M4))
  else (
  zb1 (gX12_isWord x3) fun v9 =>
  if v9 = 0 then (
  some ((-1), M4))
  else (
  zf2 (gX12_chain_l35 M4 x3) zfu x2 1)))
set_option maxRecDepth 100000 in
theorem eX12_chain_l35 {ν : zM} {Y : Nat} {m4 : zMS} {x3 : Int32} {x4_10 : Int32} {x5_11 : Int32}   (n : Nat) : zf2 (fX12_chain_l35 (mdl ν Y m4) Y x3) n x4_10 x5_11 = Option.map (zq2 (mdl ν Y)) (zf2 (gX12_chain_l35 m4 x3) n x4_10 x5_11) := by
  refine zf2_p (fun F12 G12 hF12 x4_10 x5_11 => ?_) n x4_10 x5_11
  simp only [fX12_chain_l35, gX12_chain_l35, zgd_t, zmap_ite, zmap_some, zmap_none, zmap_zb0, zmap_zni, zq2_k, zq3_k, zq4_k, zq5_k, zzb1_q, zzb2_q, zzb3_q, zzb4_q, zzb5_q, zmap_zb1, zmap_zb2, zmap_zb3, zmap_zb4, zmap_zb5, zmap_zb6, zmap_zc1, zmap_zc2, zmap_zc3, zmap_zc4, md_ck, md_p0, eX12_hand, eX12_isWord, eX12_of, hF12]
set_option maxRecDepth 100000 in
theorem eX12_chain {ν : zM} {Y : Nat} {M : zMS} {x1 : Int32} {x2 : Int32} {x3 : Int32}  : fX12_chain (mdl ν Y M) Y x1 x2 x3 = Option.map (zq2 (mdl ν Y)) (gX12_chain M x1 x2 x3) := by simp only [fX12_chain, gX12_chain, zgd_t, zmap_ite, zmap_some, zmap_none, zmap_zb0, zmap_zni, zq2_k, zq3_k, zq4_k, zq5_k, zzb1_q, zzb2_q, zzb3_q, zzb4_q, zzb5_q, zmap_zb1, zmap_zb2, zmap_zb3, zmap_zb4, zmap_zb5, zmap_zb6, zmap_zc1, zmap_zc2, zmap_zc3, zmap_zc4, md_ck, md_p0, eX12_hand, eX12_isWord, eX12_of, eX12_chain_l35]
noncomputable def gX12_late (M : zMS) (x1 : Int32) (x2 : Int32) (x3 : Int32) : Option (Int32 × zMS) :=
  zb1 (some (zsI M 0 0)) fun M1 =>
  zb2 (gX12_hand M1 x1) fun v5 M4 =>
  zb1 (if v5 = 0 then (
  some (-1))
  else (
  zb1 (gX12_isPlace M4 x2) fun v9 =>
  if v9 = 0 then (
  some (-1))
  else (
  zb1 (gX12_isWord x3) fun v11 =>
  if v11 = 0 then (
  some (-1))
  else (
  zb1 (gX12_of M4 (11 + x3)) fun v15 =>
  some ((2 * ((M4.1 24) - x2)) + v15)))) : Option (Int32)) fun (s6 : Int32) =>
  some (s6, M4)
set_option maxRecDepth 100000 in
theorem eX12_late {ν : zM} {Y : Nat} {M : zMS} {x1 : Int32} {x2 : Int32} {x3 : Int32}  : fX12_late (mdl ν Y M) Y x1 x2 x3 = Option.map (zq2 (mdl ν Y)) (gX12_late M x1 x2 x3) := by simp only [fX12_late, gX12_late, zgd_t, zmap_ite, zmap_some, zmap_none, zmap_zb0, zmap_zni, zq2_k, zq3_k, zq4_k, zq5_k, zzb1_q, zzb2_q, zzb3_q, zzb4_q, zzb5_q, zmap_zb1, zmap_zb2, zmap_zb3, zmap_zb4, zmap_zb5, zmap_zb6, zmap_zc1, zmap_zc2, zmap_zc3, zmap_zc4, md_ck, md_g24, md_p0, eX12_hand, eX12_isPlace, eX12_isWord, eX12_of]
noncomputable def gX12_isKind (M : zMS) (x1 : Int32) (x2 : Int32) : Option (Int32) :=
  zb1 (gX12_isPerson M x1) fun v2 =>
  zb1 (if v2 = 0 then (
  some 0)
  else (
  zb1 (gX12_of M (27 + x1)) fun v8 =>
  if v8 = x2 then (
  some 1)
  else (
  some 0)) : Option (Int32)) fun (s3 : Int32) =>
  zb1 (zbz s3) fun v5 =>
  some v5
set_option maxRecDepth 100000 in
theorem eX12_isKind {ν : zM} {Y : Nat} {M : zMS} {x1 : Int32} {x2 : Int32}  : fX12_isKind (mdl ν Y M) Y x1 x2 = gX12_isKind M x1 x2 := by simp only [fX12_isKind, gX12_isKind, zgd_t, zmap_ite, zmap_some, zmap_none, zmap_zb0, zmap_zni, zq2_k, zq3_k, zq4_k, zq5_k, zzb1_q, zzb2_q, zzb3_q, zzb4_q, zzb5_q, zmap_zb1, zmap_zb2, zmap_zb3, zmap_zb4, zmap_zb5, zmap_zb6, zmap_zc1, zmap_zc2, zmap_zc3, zmap_zc4, md_ck, eX12_isPerson, eX12_of]
noncomputable def gX12_rankOf_l5 (M : zMS) (x2 : Int32) (x1 : Int32) (F3 : Int32 → Int32 → Option (Int32)) (x3_1 : Int32) (x4_2 : Int32) : Option (Int32) :=
  if (M.1 25) ≤ x4_2 then (
  some x3_1)
  else (
  zb1 (if x2 = 0 then (
  zb1 (gX12_of M (39 + x4_2)) fun v18 =>
  zb1 (gX12_of M (39 + x1)) fun v20 =>
  some (v18 - v20))
  else (
  zb1 (gX12_of M (39 + x1)) fun v22 =>
  zb1 (gX12_of M (39 + x4_2)) fun v24 =>
  some (v22 - v24)) : Option (Int32)) fun (s9 : Int32) =>
  zb1 (gX12_of M (27 + x1)) fun v12 =>
  zb1 (gX12_isKind M x4_2 v12) fun v14 =>
  zb1 (if v14 = 0 then (
  some 0)
  else (
  if 0 < s9 then (
  some 1)
  else (
  if s9 = 0 then (
  if x1 ≤ x4_2 then (
  some 0)
  else (
  some 1))
  else (
  some 0))) : Option (Int32)) fun (s15 : Int32) =>
  F3 (x3_1 + s15) (x4_2 + 1))
noncomputable def gX12_rankOf (M : zMS) (x1 : Int32) (x2 : Int32) : Option (Int32) :=
  zb1 (zf2 (gX12_rankOf_l5 M x2 x1) zfu 0 0 : Option (Int32)) fun (x3_5 : Int32) =>
  some x3_5
set_option maxRecDepth 100000 in
theorem eX12_rankOf_l5 {ν : zM} {Y : Nat} {M : zMS} {x2 : Int32} {x1 : Int32} {x3_1 : Int32} {x4_2 : Int32}   (n : Nat) : zf2 (fX12_rankOf_l5 (mdl ν Y M) Y x2 x1) n x3_1 x4_2 = zf2 (gX12_rankOf_l5 M x2 x1) n x3_1 x4_2 := by
  refine zf2_c (fun F3 G3 hF3 x3_1 x4_2 => ?_) n x3_1 x4_2
  simp only [fX12_rankOf_l5, gX12_rankOf_l5, zgd_t, zmap_ite, zmap_some, zmap_none, zmap_zb0, zmap_zni, zq2_k, zq3_k, zq4_k, zq5_k, zzb1_q, zzb2_q, zzb3_q, zzb4_q, zzb5_q, zmap_zb1, zmap_zb2, zmap_zb3, zmap_zb4, zmap_zb5, zmap_zb6, zmap_zc1, zmap_zc2, zmap_zc3, zmap_zc4, md_ck, md_g25, eX12_isKind, eX12_of, hF3]
set_option maxRecDepth 100000 in
theorem eX12_rankOf {ν : zM} {Y : Nat} {M : zMS} {x1 : Int32} {x2 : Int32}  : fX12_rankOf (mdl ν Y M) Y x1 x2 = gX12_rankOf M x1 x2 := by simp only [fX12_rankOf, gX12_rankOf, zgd_t, zmap_ite, zmap_some, zmap_none, zmap_zb0, zmap_zni, zq2_k, zq3_k, zq4_k, zq5_k, zzb1_q, zzb2_q, zzb3_q, zzb4_q, zzb5_q, zmap_zb1, zmap_zb2, zmap_zb3, zmap_zb4, zmap_zb5, zmap_zb6, zmap_zc1, zmap_zc2, zmap_zc3, zmap_zc4, md_ck, md_g25, eX12_isKind, eX12_of, eX12_rankOf_l5]
noncomputable def gX12_layMarket_l12  (F7 : Int32 → zMS → Option (zMS)) (x1_5 : Int32) (m6 : zMS) : Option (zMS) :=
  if (m6.1 25) ≤ x1_5 then (
  some m6)
  else (
  zb1 (gX12_isKind m6 x1_5 0) fun v14 =>
  zc1 (if v14 = 0 then (
  some m6)
  else (
  zb1 (gX12_rankOf m6 x1_5 1) fun v36 =>
  zb1 (gX12_of m6 (39 + x1_5)) fun v38 =>
  zb1 (zas 6 (m6.2.2 37) v36 v38) fun f39 =>
  zb1 (some (zsA m6 37 f39)) fun M39 =>
  zb1 (some (zsI M39 39 ((M39.1 39) + 1))) fun M43 =>
  some M43) : Option (zMS)) fun (m15 : zMS) =>
  zb1 (gX12_isKind m15 x1_5 1) fun v18 =>
  zc1 (if v18 = 0 then (
  some m15)
  else (
  zb1 (gX12_rankOf m15 x1_5 0) fun v24 =>
  zb1 (gX12_of m15 (39 + x1_5)) fun v26 =>
  zb1 (zas 6 (m15.2.2 38) v24 v26) fun f27 =>
  zb1 (some (zsA m15 38 f27)) fun M27 =>
  zb1 (some (zsI M27 40 ((M27.1 40) + 1))) fun M31 =>
  some M31) : Option (zMS)) fun (m19 : zMS) =>
  F7 (x1_5 + 1) m19)
noncomputable def gX12_layMarket (M : zMS)  : Option (zMS) :=
  zb1 (some (zsI M 39 0)) fun M1 =>
  zb1 (some (zsI M1 40 0)) fun M3 =>
  zb1 (zf2 gX12_layMarket_l12 zfu 0 M3 : Option (zMS)) fun (m9 : zMS) =>
  some m9
set_option maxRecDepth 100000 in
theorem eX12_layMarket_l12 {ν : zM} {Y : Nat} {x1_5 : Int32} {m6 : zMS}   (n : Nat) : zf2 (fX12_layMarket_l12 Y) n x1_5 (mdl ν Y m6) = Option.map (mdl ν Y) (zf2 gX12_layMarket_l12 n x1_5 m6) := by
  refine zf2_m (fun F7 G7 hF7 x1_5 m6 => ?_) n x1_5 m6
  simp only [fX12_layMarket_l12, gX12_layMarket_l12, zgd_t, zmap_ite, zmap_some, zmap_none, zmap_zb0, zmap_zni, zq2_k, zq3_k, zq4_k, zq5_k, zzc1_some, zzc2_some, zzc3_some, zzc4_some, zzc5_some, zzc6_some, zzb1_q, zzb2_q, zzb3_q, zzb4_q, zzb5_q, zzc1_q, zzc2_q, zzc3_q, zzc4_q, zzc5_q, zmap_zb1, zmap_zb2, zmap_zb3, zmap_zb4, zmap_zb5, zmap_zb6, zzc1_ite, zzc2_ite, zzc3_ite, zzc4_ite, zmap_zc1, zmap_zc2, zmap_zc3, zmap_zc4, zzc1_zb0, zzc1_zb1, zzc1_zb2, zzc1_zb3, zzc1_zb4, zzc2_zb0, zzc2_zb1, zzc2_zb2, zzc2_zb3, zzc2_zb4, zzc3_zb0, zzc3_zb1, zzc3_zb2, zzc3_zb3, zzc3_zb4, zzc4_zb0, zzc4_zb1, zzc4_zb2, zzc4_zb3, zzc4_zb4, md_ck, md_g25, md_g37, md_g38, md_g39, md_g40, md_p39, md_p40, md_a37, md_s37, md_a38, md_s38, eX12_isKind, eX12_of, eX12_rankOf, hF7]
set_option maxRecDepth 100000 in
theorem eX12_layMarket {ν : zM} {Y : Nat} {M : zMS}   : fX12_layMarket (mdl ν Y M) Y = Option.map (mdl ν Y) (gX12_layMarket M ) := by simp only [fX12_layMarket, gX12_layMarket, zgd_t, zmap_ite, zmap_some, zmap_none, zmap_zb0, zmap_zni, zq2_k, zq3_k, zq4_k, zq5_k, zzc1_some, zzc2_some, zzc3_some, zzc4_some, zzc5_some, zzc6_some, zzb1_q, zzb2_q, zzb3_q, zzb4_q, zzb5_q, zzc1_q, zzc2_q, zzc3_q, zzc4_q, zzc5_q, zmap_zb1, zmap_zb2, zmap_zb3, zmap_zb4, zmap_zb5, zmap_zb6, zzc1_ite, zzc2_ite, zzc3_ite, zzc4_ite, zmap_zc1, zmap_zc2, zmap_zc3, zmap_zc4, zzc1_zb0, zzc1_zb1, zzc1_zb2, zzc1_zb3, zzc1_zb4, zzc2_zb0, zzc2_zb1, zzc2_zb2, zzc2_zb3, zzc2_zb4, zzc3_zb0, zzc3_zb1, zzc3_zb2, zzc3_zb3, zzc3_zb4, zzc4_zb0, zzc4_zb1, zzc4_zb2, zzc4_zb3, zzc4_zb4, md_ck, md_g25, md_g37, md_g38, md_g39, md_g40, md_p39, md_p40, md_a37, md_s37, md_a38, md_s38, eX12_isKind, eX12_of, eX12_rankOf, eX12_layMarket_l12]
noncomputable def gX12_clears_l13 (M : zMS) (x1 : Int32) (F4 : Int32 → Int32 → Int32 → Option (Int32 × Int32)) (x2_1 : Int32) (x3_2 : Int32) (x6_3 : Int32) : Option (Int32 × Int32) :=
  if (M.1 39) ≤ x6_3 then (
  some (x2_1, x3_2))
  else (
  zb1 (zag 6 (M.2.2 37) x6_3) fun v13 =>
  zb1 (if x1 ≤ v13 then (
  some 0)
  else (
  some 1) : Option (Int32)) fun (s15 : Int32) =>
  zb1 (zag 6 (M.2.2 37) x6_3) fun v19 =>
  zb1 (if x1 < v19 then (
  some 0)
  else (
  some 1) : Option (Int32)) fun (s21 : Int32) =>
  F4 (x2_1 + s15) (x3_2 + s21) (x6_3 + 1))
noncomputable def gX12_clears_l69 (M : zMS) (x1 : Int32) (F27 : Int32 → Int32 → Int32 → Option (Int32 × Int32)) (x4_24 : Int32) (x5_25 : Int32) (x6_26 : Int32) : Option (Int32 × Int32) :=
  if (M.1 40) ≤ x6_26 then (
  some (x4_24, x5_25))
  else (
  zb1 (zag 6 (M.2.2 38) x6_26) fun v36 =>
  zb1 (if v36 ≤ x1 then (
  some 0)
  else (
  some 1) : Option (Int32)) fun (s38 : Int32) =>
  zb1 (zag 6 (M.2.2 38) x6_26) fun v42 =>
  zb1 (if v42 < x1 then (
  some 0)
  else (
  some 1) : Option (Int32)) fun (s44 : Int32) =>
  F27 (x4_24 + s38) (x5_25 + s44) (x6_26 + 1))
noncomputable def gX12_clears (M : zMS) (x1 : Int32) : Option (Int32) :=
  zb2 (zf3 (gX12_clears_l13 M x1) zfu 0 0 0 : Option (Int32 × Int32)) fun (x2_6 : Int32) (x3_7 : Int32) =>
  zb2 (zf3 (gX12_clears_l69 M x1) zfu 0 0 0 : Option (Int32 × Int32)) fun (x4_29 : Int32) (x5_30 : Int32) =>
  zb1 (gX12_greater x2_6 x4_29) fun v48 =>
  zb1 (gX12_lesser x3_7 x5_30) fun v50 =>
  zb1 (if v50 < v48 then (
  some 0)
  else (
  some 1) : Option (Int32)) fun (s51 : Int32) =>
  zb1 (zbz s51) fun v53 =>
  some v53
set_option maxRecDepth 100000 in
theorem eX12_clears_l13 {ν : zM} {Y : Nat} {M : zMS} {x1 : Int32} {x2_1 : Int32} {x3_2 : Int32} {x6_3 : Int32}   (n : Nat) : zf3 (fX12_clears_l13 (mdl ν Y M) Y x1) n x2_1 x3_2 x6_3 = zf3 (gX12_clears_l13 M x1) n x2_1 x3_2 x6_3 := by
  refine zf3_c (fun F4 G4 hF4 x2_1 x3_2 x6_3 => ?_) n x2_1 x3_2 x6_3
  simp only [fX12_clears_l13, gX12_clears_l13, zgd_t, zmap_ite, zmap_some, zmap_none, zmap_zb0, zmap_zni, zq2_k, zq3_k, zq4_k, zq5_k, zzb1_q, zzb2_q, zzb3_q, zzb4_q, zzb5_q, zmap_zb1, zmap_zb2, zmap_zb3, zmap_zb4, zmap_zb5, zmap_zb6, zmap_zc1, zmap_zc2, zmap_zc3, zmap_zc4, md_ck, md_g37, md_g38, md_g39, md_g40, md_a37, md_s37, md_a38, md_s38, eX12_greater, eX12_lesser, hF4]
set_option maxRecDepth 100000 in
theorem eX12_clears_l69 {ν : zM} {Y : Nat} {M : zMS} {x1 : Int32} {x4_24 : Int32} {x5_25 : Int32} {x6_26 : Int32}   (n : Nat) : zf3 (fX12_clears_l69 (mdl ν Y M) Y x1) n x4_24 x5_25 x6_26 = zf3 (gX12_clears_l69 M x1) n x4_24 x5_25 x6_26 := by
  refine zf3_c (fun F27 G27 hF27 x4_24 x5_25 x6_26 => ?_) n x4_24 x5_25 x6_26
  simp only [fX12_clears_l69, gX12_clears_l69, zgd_t, zmap_ite, zmap_some, zmap_none, zmap_zb0, zmap_zni, zq2_k, zq3_k, zq4_k, zq5_k, zzb1_q, zzb2_q, zzb3_q, zzb4_q, zzb5_q, zmap_zb1, zmap_zb2, zmap_zb3, zmap_zb4, zmap_zb5, zmap_zb6, zmap_zc1, zmap_zc2, zmap_zc3, zmap_zc4, md_ck, md_g37, md_g38, md_g39, md_g40, md_a37, md_s37, md_a38, md_s38, eX12_greater, eX12_lesser, eX12_clears_l13, hF27]
set_option maxRecDepth 100000 in
theorem eX12_clears {ν : zM} {Y : Nat} {M : zMS} {x1 : Int32}  : fX12_clears (mdl ν Y M) Y x1 = gX12_clears M x1 := by simp only [fX12_clears, gX12_clears, zgd_t, zmap_ite, zmap_some, zmap_none, zmap_zb0, zmap_zni, zq2_k, zq3_k, zq4_k, zq5_k, zzb1_q, zzb2_q, zzb3_q, zzb4_q, zzb5_q, zmap_zb1, zmap_zb2, zmap_zb3, zmap_zb4, zmap_zb5, zmap_zb6, zmap_zc1, zmap_zc2, zmap_zc3, zmap_zc4, md_ck, md_g37, md_g38, md_g39, md_g40, md_a37, md_s37, md_a38, md_s38, eX12_greater, eX12_lesser, eX12_clears_l13, eX12_clears_l69]
noncomputable def gX12_market_l33 (M9 : zMS) (F12 : Int32 → Int32 → Option (Int32 × Int32)) (x3_10 : Int32) (x4_11 : Int32) : Option (Int32 × Int32) :=
  if (M9.1 39) ≤ x4_11 then (
  some (x3_10, x4_11))
  else (
  if (M9.1 40) ≤ x4_11 then (
  some (x3_10, x4_11))
  else (
  zb1 (zag 6 (M9.2.2 38) x4_11) fun v23 =>
  zb1 (zag 6 (M9.2.2 37) x4_11) fun v27 =>
  if v23 < v27 then (
  some (x3_10, x4_11))
  else (
  zb1 (zag 6 (M9.2.2 38) x4_11) fun v31 =>
  zb1 (zag 6 (M9.2.2 37) x4_11) fun v35 =>
  F12 (x3_10 + (v31 - v35)) (x4_11 + 1))))
noncomputable def gX12_market_b132 (x5_38 : Int32) : Option (Int32) :=
  some x5_38
noncomputable def gX12_market_l101 (M9 : zMS) (F41 : Int32 → Int32 → Int32 → Option (Int32 × Int32)) (x5_38 : Int32) (x6_39 : Int32) (x7_40 : Int32) : Option (Int32 × Int32) :=
  if 99 < x7_40 then (
  some (x5_38, x6_39))
  else (
  zb1 (gX12_clears M9 x7_40) fun v47 =>
  zb1 (if v47 = 0 then (
  gX12_market_b132 x5_38)
  else (
  if x5_38 = (-1) then (
  some x7_40)
  else (
  gX12_market_b132 x5_38)) : Option (Int32)) fun (s48 : Int32) =>
  zb1 (if v47 = 0 then (
  some x6_39)
  else (
  some x7_40) : Option (Int32)) fun (s51 : Int32) =>
  F41 s48 s51 (x7_40 + 1))
noncomputable def gX12_market (M : zMS) (x1 : Int32) (x2 : Int32) : Option (Int32 × zMS) :=
  zb1 (some (zsI M 0 0)) fun M1 =>
  zb2 (gX12_hand M1 x1) fun v5 M4 =>
  if v5 = 0 then (
  some ((-1), M4))
  else (
  zb1 (gX12_in x2 0 3) fun v7 =>
  if v7 = 0 then (
  some ((-1), M4))
  else (
  zb1 (gX12_layMarket M4) fun M9 =>
  zb2 (zf2 (gX12_market_l33 M9) zfu 0 0 : Option (Int32 × Int32)) fun (x3_14 : Int32) (x4_15 : Int32) =>
  zb2 (zf3 (gX12_market_l101 M9) zfu (-1) (-1) 0 : Option (Int32 × Int32)) fun (x5_43 : Int32) (x6_44 : Int32) =>
  zb1 (if x2 = 0 then (
  some x3_14)
  else (
  if x2 = 1 then (
  some x4_15)
  else (
  if x2 = 2 then (
  some x5_43)
  else (
  some x6_44))) : Option (Int32)) fun (s54 : Int32) =>
  some (s54, M9)))
set_option maxRecDepth 100000 in
theorem eX12_market_l33 {ν : zM} {Y : Nat} {m9 : zMS} {x3_10 : Int32} {x4_11 : Int32}   (n : Nat) : zf2 (fX12_market_l33 (mdl ν Y m9) Y) n x3_10 x4_11 = zf2 (gX12_market_l33 m9) n x3_10 x4_11 := by
  refine zf2_c (fun F12 G12 hF12 x3_10 x4_11 => ?_) n x3_10 x4_11
  simp only [fX12_market_l33, gX12_market_l33, zgd_t, zmap_ite, zmap_some, zmap_none, zmap_zb0, zmap_zni, zq2_k, zq3_k, zq4_k, zq5_k, zzb1_q, zzb2_q, zzb3_q, zzb4_q, zzb5_q, zmap_zb1, zmap_zb2, zmap_zb3, zmap_zb4, zmap_zb5, zmap_zb6, zmap_zc1, zmap_zc2, zmap_zc3, zmap_zc4, md_ck, md_g37, md_g38, md_g39, md_g40, md_p0, md_a37, md_s37, md_a38, md_s38, eX12_clears, eX12_hand, eX12_in, eX12_layMarket, hF12]
set_option maxRecDepth 100000 in
theorem eX12_market_b132  {x5_38 : Int32}   : fX12_market_b132 x5_38  = gX12_market_b132 x5_38  := by simp only [fX12_market_b132, gX12_market_b132, zgd_t, zmap_ite, zmap_some, zmap_none, zmap_zb0, zmap_zni, zq2_k, zq3_k, zq4_k, zq5_k, zzb1_q, zzb2_q, zzb3_q, zzb4_q, zzb5_q, zmap_zb1, zmap_zb2, zmap_zb3, zmap_zb4, zmap_zb5, zmap_zb6, zmap_zc1, zmap_zc2, zmap_zc3, zmap_zc4, md_ck, md_g37, md_g38, md_g39, md_g40, md_p0, md_a37, md_s37, md_a38, md_s38, eX12_clears, eX12_hand, eX12_in, eX12_layMarket, eX12_market_l33]
set_option maxRecDepth 100000 in
theorem eX12_market_l101 {ν : zM} {Y : Nat} {m9 : zMS} {x5_38 : Int32} {x6_39 : Int32} {x7_40 : Int32}   (n : Nat) : zf3 (fX12_market_l101 (mdl ν Y m9) Y) n x5_38 x6_39 x7_40 = zf3 (gX12_market_l101 m9) n x5_38 x6_39 x7_40 := by
  refine zf3_c (fun F41 G41 hF41 x5_38 x6_39 x7_40 => ?_) n x5_38 x6_39 x7_40
  simp only [fX12_market_l101, gX12_market_l101, zgd_t, zmap_ite, zmap_some, zmap_none, zmap_zb0, zmap_zni, zq2_k, zq3_k, zq4_k, zq5_k, zzb1_q, zzb2_q, zzb3_q, zzb4_q, zzb5_q, zmap_zb1, zmap_zb2, zmap_zb3, zmap_zb4, zmap_zb5, zmap_zb6, zmap_zc1, zmap_zc2, zmap_zc3, zmap_zc4, md_ck, md_g37, md_g38, md_g39, md_g40, md_p0, md_a37, md_s37, md_a38, md_s38, eX12_clears, eX12_hand, eX12_in, eX12_layMarket, eX12_market_l33, eX12_market_b132, hF41]
set_option maxRecDepth 100000 in
theorem eX12_market {ν : zM} {Y : Nat} {M : zMS} {x1 : Int32} {x2 : Int32}  : fX12_market (mdl ν Y M) Y x1 x2 = Option.map (zq2 (mdl ν Y)) (gX12_market M x1 x2) := by simp only [fX12_market, gX12_market, zgd_t, zmap_ite, zmap_some, zmap_none, zmap_zb0, zmap_zni, zq2_k, zq3_k, zq4_k, zq5_k, zzb1_q, zzb2_q, zzb3_q, zzb4_q, zzb5_q, zmap_zb1, zmap_zb2, zmap_zb3, zmap_zb4, zmap_zb5, zmap_zb6, zmap_zc1, zmap_zc2, zmap_zc3, zmap_zc4, md_ck, md_g37, md_g38, md_g39, md_g40, md_p0, md_a37, md_s37, md_a38, md_s38, eX12_clears, eX12_hand, eX12_in, eX12_layMarket, eX12_market_l33, eX12_market_b132, eX12_market_l101]
noncomputable def gX12_soldFor  (x0 : Int32) (x1 : Int32) (x2 : Int32) : Option (Int32) :=
  zb1 (if x0 ≤ x1 then (
  some (((x0 + x1) / 2) - x2))
  else (
  some 0) : Option (Int32)) fun (s1 : Int32) =>
  some s1
set_option maxRecDepth 100000 in
theorem eX12_soldFor {μ : zM} {x0 : Int32} {x1 : Int32} {x2 : Int32} : fX12_soldFor μ x0 x1 x2 = gX12_soldFor x0 x1 x2 := by simp only [fX12_soldFor, gX12_soldFor, zgd_t, zmap_ite, zmap_some, zmap_none, zmap_zb0, zmap_zni, zq2_k, zq3_k, zq4_k, zq5_k, zzb1_q, zzb2_q, zzb3_q, zzb4_q, zzb5_q, zmap_zb1, zmap_zb2, zmap_zb3, zmap_zb4, zmap_zb5, zmap_zb6, zmap_zc1, zmap_zc2, zmap_zc3, zmap_zc4, md_ck]
noncomputable def gX12_boughtFor  (x0 : Int32) (x1 : Int32) (x2 : Int32) : Option (Int32) :=
  zb1 (if x0 ≤ x1 then (
  some (x2 - ((x0 + x1) / 2)))
  else (
  some 0) : Option (Int32)) fun (s1 : Int32) =>
  some s1
set_option maxRecDepth 100000 in
theorem eX12_boughtFor {μ : zM} {x0 : Int32} {x1 : Int32} {x2 : Int32} : fX12_boughtFor μ x0 x1 x2 = gX12_boughtFor x0 x1 x2 := by simp only [fX12_boughtFor, gX12_boughtFor, zgd_t, zmap_ite, zmap_some, zmap_none, zmap_zb0, zmap_zni, zq2_k, zq3_k, zq4_k, zq5_k, zzb1_q, zzb2_q, zzb3_q, zzb4_q, zzb5_q, zmap_zb1, zmap_zb2, zmap_zb3, zmap_zb4, zmap_zb5, zmap_zb6, zmap_zc1, zmap_zc2, zmap_zc3, zmap_zc4, md_ck]
noncomputable def gX12_bargain_l86 (x7_14 : Int32) (v11 : Int32) (v13 : Int32) (F30 : Int32 → zMS → Option (zMS)) (x8_28 : Int32) (m29 : zMS) : Option (zMS) :=
  if 99 < x8_28 then (
  some m29)
  else (
  zb1 (zag 100 (m29.2.2 41) x7_14) fun v38 =>
  zb1 (gX12_soldFor x8_28 x7_14 v11) fun v41 =>
  zb1 (gX12_greater v38 v41) fun v43 =>
  zb1 (zas 100 (m29.2.2 41) x7_14 v43) fun f44 =>
  zb1 (some (zsA m29 41 f44)) fun M44 =>
  zb1 (zag 100 (M44.2.2 42) x7_14) fun v50 =>
  zb1 (gX12_boughtFor x7_14 x8_28 v13) fun v53 =>
  zb1 (gX12_greater v50 v53) fun v55 =>
  zb1 (zas 100 (M44.2.2 42) x7_14 v55) fun f56 =>
  zb1 (some (zsA M44 42 f56)) fun M56 =>
  F30 (x8_28 + 1) M56)
noncomputable def gX12_bargain_l56 (v11 : Int32) (v13 : Int32) (F16 : Int32 → zMS → Option (zMS)) (x7_14 : Int32) (m15 : zMS) : Option (zMS) :=
  if 99 < x7_14 then (
  some m15)
  else (
  zb1 (zas 100 (m15.2.2 41) x7_14 (-1000000)) fun f22 =>
  zb1 (some (zsA m15 41 f22)) fun M22 =>
  zb1 (zas 100 (M22.2.2 42) x7_14 (-1000000)) fun f26 =>
  zb1 (some (zsA M22 42 f26)) fun M26 =>
  zb1 (zf2 (gX12_bargain_l86 x7_14 v11 v13) zfu 0 M26 : Option (zMS)) fun (m32 : zMS) =>
  F16 (x7_14 + 1) m32)
noncomputable def gX12_bargain_b225  : Option (Int32) :=
  some 0
noncomputable def gX12_bargain_l176 (x9_62 : Int32) (v11 : Int32) (m18 : zMS) (v13 : Int32) (F71 : Int32 → Int32 → Int32 → Option (Int32 × Int32)) (x7_68 : Int32) (x8_69 : Int32) (x10_70 : Int32) : Option (Int32 × Int32) :=
  if 99 < x10_70 then (
  some (x7_68, x8_69))
  else (
  zb1 (gX12_soldFor x9_62 x10_70 v11) fun v77 =>
  zb1 (zag 100 (m18.2.2 41) x10_70) fun v80 =>
  zb1 (if v77 = v80 then (
  zb1 (gX12_boughtFor x9_62 x10_70 v13) fun v90 =>
  zb1 (zag 100 (m18.2.2 42) x9_62) fun v93 =>
  if v90 = v93 then (
  some 1)
  else (
  gX12_bargain_b225))
  else (
  gX12_bargain_b225) : Option (Int32)) fun (s82 : Int32) =>
  zb1 (if s82 = 0 then (
  some 0)
  else (
  some 1) : Option (Int32)) fun (s85 : Int32) =>
  zb1 (if s82 = 0 then (
  some 0)
  else (
  if x10_70 < x9_62 then (
  some 0)
  else (
  some 1)) : Option (Int32)) fun (s87 : Int32) =>
  F71 (x7_68 + s85) (x8_69 + s87) (x10_70 + 1))
noncomputable def gX12_bargain_l166 (v11 : Int32) (m18 : zMS) (v13 : Int32) (F63 : Int32 → Int32 → Int32 → Option (Int32 × Int32)) (x7_60 : Int32) (x8_61 : Int32) (x9_62 : Int32) : Option (Int32 × Int32) :=
  if 99 < x9_62 then (
  some (x7_60, x8_61))
  else (
  zb2 (zf3 (gX12_bargain_l176 x9_62 v11 m18 v13) zfu x7_60 x8_61 0 : Option (Int32 × Int32)) fun (x7_73 : Int32) (x8_74 : Int32) =>
  F63 x7_73 x8_74 (x9_62 + 1))
noncomputable def gX12_bargain (M : zMS) (x1 : Int32) (x2 : Int32) (x3 : Int32) (x4 : Int32) : Option (Int32 × zMS) :=
  zb1 (some (zsI M 0 0)) fun M1 =>
  zb2 (gX12_hand M1 x1) fun v5 M4 =>
  if v5 = 0 then (
  some ((-1), M4))
  else (
  zb1 (gX12_isKind M4 x2 0) fun v7 =>
  if v7 = 0 then (
  some ((-1), M4))
  else (
  zb1 (gX12_isKind M4 x3 1) fun v9 =>
  if v9 = 0 then (
  some ((-1), M4))
  else (
  zb1 (gX12_of M4 (39 + x2)) fun v11 =>
  zb1 (gX12_of M4 (39 + x3)) fun v13 =>
  zb1 (zf2 (gX12_bargain_l56 v11 v13) zfu 0 M4 : Option (zMS)) fun (m18 : zMS) =>
  zb2 (zf3 (gX12_bargain_l166 v11 m18 v13) zfu 0 0 0 : Option (Int32 × Int32)) fun (x7_65 : Int32) (x8_66 : Int32) =>
  zb1 (if x4 = 0 then (
  some x7_65)
  else (
  some x8_66) : Option (Int32)) fun (s97 : Int32) =>
  some (s97, m18))))
set_option maxRecDepth 100000 in
theorem eX12_bargain_l86 {ν : zM} {Y : Nat} {x7_14 : Int32} {v11 : Int32} {v13 : Int32} {x8_28 : Int32} {m29 : zMS}   (n : Nat) : zf2 (fX12_bargain_l86 Y x7_14 v11 v13) n x8_28 (mdl ν Y m29) = Option.map (mdl ν Y) (zf2 (gX12_bargain_l86 x7_14 v11 v13) n x8_28 m29) := by
  refine zf2_m (fun F30 G30 hF30 x8_28 m29 => ?_) n x8_28 m29
  simp only [fX12_bargain_l86, gX12_bargain_l86, zgd_t, zmap_ite, zmap_some, zmap_none, zmap_zb0, zmap_zni, zq2_k, zq3_k, zq4_k, zq5_k, zzb1_q, zzb2_q, zzb3_q, zzb4_q, zzb5_q, zmap_zb1, zmap_zb2, zmap_zb3, zmap_zb4, zmap_zb5, zmap_zb6, zmap_zc1, zmap_zc2, zmap_zc3, zmap_zc4, md_ck, md_g41, md_g42, md_p0, md_a41, md_s41, md_a42, md_s42, eX12_boughtFor, eX12_greater, eX12_hand, eX12_isKind, eX12_of, eX12_soldFor, hF30]
set_option maxRecDepth 100000 in
theorem eX12_bargain_l56 {ν : zM} {Y : Nat} {v11 : Int32} {v13 : Int32} {x7_14 : Int32} {m15 : zMS}   (n : Nat) : zf2 (fX12_bargain_l56 Y v11 v13) n x7_14 (mdl ν Y m15) = Option.map (mdl ν Y) (zf2 (gX12_bargain_l56 v11 v13) n x7_14 m15) := by
  refine zf2_m (fun F16 G16 hF16 x7_14 m15 => ?_) n x7_14 m15
  simp only [fX12_bargain_l56, gX12_bargain_l56, zgd_t, zmap_ite, zmap_some, zmap_none, zmap_zb0, zmap_zni, zq2_k, zq3_k, zq4_k, zq5_k, zzb1_q, zzb2_q, zzb3_q, zzb4_q, zzb5_q, zmap_zb1, zmap_zb2, zmap_zb3, zmap_zb4, zmap_zb5, zmap_zb6, zmap_zc1, zmap_zc2, zmap_zc3, zmap_zc4, md_ck, md_g41, md_g42, md_p0, md_a41, md_s41, md_a42, md_s42, eX12_boughtFor, eX12_greater, eX12_hand, eX12_isKind, eX12_of, eX12_soldFor, eX12_bargain_l86, hF16]
set_option maxRecDepth 100000 in
theorem eX12_bargain_b225     : fX12_bargain_b225  = gX12_bargain_b225  := by simp only [fX12_bargain_b225, gX12_bargain_b225, zgd_t, zmap_ite, zmap_some, zmap_none, zmap_zb0, zmap_zni, zq2_k, zq3_k, zq4_k, zq5_k, zzb1_q, zzb2_q, zzb3_q, zzb4_q, zzb5_q, zmap_zb1, zmap_zb2, zmap_zb3, zmap_zb4, zmap_zb5, zmap_zb6, zmap_zc1, zmap_zc2, zmap_zc3, zmap_zc4, md_ck, md_g41, md_g42, md_p0, md_a41, md_s41, md_a42, md_s42, eX12_boughtFor, eX12_greater, eX12_hand, eX12_isKind, eX12_of, eX12_soldFor, eX12_bargain_l86, eX12_bargain_l56]
set_option maxRecDepth 100000 in
theorem eX12_bargain_l176 {ν : zM} {Y : Nat} {m18 : zMS} {x9_62 : Int32} {v11 : Int32} {v13 : Int32} {x7_68 : Int32} {x8_69 : Int32} {x10_70 : Int32}   (n : Nat) : zf3 (fX12_bargain_l176 (mdl ν Y m18) x9_62 v11 Y v13) n x7_68 x8_69 x10_70 = zf3 (gX12_bargain_l176 x9_62 v11 m18 v13) n x7_68 x8_69 x10_70 := by
  refine zf3_c (fun F71 G71 hF71 x7_68 x8_69 x10_70 => ?_) n x7_68 x8_69 x10_70
  simp only [fX12_bargain_l176, gX12_bargain_l176, zgd_t, zmap_ite, zmap_some, zmap_none, zmap_zb0, zmap_zni, zq2_k, zq3_k, zq4_k, zq5_k, zzb1_q, zzb2_q, zzb3_q, zzb4_q, zzb5_q, zmap_zb1, zmap_zb2, zmap_zb3, zmap_zb4, zmap_zb5, zmap_zb6, zmap_zc1, zmap_zc2, zmap_zc3, zmap_zc4, md_ck, md_g41, md_g42, md_p0, md_a41, md_s41, md_a42, md_s42, eX12_boughtFor, eX12_greater, eX12_hand, eX12_isKind, eX12_of, eX12_soldFor, eX12_bargain_l86, eX12_bargain_l56, eX12_bargain_b225, hF71]
set_option maxRecDepth 100000 in
theorem eX12_bargain_l166 {ν : zM} {Y : Nat} {m18 : zMS} {v11 : Int32} {v13 : Int32} {x7_60 : Int32} {x8_61 : Int32} {x9_62 : Int32}   (n : Nat) : zf3 (fX12_bargain_l166 (mdl ν Y m18) v11 Y v13) n x7_60 x8_61 x9_62 = zf3 (gX12_bargain_l166 v11 m18 v13) n x7_60 x8_61 x9_62 := by
  refine zf3_c (fun F63 G63 hF63 x7_60 x8_61 x9_62 => ?_) n x7_60 x8_61 x9_62
  simp only [fX12_bargain_l166, gX12_bargain_l166, zgd_t, zmap_ite, zmap_some, zmap_none, zmap_zb0, zmap_zni, zq2_k, zq3_k, zq4_k, zq5_k, zzb1_q, zzb2_q, zzb3_q, zzb4_q, zzb5_q, zmap_zb1, zmap_zb2, zmap_zb3, zmap_zb4, zmap_zb5, zmap_zb6, zmap_zc1, zmap_zc2, zmap_zc3, zmap_zc4, md_ck, md_g41, md_g42, md_p0, md_a41, md_s41, md_a42, md_s42, eX12_boughtFor, eX12_greater, eX12_hand, eX12_isKind, eX12_of, eX12_soldFor, eX12_bargain_l86, eX12_bargain_l56, eX12_bargain_b225, eX12_bargain_l176, hF63]
set_option maxRecDepth 100000 in
theorem eX12_bargain {ν : zM} {Y : Nat} {M : zMS} {x1 : Int32} {x2 : Int32} {x3 : Int32} {x4 : Int32}  : fX12_bargain (mdl ν Y M) Y x1 x2 x3 x4 = Option.map (zq2 (mdl ν Y)) (gX12_bargain M x1 x2 x3 x4) := by simp only [fX12_bargain, gX12_bargain, zgd_t, zmap_ite, zmap_some, zmap_none, zmap_zb0, zmap_zni, zq2_k, zq3_k, zq4_k, zq5_k, zzb1_q, zzb2_q, zzb3_q, zzb4_q, zzb5_q, zmap_zb1, zmap_zb2, zmap_zb3, zmap_zb4, zmap_zb5, zmap_zb6, zmap_zc1, zmap_zc2, zmap_zc3, zmap_zc4, md_ck, md_g41, md_g42, md_p0, md_a41, md_s41, md_a42, md_s42, eX12_boughtFor, eX12_greater, eX12_hand, eX12_isKind, eX12_of, eX12_soldFor, eX12_bargain_l86, eX12_bargain_l56, eX12_bargain_b225, eX12_bargain_l176, eX12_bargain_l166]
