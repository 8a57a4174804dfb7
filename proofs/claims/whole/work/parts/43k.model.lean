noncomputable def gX12_asksOn_b64 (M11 : zMS) (s5 : Int32) (x1 : Int32) : Option (zMS) :=
  zb1 (zag 6 (M11.2.2 51) s5) fun v21 =>
  zc1 (if v21 = (-1) then (
  some M11)
  else (
  zb1 (zag 6 (M11.2.2 51) s5) fun v37 =>
  zb1 (zas 6 (M11.2.2 51) v37 (-1)) fun f39 =>
  zb1 (some (zsA M11 51 f39)) fun M39 =>
  some M39) : Option (zMS)) fun (m23 : zMS) =>
  zb1 (zas 6 (m23.2.2 51) s5 x1) fun f27 =>
  zb1 (some (zsA m23 51 f27)) fun M27 =>
  zb1 (zas 6 (M27.2.2 51) x1 s5) fun f31 =>
  zb1 (some (zsA M27 51 f31)) fun M31 =>
  some M31
noncomputable def gX12_asksOn (M : zMS) (x1 : Int32) : Option (Int32 × zMS) :=
  zb1 (zag 6 (M.2.2 51) x1) fun v3 =>
  zb1 (if v3 = (-1) then (
  zb1 (gX12_nextFor M x1) fun v49 =>
  some v49)
  else (
  some (-1)) : Option (Int32)) fun (s5 : Int32) =>
  if s5 = (-1) then (
  some (0, M))
  else (
  zb1 (zag 6 (M.2.2 52) x1) fun v9 =>
  zb1 (zas 6 (M.2.2 52) x1 (v9 ||| (1 <<< (s5 &&& 31)))) fun f11 =>
  zb1 (some (zsA M 52 f11)) fun M11 =>
  zb1 (zag 6 (M11.2.2 51) s5) fun v15 =>
  zc1 (if v15 = (-1) then (
  gX12_asksOn_b64 M11 s5 x1)
  else (
  zb1 (zag 6 (M11.2.2 51) s5) fun v44 =>
  zb1 (gX12_isNearer M11 s5 x1 v44) fun v47 =>
  if v47 = 0 then (
  some M11)
  else (
  gX12_asksOn_b64 M11 s5 x1)) : Option (zMS)) fun (m17 : zMS) =>
  some (1, m17))
set_option maxRecDepth 100000 in
theorem eX12_asksOn_b64 {ν : zM} {Y : Nat} {m11 : zMS} {s5 : Int32} {x1 : Int32}   : fX12_asksOn_b64 (mdl ν Y m11) Y s5 x1  = Option.map (mdl ν Y) (gX12_asksOn_b64 m11 s5 x1 ) := by simp only [fX12_asksOn_b64, gX12_asksOn_b64, zgd_t, zmap_ite, zmap_some, zmap_none, zmap_zb0, zmap_zni, zq2_k, zq3_k, zq4_k, zq5_k, zzc1_some, zzc2_some, zzc3_some, zzc4_some, zzc5_some, zzc6_some, zzb1_q, zzb2_q, zzb3_q, zzb4_q, zzb5_q, zzc1_q, zzc2_q, zzc3_q, zzc4_q, zzc5_q, zmap_zb1, zmap_zb2, zmap_zb3, zmap_zb4, zmap_zb5, zmap_zb6, zzc1_ite, zzc2_ite, zzc3_ite, zzc4_ite, zmap_zc1, zmap_zc2, zmap_zc3, zmap_zc4, zzc1_zb0, zzc1_zb1, zzc1_zb2, zzc1_zb3, zzc1_zb4, zzc2_zb0, zzc2_zb1, zzc2_zb2, zzc2_zb3, zzc2_zb4, zzc3_zb0, zzc3_zb1, zzc3_zb2, zzc3_zb3, zzc3_zb4, zzc4_zb0, zzc4_zb1, zzc4_zb2, zzc4_zb3, zzc4_zb4, md_ck, md_g51, md_g52, md_a51, md_s51, md_a52, md_s52, eX12_isNearer, eX12_nextFor]
set_option maxRecDepth 100000 in
theorem eX12_asksOn {ν : zM} {Y : Nat} {M : zMS} {x1 : Int32}  : fX12_asksOn (mdl ν Y M) Y x1 = Option.map (zq2 (mdl ν Y)) (gX12_asksOn M x1) := by simp only [fX12_asksOn, gX12_asksOn, zgd_t, zmap_ite, zmap_some, zmap_none, zmap_zb0, zmap_zni, zq2_k, zq3_k, zq4_k, zq5_k, zzc1_some, zzc2_some, zzc3_some, zzc4_some, zzc5_some, zzc6_some, zzb1_q, zzb2_q, zzb3_q, zzb4_q, zzb5_q, zzc1_q, zzc2_q, zzc3_q, zzc4_q, zzc5_q, zmap_zb1, zmap_zb2, zmap_zb3, zmap_zb4, zmap_zb5, zmap_zb6, zzc1_ite, zzc2_ite, zzc3_ite, zzc4_ite, zmap_zc1, zmap_zc2, zmap_zc3, zmap_zc4, zzc1_zb0, zzc1_zb1, zzc1_zb2, zzc1_zb3, zzc1_zb4, zzc2_zb0, zzc2_zb1, zzc2_zb2, zzc2_zb3, zzc2_zb4, zzc3_zb0, zzc3_zb1, zzc3_zb2, zzc3_zb3, zzc3_zb4, zzc4_zb0, zzc4_zb1, zzc4_zb2, zzc4_zb3, zzc4_zb4, md_ck, md_g51, md_g52, md_a51, md_s51, md_a52, md_s52, eX12_isNearer, eX12_nextFor, eX12_asksOn_b64]
noncomputable def gX12_matched_l25  (F10 : Int32 → zMS → Option (zMS)) (x3_8 : Int32) (m9 : zMS) : Option (zMS) :=
  if 6 ≤ x3_8 then (
  some m9)
  else (
  zb1 (zas 6 (m9.2.2 51) x3_8 (-1)) fun f16 =>
  zb1 (some (zsA m9 51 f16)) fun M16 =>
  zb1 (zas 6 (M16.2.2 52) x3_8 0) fun f20 =>
  zb1 (some (zsA M16 52 f20)) fun M20 =>
  F10 (x3_8 + 1) M20)
noncomputable def gX12_matched_b94 (m44 : zMS) : Option (Int32 × zMS) :=
  some (0, m44)
noncomputable def gX12_matched_l62  (F32 : Int32 → Int32 → zMS → Option (Int32 × zMS)) (x3_29 : Int32) (x4_30 : Int32) (m31 : zMS) : Option (Int32 × zMS) :=
  if (m31.1 25) ≤ x4_30 then (
  some (x3_29, m31))
  else (
  zb1 (gX12_isKind m31 x4_30 0) fun v40 =>
  zc2 (if v40 = 0 then (
  gX12_matched_b94 m31)
  else (
  zb2 (gX12_asksOn m31 x4_30) fun v50 M49 =>
  if v50 = 0 then (
  gX12_matched_b94 M49)
  else (
  some (1, M49))) : Option (Int32 × zMS)) fun (s41 : Int32) (m42 : zMS) =>
  zb1 (if x3_29 = 0 then (
  if s41 = 0 then (
  some 0)
  else (
  some 1))
  else (
  some 1) : Option (Int32)) fun (s46 : Int32) =>
  F32 s46 (x4_30 + 1) m42)
noncomputable def gX12_matched_l53  (F25 : Int32 → zMS → Option (zMS)) (x3_23 : Int32) (m24 : zMS) : Option (zMS) :=
  if x3_23 = 0 then (
  some m24)
  else (
  zb2 (zf3 gX12_matched_l62 zfu 0 0 m24 : Option (Int32 × zMS)) fun (x3_34 : Int32) (m35 : zMS) =>
  F25 x3_34 m35)
noncomputable def gX12_matched (M : zMS) (x1 : Int32) (x2 : Int32) : Option (Int32 × zMS) :=
  zb1 (some (zsI M 0 0)) fun M1 =>
  zb2 (gX12_hand M1 x1) fun v5 M4 =>
  if v5 = 0 then (
  some ((-1), M4))
  else (
  zb1 (gX12_isPerson M4 x2) fun v7 =>
  if v7 = 0 then (
  some ((-1), M4))
  else (
  zb1 (zf2 gX12_matched_l25 zfu 0 M4 : Option (zMS)) fun (m12 : zMS) =>
  zb1 (zf2 gX12_matched_l53 zfu 1 m12 : Option (zMS)) fun (m27 : zMS) =>
  zb1 (zag 6 (m27.2.2 51) x2) fun v55 =>
  some (v55, m27)))
set_option maxRecDepth 100000 in
theorem eX12_matched_l25 {ν : zM} {Y : Nat} {x3_8 : Int32} {m9 : zMS}   (n : Nat) : zf2 (fX12_matched_l25 Y) n x3_8 (mdl ν Y m9) = Option.map (mdl ν Y) (zf2 gX12_matched_l25 n x3_8 m9) := by
  refine zf2_m (fun F10 G10 hF10 x3_8 m9 => ?_) n x3_8 m9
  simp only [fX12_matched_l25, gX12_matched_l25, zgd_t, zmap_ite, zmap_some, zmap_none, zmap_zb0, zmap_zni, zq2_k, zq3_k, zq4_k, zq5_k, zzc1_some, zzc2_some, zzc3_some, zzc4_some, zzc5_some, zzc6_some, zzb1_q, zzb2_q, zzb3_q, zzb4_q, zzb5_q, zzc1_q, zzc2_q, zzc3_q, zzc4_q, zzc5_q, zmap_zb1, zmap_zb2, zmap_zb3, zmap_zb4, zmap_zb5, zmap_zb6, zzc1_ite, zzc2_ite, zzc3_ite, zzc4_ite, zmap_zc1, zmap_zc2, zmap_zc3, zmap_zc4, zzc1_zb0, zzc1_zb1, zzc1_zb2, zzc1_zb3, zzc1_zb4, zzc2_zb0, zzc2_zb1, zzc2_zb2, zzc2_zb3, zzc2_zb4, zzc3_zb0, zzc3_zb1, zzc3_zb2, zzc3_zb3, zzc3_zb4, zzc4_zb0, zzc4_zb1, zzc4_zb2, zzc4_zb3, zzc4_zb4, md_ck, md_g25, md_g51, md_g52, md_p0, md_a51, md_s51, md_a52, md_s52, eX12_asksOn, eX12_hand, eX12_isKind, eX12_isPerson, hF10]
set_option maxRecDepth 100000 in
theorem eX12_matched_b94 {ν : zM} {Y : Nat} {m44 : zMS}   : fX12_matched_b94 (mdl ν Y m44) = Option.map (zq2 (mdl ν Y)) (gX12_matched_b94 m44) := by simp only [fX12_matched_b94, gX12_matched_b94, zgd_t, zmap_ite, zmap_some, zmap_none, zmap_zb0, zmap_zni, zq2_k, zq3_k, zq4_k, zq5_k, zzc1_some, zzc2_some, zzc3_some, zzc4_some, zzc5_some, zzc6_some, zzb1_q, zzb2_q, zzb3_q, zzb4_q, zzb5_q, zzc1_q, zzc2_q, zzc3_q, zzc4_q, zzc5_q, zmap_zb1, zmap_zb2, zmap_zb3, zmap_zb4, zmap_zb5, zmap_zb6, zzc1_ite, zzc2_ite, zzc3_ite, zzc4_ite, zmap_zc1, zmap_zc2, zmap_zc3, zmap_zc4, zzc1_zb0, zzc1_zb1, zzc1_zb2, zzc1_zb3, zzc1_zb4, zzc2_zb0, zzc2_zb1, zzc2_zb2, zzc2_zb3, zzc2_zb4, zzc3_zb0, zzc3_zb1, zzc3_zb2, zzc3_zb3, zzc3_zb4, zzc4_zb0, zzc4_zb1, zzc4_zb2, zzc4_zb3, zzc4_zb4, md_ck, md_g25, md_g51, md_g52, md_p0, md_a51, md_s51, md_a52, md_s52, eX12_asksOn, eX12_hand, eX12_isKind, eX12_isPerson, eX12_matched_l25]
set_option maxRecDepth 100000 in
theorem eX12_matched_l62 {ν : zM} {Y : Nat} {x3_29 : Int32} {x4_30 : Int32} {m31 : zMS}   (n : Nat) : zf3 (fX12_matched_l62 Y) n x3_29 x4_30 (mdl ν Y m31) = Option.map (zq2 (mdl ν Y)) (zf3 gX12_matched_l62 n x3_29 x4_30 m31) := by
  refine zf3_m (fun F32 G32 hF32 x3_29 x4_30 m31 => ?_) n x3_29 x4_30 m31
  simp only [fX12_matched_l62, gX12_matched_l62, zgd_t, zmap_ite, zmap_some, zmap_none, zmap_zb0, zmap_zni, zq2_k, zq3_k, zq4_k, zq5_k, zzc1_some, zzc2_some, zzc3_some, zzc4_some, zzc5_some, zzc6_some, zzb1_q, zzb2_q, zzb3_q, zzb4_q, zzb5_q, zzc1_q, zzc2_q, zzc3_q, zzc4_q, zzc5_q, zmap_zb1, zmap_zb2, zmap_zb3, zmap_zb4, zmap_zb5, zmap_zb6, zzc1_ite, zzc2_ite, zzc3_ite, zzc4_ite, zmap_zc1, zmap_zc2, zmap_zc3, zmap_zc4, zzc1_zb0, zzc1_zb1, zzc1_zb2, zzc1_zb3, zzc1_zb4, zzc2_zb0, zzc2_zb1, zzc2_zb2, zzc2_zb3, zzc2_zb4, zzc3_zb0, zzc3_zb1, zzc3_zb2, zzc3_zb3, zzc3_zb4, zzc4_zb0, zzc4_zb1, zzc4_zb2, zzc4_zb3, zzc4_zb4, md_ck, md_g25, md_g51, md_g52, md_p0, md_a51, md_s51, md_a52, md_s52, eX12_asksOn, eX12_hand, eX12_isKind, eX12_isPerson, eX12_matched_l25, eX12_matched_b94, hF32]
set_option maxRecDepth 100000 in
theorem eX12_matched_l53 {ν : zM} {Y : Nat} {x3_23 : Int32} {m24 : zMS}   (n : Nat) : zf2 (fX12_matched_l53 Y) n x3_23 (mdl ν Y m24) = Option.map (mdl ν Y) (zf2 gX12_matched_l53 n x3_23 m24) := by
  refine zf2_m (fun F25 G25 hF25 x3_23 m24 => ?_) n x3_23 m24
  simp only [fX12_matched_l53, gX12_matched_l53, zgd_t, zmap_ite, zmap_some, zmap_none, zmap_zb0, zmap_zni, zq2_k, zq3_k, zq4_k, zq5_k, zzc1_some, zzc2_some, zzc3_some, zzc4_some, zzc5_some, zzc6_some, zzb1_q, zzb2_q, zzb3_q, zzb4_q, zzb5_q, zzc1_q, zzc2_q, zzc3_q, zzc4_q, zzc5_q, zmap_zb1, zmap_zb2, zmap_zb3, zmap_zb4, zmap_zb5, zmap_zb6, zzc1_ite, zzc2_ite, zzc3_ite, zzc4_ite, zmap_zc1, zmap_zc2, zmap_zc3, zmap_zc4, zzc1_zb0, zzc1_zb1, zzc1_zb2, zzc1_zb3, zzc1_zb4, zzc2_zb0, zzc2_zb1, zzc2_zb2, zzc2_zb3, zzc2_zb4, zzc3_zb0, zzc3_zb1, zzc3_zb2, zzc3_zb3, zzc3_zb4, zzc4_zb0, zzc4_zb1, zzc4_zb2, zzc4_zb3, zzc4_zb4, md_ck, md_g25, md_g51, md_g52, md_p0, md_a51, md_s51, md_a52, md_s52, eX12_asksOn, eX12_hand, eX12_isKind, eX12_isPerson, eX12_matched_l25, eX12_matched_b94, eX12_matched_l62, hF25]
set_option maxRecDepth 100000 in
theorem eX12_matched {ν : zM} {Y : Nat} {M : zMS} {x1 : Int32} {x2 : Int32}  : fX12_matched (mdl ν Y M) Y x1 x2 = Option.map (zq2 (mdl ν Y)) (gX12_matched M x1 x2) := by simp only [fX12_matched, gX12_matched, zgd_t, zmap_ite, zmap_some, zmap_none, zmap_zb0, zmap_zni, zq2_k, zq3_k, zq4_k, zq5_k, zzc1_some, zzc2_some, zzc3_some, zzc4_some, zzc5_some, zzc6_some, zzb1_q, zzb2_q, zzb3_q, zzb4_q, zzb5_q, zzc1_q, zzc2_q, zzc3_q, zzc4_q, zzc5_q, zmap_zb1, zmap_zb2, zmap_zb3, zmap_zb4, zmap_zb5, zmap_zb6, zzc1_ite, zzc2_ite, zzc3_ite, zzc4_ite, zmap_zc1, zmap_zc2, zmap_zc3, zmap_zc4, zzc1_zb0, zzc1_zb1, zzc1_zb2, zzc1_zb3, zzc1_zb4, zzc2_zb0, zzc2_zb1, zzc2_zb2, zzc2_zb3, zzc2_zb4, zzc3_zb0, zzc3_zb1, zzc3_zb2, zzc3_zb3, zzc3_zb4, zzc4_zb0, zzc4_zb1, zzc4_zb2, zzc4_zb3, zzc4_zb4, md_ck, md_g25, md_g51, md_g52, md_p0, md_a51, md_s51, md_a52, md_s52, eX12_asksOn, eX12_hand, eX12_isKind, eX12_isPerson, eX12_matched_l25, eX12_matched_b94, eX12_matched_l62, eX12_matched_l53]
noncomputable def gX12_count (M : zMS) (x1 : Int32) : Option (Int32 × zMS) :=
  zb1 (some (zsI M 0 0)) fun M1 =>
  zb1 (gX12_in x1 0 3) fun v4 =>
  zb1 (if v4 = 0 then (
  some (-2))
  else (
  zb1 (zag 16 (M1.2.2 5) x1) fun v9 =>
  some v9) : Option (Int32)) fun (s5 : Int32) =>
  some (s5, M1)
set_option maxRecDepth 100000 in
theorem eX12_count {ν : zM} {Y : Nat} {M : zMS} {x1 : Int32}  : fX12_count (mdl ν Y M) Y x1 = Option.map (zq2 (mdl ν Y)) (gX12_count M x1) := by simp only [fX12_count, gX12_count, zgd_t, zmap_ite, zmap_some, zmap_none, zmap_zb0, zmap_zni, zq2_k, zq3_k, zq4_k, zq5_k, zzb1_q, zzb2_q, zzb3_q, zzb4_q, zzb5_q, zmap_zb1, zmap_zb2, zmap_zb3, zmap_zb4, zmap_zb5, zmap_zb6, zmap_zc1, zmap_zc2, zmap_zc3, zmap_zc4, md_ck, md_g5, md_p0, md_a5, md_s5, eX12_in]
noncomputable def gX12_image (M : zMS) (x1 : Int32) : Option (Int32 × zMS) :=
  zb1 (some (zsI M 0 0)) fun M1 =>
  zb1 (gX12_in x1 0 2) fun v4 =>
  if v4 = 0 then (
  some (0, M1))
  else (
  zb1 (gX12_copyAll M1 0 (x1 + 1)) fun M6 =>
  zb1 (zas 3 (M6.2.2 53) x1 (vp_nar .boolean 1)) fun f9 =>
  zb1 (some (zsA M6 53 f9)) fun M9 =>
  some (1, M9))
set_option maxRecDepth 100000 in
theorem eX12_image {ν : zM} {Y : Nat} {M : zMS} {x1 : Int32}  : fX12_image (mdl ν Y M) Y x1 = Option.map (zq2 (mdl ν Y)) (gX12_image M x1) := by simp only [fX12_image, gX12_image, zgd_t, zmap_ite, zmap_some, zmap_none, zmap_zb0, zmap_zni, zq2_k, zq3_k, zq4_k, zq5_k, zzb1_q, zzb2_q, zzb3_q, zzb4_q, zzb5_q, zmap_zb1, zmap_zb2, zmap_zb3, zmap_zb4, zmap_zb5, zmap_zb6, zmap_zc1, zmap_zc2, zmap_zc3, zmap_zc4, md_ck, md_g53, md_p0, md_a53, md_s53, eX12_copyAll, eX12_in]
noncomputable def gX12_again (M : zMS) (x1 : Int32) : Option (Int32 × zMS) :=
  zb1 (some (zsI M 0 0)) fun M1 =>
  zb1 (gX12_in x1 0 2) fun v4 =>
  if v4 = 0 then (
  some (0, M1))
  else (
  zb1 (zag 3 (M1.2.2 53) x1) fun v7 =>
  if v7 = 0 then (
  some (0, M1))
  else (
  zb1 (gX12_copyAll M1 (x1 + 1) 0) fun M10 =>
  some (1, M10)))
set_option maxRecDepth 100000 in
theorem eX12_again {ν : zM} {Y : Nat} {M : zMS} {x1 : Int32}  : fX12_again (mdl ν Y M) Y x1 = Option.map (zq2 (mdl ν Y)) (gX12_again M x1) := by simp only [fX12_again, gX12_again, zgd_t, zmap_ite, zmap_some, zmap_none, zmap_zb0, zmap_zni, zq2_k, zq3_k, zq4_k, zq5_k, zzb1_q, zzb2_q, zzb3_q, zzb4_q, zzb5_q, zmap_zb1, zmap_zb2, zmap_zb3, zmap_zb4, zmap_zb5, zmap_zb6, zmap_zc1, zmap_zc2, zmap_zc3, zmap_zc4, md_ck, md_g53, md_p0, md_a53, md_s53, eX12_copyAll, eX12_in]
