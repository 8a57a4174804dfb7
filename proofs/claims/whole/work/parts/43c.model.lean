noncomputable def gX12_lines_l2 (x1 : Int32) (F3 : Int32 → zMS → Option (Int32 × zMS)) (x2_1 : Int32) (m2 : zMS) : Option (Int32 × zMS) :=
  if x2_1 = 0 then (
  some (x2_1, m2))
  else (
  if (m2.1 13) = 0 then (
  some (x2_1, m2))
  else (
  zb1 (some (zsI m2 22 1)) fun M12 =>
  zb1 (if (M12.1 13) = 2 then (
  some (M12.2.1 15))
  else (
  some 0) : Option (Int64)) fun (s16 : Int64) =>
  zb2 (gX12_lineOf M12 x1 s16 (m2.1 12)) fun v20 M19 =>
  zc2 (if v20 = 0 then (
  some (v20, M19))
  else (
  if (M19.1 13) = 4 then (
  some (v20, M19))
  else (
  zb2 (gX12_fails M19) fun v32 M31 =>
  some (v32, M31))) : Option (Int32 × zMS)) fun (x2_21 : Int32) (m22 : zMS) =>
  zc1 (if x2_21 = 0 then (
  some m22)
  else (
  zb1 (gX12_token m22) fun M27 =>
  some M27) : Option (zMS)) fun (m24 : zMS) =>
  F3 x2_21 m24))
noncomputable def gX12_lines (M : zMS) (x1 : Int32) : Option (Int32 × zMS) :=
  zb2 (zf2 (gX12_lines_l2 x1) zfu 1 M : Option (Int32 × zMS)) fun (x2_5 : Int32) (m6 : zMS) =>
  zb1 (zbz x2_5) fun v36 =>
  some (v36, m6)
set_option maxRecDepth 100000 in
theorem eX12_lines_l2 {ν : zM} {Y : Nat} {x1 : Int32} {x2_1 : Int32} {m2 : zMS}   (n : Nat) : zf2 (fX12_lines_l2 Y x1) n x2_1 (mdl ν Y m2) = Option.map (zq2 (mdl ν Y)) (zf2 (gX12_lines_l2 x1) n x2_1 m2) := by
  refine zf2_m (fun F3 G3 hF3 x2_1 m2 => ?_) n x2_1 m2
  simp only [fX12_lines_l2, gX12_lines_l2, zgd_t, zmap_ite, zmap_some, zmap_none, zmap_zb0, zmap_zni, zq2_k, zq3_k, zq4_k, zq5_k, zzc1_some, zzc2_some, zzc3_some, zzc4_some, zzc5_some, zzc6_some, zzb1_q, zzb2_q, zzb3_q, zzb4_q, zzb5_q, zzc1_q, zzc2_q, zzc3_q, zzc4_q, zzc5_q, zmap_zb1, zmap_zb2, zmap_zb3, zmap_zb4, zmap_zb5, zmap_zb6, zzc1_ite, zzc2_ite, zzc3_ite, zzc4_ite, zmap_zc1, zmap_zc2, zmap_zc3, zmap_zc4, zzc1_zb0, zzc1_zb1, zzc1_zb2, zzc1_zb3, zzc1_zb4, zzc2_zb0, zzc2_zb1, zzc2_zb2, zzc2_zb3, zzc2_zb4, zzc3_zb0, zzc3_zb1, zzc3_zb2, zzc3_zb3, zzc3_zb4, zzc4_zb0, zzc4_zb1, zzc4_zb2, zzc4_zb3, zzc4_zb4, md_ck, md_g12, md_g13, md_g15, md_p22, eX12_fails, eX12_lineOf, eX12_token, hF3]
set_option maxRecDepth 100000 in
theorem eX12_lines {ν : zM} {Y : Nat} {M : zMS} {x1 : Int32}  : fX12_lines (mdl ν Y M) Y x1 = Option.map (zq2 (mdl ν Y)) (gX12_lines M x1) := by simp only [fX12_lines, gX12_lines, zgd_t, zmap_ite, zmap_some, zmap_none, zmap_zb0, zmap_zni, zq2_k, zq3_k, zq4_k, zq5_k, zzc1_some, zzc2_some, zzc3_some, zzc4_some, zzc5_some, zzc6_some, zzb1_q, zzb2_q, zzb3_q, zzb4_q, zzb5_q, zzc1_q, zzc2_q, zzc3_q, zzc4_q, zzc5_q, zmap_zb1, zmap_zb2, zmap_zb3, zmap_zb4, zmap_zb5, zmap_zb6, zzc1_ite, zzc2_ite, zzc3_ite, zzc4_ite, zmap_zc1, zmap_zc2, zmap_zc3, zmap_zc4, zzc1_zb0, zzc1_zb1, zzc1_zb2, zzc1_zb3, zzc1_zb4, zzc2_zb0, zzc2_zb1, zzc2_zb2, zzc2_zb3, zzc2_zb4, zzc3_zb0, zzc3_zb1, zzc3_zb2, zzc3_zb3, zzc3_zb4, zzc4_zb0, zzc4_zb1, zzc4_zb2, zzc4_zb3, zzc4_zb4, md_ck, md_g12, md_g13, md_g15, md_p22, eX12_fails, eX12_lineOf, eX12_token, eX12_lines_l2]
noncomputable def gX12_blank_l2  (F3 : Int32 → zMS → Option (zMS)) (x2_1 : Int32) (m2 : zMS) : Option (zMS) :=
  if 121 ≤ x2_1 then (
  some m2)
  else (
  zb1 (zas 121 (m2.2.2 19) x2_1 0) fun f9 =>
  zb1 (some (zsA m2 19 f9)) fun M9 =>
  F3 (x2_1 + 1) M9)
noncomputable def gX12_blank_l23 (x1 : Int32) (F14 : Int32 → zMS → Option (zMS)) (x2_12 : Int32) (m13 : zMS) : Option (zMS) :=
  if 8 ≤ x2_12 then (
  some m13)
  else (
  if x1 = 0 then (
  zb1 (zas 121 (m13.2.2 19) (3 + x2_12) x2_12) fun f20 =>
  zb1 (some (zsA m13 19 f20)) fun M20 =>
  zb1 (zas 121 (M20.2.2 19) (19 + x2_12) 1) fun f24 =>
  zb1 (some (zsA M20 19 f24)) fun M24 =>
  F14 (x2_12 + 1) M24)
  else (
  some m13))
noncomputable def gX12_blank (M : zMS) (x1 : Int32) : Option (zMS) :=
  zb1 (zf2 gX12_blank_l2 zfu 0 M : Option (zMS)) fun (m5 : zMS) =>
  zb1 (zf2 (gX12_blank_l23 x1) zfu 0 m5 : Option (zMS)) fun (m16 : zMS) =>
  zb1 (if x1 = 0 then (
  some 12)
  else (
  some 0) : Option (Int32)) fun (s29 : Int32) =>
  zb1 (zas 121 (m16.2.2 19) 0 s29) fun f31 =>
  zb1 (some (zsA m16 19 f31)) fun M31 =>
  some M31
set_option maxRecDepth 100000 in
theorem eX12_blank_l2 {ν : zM} {Y : Nat} {x2_1 : Int32} {m2 : zMS}   (n : Nat) : zf2 (fX12_blank_l2 Y) n x2_1 (mdl ν Y m2) = Option.map (mdl ν Y) (zf2 gX12_blank_l2 n x2_1 m2) := by
  refine zf2_m (fun F3 G3 hF3 x2_1 m2 => ?_) n x2_1 m2
  simp only [fX12_blank_l2, gX12_blank_l2, zgd_t, zmap_ite, zmap_some, zmap_none, zmap_zb0, zmap_zni, zq2_k, zq3_k, zq4_k, zq5_k, zzb1_q, zzb2_q, zzb3_q, zzb4_q, zzb5_q, zmap_zb1, zmap_zb2, zmap_zb3, zmap_zb4, zmap_zb5, zmap_zb6, zmap_zc1, zmap_zc2, zmap_zc3, zmap_zc4, md_ck, md_g19, md_a19, md_s19, hF3]
set_option maxRecDepth 100000 in
theorem eX12_blank_l23 {ν : zM} {Y : Nat} {x1 : Int32} {x2_12 : Int32} {m13 : zMS}   (n : Nat) : zf2 (fX12_blank_l23 x1 Y) n x2_12 (mdl ν Y m13) = Option.map (mdl ν Y) (zf2 (gX12_blank_l23 x1) n x2_12 m13) := by
  refine zf2_m (fun F14 G14 hF14 x2_12 m13 => ?_) n x2_12 m13
  simp only [fX12_blank_l23, gX12_blank_l23, zgd_t, zmap_ite, zmap_some, zmap_none, zmap_zb0, zmap_zni, zq2_k, zq3_k, zq4_k, zq5_k, zzb1_q, zzb2_q, zzb3_q, zzb4_q, zzb5_q, zmap_zb1, zmap_zb2, zmap_zb3, zmap_zb4, zmap_zb5, zmap_zb6, zmap_zc1, zmap_zc2, zmap_zc3, zmap_zc4, md_ck, md_g19, md_a19, md_s19, eX12_blank_l2, hF14]
set_option maxRecDepth 100000 in
theorem eX12_blank {ν : zM} {Y : Nat} {M : zMS} {x1 : Int32}  : fX12_blank (mdl ν Y M) Y x1 = Option.map (mdl ν Y) (gX12_blank M x1) := by simp only [fX12_blank, gX12_blank, zgd_t, zmap_ite, zmap_some, zmap_none, zmap_zb0, zmap_zni, zq2_k, zq3_k, zq4_k, zq5_k, zzb1_q, zzb2_q, zzb3_q, zzb4_q, zzb5_q, zmap_zb1, zmap_zb2, zmap_zb3, zmap_zb4, zmap_zb5, zmap_zb6, zmap_zc1, zmap_zc2, zmap_zc3, zmap_zc4, md_ck, md_g19, md_a19, md_s19, eX12_blank_l2, eX12_blank_l23]
noncomputable def gX12_readText (M : zMS) (x1 : Int32) : Option (Int32 × zMS) :=
  zb1 (gX12_blank M x1) fun M2 =>
  zb1 (some (zsI M2 21 (-1))) fun M3 =>
  zb1 (some (zsI M3 10 0)) fun M5 =>
  zb1 (some (zsI M5 17 0)) fun M7 =>
  zb1 (gX12_token M7) fun M10 =>
  zb2 (gX12_lines M10 x1) fun v13 M12 =>
  zc1 (if v13 = 0 then (
  some M12)
  else (
  if x1 = 0 then (
  if (M12.1 17) = 0 then (
  zb1 (zag 121 (M12.2.2 19) 0) fun v50 =>
  if (M12.1 21) ≤ v50 then (
  some M12)
  else (
  zb1 (gX12_later M12 4 (M12.1 12)) fun M55 =>
  some M55))
  else (
  some M12))
  else (
  some M12)) : Option (zMS)) fun (m14 : zMS) =>
  zb1 (if v13 = 0 then (
  some 1)
  else (
  some (m14.1 17)) : Option (Int32)) fun (s18 : Int32) =>
  zb1 (zas 4 (m14.2.2 3) 0 s18) fun f20 =>
  zb1 (some (zsA m14 3 f20)) fun M20 =>
  zb1 (if v13 = 0 then (
  some (M20.1 16))
  else (
  if (M20.1 17) ≤ 0 then (
  some (-1))
  else (
  some (M20.1 18))) : Option (Int32)) fun (s24 : Int32) =>
  zb1 (zas 4 (M20.2.2 4) 0 s24) fun f26 =>
  zb1 (some (zsA M20 4 f26)) fun M26 =>
  zb1 (zag 4 (M26.2.2 3) 0) fun v30 =>
  zb1 (if v30 = 0 then (
  some 1)
  else (
  some 0) : Option (Int32)) fun (s32 : Int32) =>
  zb1 (zbz s32) fun v34 =>
  some (v34, M26)
set_option maxRecDepth 100000 in
theorem eX12_readText {ν : zM} {Y : Nat} {M : zMS} {x1 : Int32}  : fX12_readText (mdl ν Y M) Y x1 = Option.map (zq2 (mdl ν Y)) (gX12_readText M x1) := by simp only [fX12_readText, gX12_readText, zgd_t, zmap_ite, zmap_some, zmap_none, zmap_zb0, zmap_zni, zq2_k, zq3_k, zq4_k, zq5_k, zzc1_some, zzc2_some, zzc3_some, zzc4_some, zzc5_some, zzc6_some, zzb1_q, zzb2_q, zzb3_q, zzb4_q, zzb5_q, zzc1_q, zzc2_q, zzc3_q, zzc4_q, zzc5_q, zmap_zb1, zmap_zb2, zmap_zb3, zmap_zb4, zmap_zb5, zmap_zb6, zzc1_ite, zzc2_ite, zzc3_ite, zzc4_ite, zmap_zc1, zmap_zc2, zmap_zc3, zmap_zc4, zzc1_zb0, zzc1_zb1, zzc1_zb2, zzc1_zb3, zzc1_zb4, zzc2_zb0, zzc2_zb1, zzc2_zb2, zzc2_zb3, zzc2_zb4, zzc3_zb0, zzc3_zb1, zzc3_zb2, zzc3_zb3, zzc3_zb4, zzc4_zb0, zzc4_zb1, zzc4_zb2, zzc4_zb3, zzc4_zb4, md_ck, md_g3, md_g4, md_g12, md_g16, md_g17, md_g18, md_g19, md_g21, md_p10, md_p17, md_p21, md_a3, md_s3, md_a4, md_s4, md_a19, md_s19, eX12_blank, eX12_later, eX12_lines, eX12_token]
noncomputable def gX12_store_l3 (x2 : Int32) (x1 : Nat) (x3 : Int32) (F3 : Int32 → zMS → Option (zMS)) (x4_1 : Int32) (m2 : zMS) : Option (zMS) :=
  if x2 ≤ x4_1 then (
  some m2)
  else (
  zb1 (zag 121 (m2.2.2 19) x4_1) fun v9 =>
  zb1 (zas (mln x1) (m2.2.2 x1) ((x2 * x3) + x4_1) v9) fun f11 =>
  zb1 (some (zsA m2 x1 f11)) fun M11 =>
  F3 (x4_1 + 1) M11)
noncomputable def gX12_store (M : zMS) (x1 : Nat) (x2 : Int32) (x3 : Int32) : Option (zMS) :=
  zb1 (zf2 (gX12_store_l3 x2 x1 x3) zfu 0 M : Option (zMS)) fun (m5 : zMS) =>
  some m5
set_option maxRecDepth 100000 in
theorem eX12_store_l3 {ν : zM} {Y : Nat} {x2 : Int32} {x1 : Nat} {x3 : Int32} {x4_1 : Int32} {m2 : zMS}  (hkx1 : mia x1 = true) (n : Nat) : zf2 (fX12_store_l3 x2 Y (Y + mof x1) x3) n x4_1 (mdl ν Y m2) = Option.map (mdl ν Y) (zf2 (gX12_store_l3 x2 x1 x3) n x4_1 m2) := by
  refine zf2_m (fun F3 G3 hF3 x4_1 m2 => ?_) n x4_1 m2
  simp only [fX12_store_l3, gX12_store_l3, zgd_t, zmap_ite, zmap_some, zmap_none, zmap_zb0, zmap_zni, zq2_k, zq3_k, zq4_k, zq5_k, zzb1_q, zzb2_q, zzb3_q, zzb4_q, zzb5_q, zmap_zb1, zmap_zb2, zmap_zb3, zmap_zb4, zmap_zb5, zmap_zb6, zmap_zc1, zmap_zc2, zmap_zc3, zmap_zc4, md_ck, md_g19, md_a19, md_s19, md_aG hkx1, md_sG hkx1, hF3]
set_option maxRecDepth 100000 in
theorem eX12_store {ν : zM} {Y : Nat} {M : zMS} {x1 : Nat} {x2 : Int32} {x3 : Int32} (hkx1 : mia x1 = true) : fX12_store (mdl ν Y M) Y (Y + mof x1) x2 x3 = Option.map (mdl ν Y) (gX12_store M x1 x2 x3) := by simp only [fX12_store, gX12_store, zgd_t, zmap_ite, zmap_some, zmap_none, zmap_zb0, zmap_zni, zq2_k, zq3_k, zq4_k, zq5_k, zzb1_q, zzb2_q, zzb3_q, zzb4_q, zzb5_q, zmap_zb1, zmap_zb2, zmap_zb3, zmap_zb4, zmap_zb5, zmap_zb6, zmap_zc1, zmap_zc2, zmap_zc3, zmap_zc4, md_ck, md_g19, md_a19, md_s19, (eX12_store_l3 hkx1), md_aG hkx1, md_sG hkx1]
set_option maxRecDepth 100000 in
theorem eX12_store_6 {ν : zM} {Y : Nat} {M : zMS} {x2 x3 : Int32} : fX12_store (mdl ν Y M) Y (Y + 6) x2 x3 = Option.map (mdl ν Y) (gX12_store M 6 x2 x3) := eX12_store (x1 := 6) rfl
set_option maxRecDepth 100000 in
theorem eX12_store_7 {ν : zM} {Y : Nat} {M : zMS} {x2 x3 : Int32} : fX12_store (mdl ν Y M) Y (Y + 7) x2 x3 = Option.map (mdl ν Y) (gX12_store M 7 x2 x3) := eX12_store (x1 := 7) rfl
set_option maxRecDepth 100000 in
theorem eX12_store_8 {ν : zM} {Y : Nat} {M : zMS} {x2 x3 : Int32} : fX12_store (mdl ν Y M) Y (Y + 8) x2 x3 = Option.map (mdl ν Y) (gX12_store M 8 x2 x3) := eX12_store (x1 := 8) rfl
set_option maxRecDepth 100000 in
theorem eX12_store_9 {ν : zM} {Y : Nat} {M : zMS} {x2 x3 : Int32} : fX12_store (mdl ν Y M) Y (Y + 9) x2 x3 = Option.map (mdl ν Y) (gX12_store M 9 x2 x3) := eX12_store (x1 := 9) rfl
noncomputable def gX12_storeAll (M : zMS) (x1 : Int32) (x2 : Int32) : Option (zMS) :=
  if x1 = 0 then (
  zb1 (gX12_store M 6 57 x2) fun M4 =>
  some M4)
  else (
  if x1 = 1 then (
  zb1 (gX12_store M 7 121 x2) fun M9 =>
  some M9)
  else (
  if x1 = 2 then (
  zb1 (gX12_store M 8 22 x2) fun M14 =>
  some M14)
  else (
  zb1 (gX12_store M 9 33 x2) fun M19 =>
  some M19)))
set_option maxRecDepth 100000 in
theorem eX12_storeAll {ν : zM} {Y : Nat} {M : zMS} {x1 : Int32} {x2 : Int32}  : fX12_storeAll (mdl ν Y M) Y x1 x2 = Option.map (mdl ν Y) (gX12_storeAll M x1 x2) := by simp only [fX12_storeAll, gX12_storeAll, zgd_t, zmap_ite, zmap_some, zmap_none, zmap_zb0, zmap_zni, zq2_k, zq3_k, zq4_k, zq5_k, zzb1_q, zzb2_q, zzb3_q, zzb4_q, zzb5_q, zmap_zb1, zmap_zb2, zmap_zb3, zmap_zb4, zmap_zb5, zmap_zb6, zmap_zc1, zmap_zc2, zmap_zc3, zmap_zc4, md_ck, md_g6, md_g7, md_g8, md_g9, md_a6, md_s6, md_a7, md_s7, md_a8, md_s8, md_a9, md_s9, eX12_store_6, eX12_store_7, eX12_store_8, eX12_store_9]
noncomputable def gX12_text_b75 (M19 : zMS) (x1 : Int32) (x2 : Int32) : Option (Int32 × zMS) :=
  zb2 (gX12_readText M19 x1) fun v25 M24 =>
  if v25 = 0 then (
  some ((-1), M24))
  else (
  zb1 (if x2 = (-1) then (
  zb1 (zag 16 (M24.2.2 5) x1) fun v40 =>
  some v40)
  else (
  some x2) : Option (Int32)) fun (s26 : Int32) =>
  zb1 (zag 16 (M24.2.2 5) x1) fun v30 =>
  zb1 (if x2 = (-1) then (
  some 1)
  else (
  some 0) : Option (Int32)) fun (s32 : Int32) =>
  zb1 (zas 16 (M24.2.2 5) x1 (v30 + s32)) fun f34 =>
  zb1 (some (zsA M24 5 f34)) fun M34 =>
  zb1 (gX12_storeAll M34 x1 s26) fun M37 =>
  some (s26, M37))
noncomputable def gX12_text (M : zMS) (x1 : Int32) (x2 : Int32) : Option (Int32 × zMS) :=
  zb1 (some (zsI M 0 0)) fun M1 =>
  zb1 (zag 4 (M1.2.2 2) 0) fun v5 =>
  zb1 (some (zsI M1 11 v5)) fun M7 =>
  zb1 (zas 4 (M7.2.2 2) 0 0) fun f11 =>
  zb1 (some (zsA M7 2 f11)) fun M11 =>
  zb1 (zas 4 (M11.2.2 3) 0 0) fun f15 =>
  zb1 (some (zsA M11 3 f15)) fun M15 =>
  zb1 (zas 4 (M15.2.2 4) 0 (-1)) fun f19 =>
  zb1 (some (zsA M15 4 f19)) fun M19 =>
  zb1 (gX12_in x1 0 3) fun v22 =>
  if v22 = 0 then (
  some ((-2), M19))
  else (
  if x2 = (-1) then (
  zb1 (zag 16 (M19.2.2 5) x1) fun v47 =>
  if v47 = 2 then (
  some ((-2), M19))
  else (
  gX12_text_b75 M19 x1 x2))
  else (
  zb1 (gX12_is M19 x1 x2) fun v44 =>
  if v44 = 0 then (
  some ((-2), M19))
  else (
  gX12_text_b75 M19 x1 x2)))
set_option maxRecDepth 100000 in
theorem eX12_text_b75 {ν : zM} {Y : Nat} {m19 : zMS} {x1 : Int32} {x2 : Int32}   : fX12_text_b75 (mdl ν Y m19) Y x1 x2  = Option.map (zq2 (mdl ν Y)) (gX12_text_b75 m19 x1 x2 ) := by simp only [fX12_text_b75, gX12_text_b75, zgd_t, zmap_ite, zmap_some, zmap_none, zmap_zb0, zmap_zni, zq2_k, zq3_k, zq4_k, zq5_k, zzb1_q, zzb2_q, zzb3_q, zzb4_q, zzb5_q, zmap_zb1, zmap_zb2, zmap_zb3, zmap_zb4, zmap_zb5, zmap_zb6, zmap_zc1, zmap_zc2, zmap_zc3, zmap_zc4, md_ck, md_g2, md_g3, md_g4, md_g5, md_p0, md_p11, md_a2, md_s2, md_a3, md_s3, md_a4, md_s4, md_a5, md_s5, eX12_in, eX12_is, eX12_readText, eX12_storeAll]
set_option maxRecDepth 100000 in
theorem eX12_text {ν : zM} {Y : Nat} {M : zMS} {x1 : Int32} {x2 : Int32}  : fX12_text (mdl ν Y M) Y x1 x2 = Option.map (zq2 (mdl ν Y)) (gX12_text M x1 x2) := by simp only [fX12_text, gX12_text, zgd_t, zmap_ite, zmap_some, zmap_none, zmap_zb0, zmap_zni, zq2_k, zq3_k, zq4_k, zq5_k, zzb1_q, zzb2_q, zzb3_q, zzb4_q, zzb5_q, zmap_zb1, zmap_zb2, zmap_zb3, zmap_zb4, zmap_zb5, zmap_zb6, zmap_zc1, zmap_zc2, zmap_zc3, zmap_zc4, md_ck, md_g2, md_g3, md_g4, md_g5, md_p0, md_p11, md_a2, md_s2, md_a3, md_s3, md_a4, md_s4, md_a5, md_s5, eX12_in, eX12_is, eX12_readText, eX12_storeAll, eX12_text_b75]
noncomputable def gX12_fault (M : zMS) (x1 : Int32) : Option (Int32 × zMS) :=
  zb1 (some (zsI M 0 0)) fun M1 =>
  zb1 (if x1 = 0 then (
  zb1 (zag 4 (M1.2.2 3) 0) fun v11 =>
  some v11)
  else (
  if x1 = 1 then (
  zb1 (zag 4 (M1.2.2 4) 0) fun v7 =>
  some v7)
  else (
  some (-1))) : Option (Int32)) fun (s3 : Int32) =>
  some (s3, M1)
set_option maxRecDepth 100000 in
theorem eX12_fault {ν : zM} {Y : Nat} {M : zMS} {x1 : Int32}  : fX12_fault (mdl ν Y M) Y x1 = Option.map (zq2 (mdl ν Y)) (gX12_fault M x1) := by simp only [fX12_fault, gX12_fault, zgd_t, zmap_ite, zmap_some, zmap_none, zmap_zb0, zmap_zni, zq2_k, zq3_k, zq4_k, zq5_k, zzb1_q, zzb2_q, zzb3_q, zzb4_q, zzb5_q, zmap_zb1, zmap_zb2, zmap_zb3, zmap_zb4, zmap_zb5, zmap_zb6, zmap_zc1, zmap_zc2, zmap_zc3, zmap_zc4, md_ck, md_g3, md_g4, md_p0, md_a3, md_s3, md_a4, md_s4]
noncomputable def gX12_of (M : zMS) (x1 : Int32) : Option (Int32) :=
  zb1 (zag 456 (M.2.2 6) ((57 * (M.1 23)) + x1)) fun v5 =>
  some v5
set_option maxRecDepth 100000 in
theorem eX12_of {ν : zM} {Y : Nat} {M : zMS} {x1 : Int32}  : fX12_of (mdl ν Y M) Y x1 = gX12_of M x1 := by simp only [fX12_of, gX12_of, zgd_t, zmap_ite, zmap_some, zmap_none, zmap_zb0, zmap_zni, zq2_k, zq3_k, zq4_k, zq5_k, zzb1_q, zzb2_q, zzb3_q, zzb4_q, zzb5_q, zmap_zb1, zmap_zb2, zmap_zb3, zmap_zb4, zmap_zb5, zmap_zb6, zmap_zc1, zmap_zc2, zmap_zc3, zmap_zc4, md_ck, md_g6, md_g23, md_a6, md_s6]
noncomputable def gX12_hand (M : zMS) (x1 : Int32) : Option (Int32 × zMS) :=
  zb1 (some (zsI M 23 x1)) fun M1 =>
  zb1 (gX12_is M1 0 x1) fun v4 =>
  if v4 = 0 then (
  some (0, M1))
  else (
  zb1 (gX12_of M1 0) fun v6 =>
  zb1 (some (zsI M1 24 v6)) fun M7 =>
  zb1 (gX12_of M7 1) fun v10 =>
  zb1 (some (zsI M7 25 v10)) fun M11 =>
  some (1, M11))
set_option maxRecDepth 100000 in
theorem eX12_hand {ν : zM} {Y : Nat} {M : zMS} {x1 : Int32}  : fX12_hand (mdl ν Y M) Y x1 = Option.map (zq2 (mdl ν Y)) (gX12_hand M x1) := by simp only [fX12_hand, gX12_hand, zgd_t, zmap_ite, zmap_some, zmap_none, zmap_zb0, zmap_zni, zq2_k, zq3_k, zq4_k, zq5_k, zzb1_q, zzb2_q, zzb3_q, zzb4_q, zzb5_q, zmap_zb1, zmap_zb2, zmap_zb3, zmap_zb4, zmap_zb5, zmap_zb6, zmap_zc1, zmap_zc2, zmap_zc3, zmap_zc4, md_ck, md_p23, md_p24, md_p25, eX12_is, eX12_of]
noncomputable def gX12_isPlace (M : zMS) (x1 : Int32) : Option (Int32) :=
  zb1 (gX12_in x1 0 (M.1 24)) fun v4 =>
  zb1 (zbz v4) fun v5 =>
  some v5
set_option maxRecDepth 100000 in
theorem eX12_isPlace {ν : zM} {Y : Nat} {M : zMS} {x1 : Int32}  : fX12_isPlace (mdl ν Y M) Y x1 = gX12_isPlace M x1 := by simp only [fX12_isPlace, gX12_isPlace, zgd_t, zmap_ite, zmap_some, zmap_none, zmap_zb0, zmap_zni, zq2_k, zq3_k, zq4_k, zq5_k, zzb1_q, zzb2_q, zzb3_q, zzb4_q, zzb5_q, zmap_zb1, zmap_zb2, zmap_zb3, zmap_zb4, zmap_zb5, zmap_zb6, zmap_zc1, zmap_zc2, zmap_zc3, zmap_zc4, md_ck, md_g24, eX12_in]
noncomputable def gX12_isPerson (M : zMS) (x1 : Int32) : Option (Int32) :=
  zb1 (gX12_in x1 0 ((M.1 25) - 1)) fun v4 =>
  zb1 (zbz v4) fun v5 =>
  some v5
set_option maxRecDepth 100000 in
theorem eX12_isPerson {ν : zM} {Y : Nat} {M : zMS} {x1 : Int32}  : fX12_isPerson (mdl ν Y M) Y x1 = gX12_isPerson M x1 := by simp only [fX12_isPerson, gX12_isPerson, zgd_t, zmap_ite, zmap_some, zmap_none, zmap_zb0, zmap_zni, zq2_k, zq3_k, zq4_k, zq5_k, zzb1_q, zzb2_q, zzb3_q, zzb4_q, zzb5_q, zmap_zb1, zmap_zb2, zmap_zb3, zmap_zb4, zmap_zb5, zmap_zb6, zmap_zc1, zmap_zc2, zmap_zc3, zmap_zc4, md_ck, md_g25, eX12_in]
noncomputable def gX12_isWord  (x0 : Int32) : Option (Int32) :=
  zb1 (gX12_in x0 0 7) fun v2 =>
  zb1 (zbz v2) fun v3 =>
  some v3
set_option maxRecDepth 100000 in
theorem eX12_isWord {μ : zM} {x0 : Int32} : fX12_isWord μ x0 = gX12_isWord x0 := by simp only [fX12_isWord, gX12_isWord, zgd_t, zmap_ite, zmap_some, zmap_none, zmap_zb0, zmap_zni, zq2_k, zq3_k, zq4_k, zq5_k, zzb1_q, zzb2_q, zzb3_q, zzb4_q, zzb5_q, zmap_zb1, zmap_zb2, zmap_zb3, zmap_zb4, zmap_zb5, zmap_zb6, zmap_zc1, zmap_zc2, zmap_zc3, zmap_zc4, md_ck, eX12_in]
noncomputable def gX12_range  (x0 : Int32) : Option (Int32) :=
  zb1 (if x0 = 0 then (
  some 6)
  else (
  if x0 = 1 then (
  some 18)
  else (
  some 99)) : Option (Int32)) fun (s1 : Int32) =>
  some s1
set_option maxRecDepth 100000 in
theorem eX12_range {μ : zM} {x0 : Int32} : fX12_range μ x0 = gX12_range x0 := by simp only [fX12_range, gX12_range, zgd_t, zmap_ite, zmap_some, zmap_none, zmap_zb0, zmap_zni, zq2_k, zq3_k, zq4_k, zq5_k, zzb1_q, zzb2_q, zzb3_q, zzb4_q, zzb5_q, zmap_zb1, zmap_zb2, zmap_zb3, zmap_zb4, zmap_zb5, zmap_zb6, zmap_zc1, zmap_zc2, zmap_zc3, zmap_zc4, md_ck]
noncomputable def gX12_isSky_l2 (M : zMS) (x1 : Int32) (x2 : Int32) (F2 : Int32 → Option (Int32)) (x3_1 : Int32) : Option (Int32) :=
  zb1 (gX12_of M 2) fun v5 =>
  if v5 ≤ x3_1 then (
  some 0)
  else (
  zb1 (gX12_of M (45 + x3_1)) fun v7 =>
  if v7 = x1 then (
  zb1 (gX12_of M (49 + x3_1)) fun v9 =>
  zb1 (gX12_of M (53 + x3_1)) fun v11 =>
  zb1 (gX12_in x2 v9 v11) fun v13 =>
  if v13 = 0 then (
  F2 (x3_1 + 1))
  else (
  some 1))
  else (
  F2 (x3_1 + 1)))
noncomputable def gX12_isSky (M : zMS) (x1 : Int32) (x2 : Int32) : Option (Int32) :=
  zf1 (gX12_isSky_l2 M x1 x2) zfu 0
set_option maxRecDepth 100000 in
theorem eX12_isSky_l2 {ν : zM} {Y : Nat} {M : zMS} {x1 : Int32} {x2 : Int32} {x3_1 : Int32}   (n : Nat) : zf1 (fX12_isSky_l2 (mdl ν Y M) Y x1 x2) n x3_1 = zf1 (gX12_isSky_l2 M x1 x2) n x3_1 := by
  refine zf1_c (fun F2 G2 hF2 x3_1 => ?_) n x3_1
  simp only [fX12_isSky_l2, gX12_isSky_l2, zgd_t, zmap_ite, zmap_some, zmap_none, zmap_zb0, zmap_zni, zq2_k, zq3_k, zq4_k, zq5_k, zzb1_q, zzb2_q, zzb3_q, zzb4_q, zzb5_q, zmap_zb1, zmap_zb2, zmap_zb3, zmap_zb4, zmap_zb5, zmap_zb6, zmap_zc1, zmap_zc2, zmap_zc3, zmap_zc4, md_ck, eX12_in, eX12_of, hF2]
set_option maxRecDepth 100000 in
theorem eX12_isSky {ν : zM} {Y : Nat} {M : zMS} {x1 : Int32} {x2 : Int32}  : fX12_isSky (mdl ν Y M) Y x1 x2 = gX12_isSky M x1 x2 := by simp only [fX12_isSky, gX12_isSky, zgd_t, zmap_ite, zmap_some, zmap_none, zmap_zb0, zmap_zni, zq2_k, zq3_k, zq4_k, zq5_k, zzb1_q, zzb2_q, zzb3_q, zzb4_q, zzb5_q, zmap_zb1, zmap_zb2, zmap_zb3, zmap_zb4, zmap_zb5, zmap_zb6, zmap_zc1, zmap_zc2, zmap_zc3, zmap_zc4, md_ck, eX12_in, eX12_of, eX12_isSky_l2]
noncomputable def gX12_judges (M : zMS) (x1 : Int32) (x2 : Int32) : Option (Int32) :=
  zb1 (gX12_isSky M 0 x2) fun v2 =>
  zb1 (if v2 = 0 then (
  some 2)
  else (
  some 1) : Option (Int32)) fun (s3 : Int32) =>
  zb1 (if x1 = s3 then (
  some 1)
  else (
  some 0) : Option (Int32)) fun (s5 : Int32) =>
  zb1 (zbz s5) fun v7 =>
  some v7
set_option maxRecDepth 100000 in
theorem eX12_judges {ν : zM} {Y : Nat} {M : zMS} {x1 : Int32} {x2 : Int32}  : fX12_judges (mdl ν Y M) Y x1 x2 = gX12_judges M x1 x2 := by simp only [fX12_judges, gX12_judges, zgd_t, zmap_ite, zmap_some, zmap_none, zmap_zb0, zmap_zni, zq2_k, zq3_k, zq4_k, zq5_k, zzb1_q, zzb2_q, zzb3_q, zzb4_q, zzb5_q, zmap_zb1, zmap_zb2, zmap_zb3, zmap_zb4, zmap_zb5, zmap_zb6, zmap_zc1, zmap_zc2, zmap_zc3, zmap_zc4, md_ck, eX12_isSky]
noncomputable def gX12_isStill (M : zMS) (x1 : Int32) (x2 : Int32) : Option (Int32) :=
  zb1 (if x1 = 1 then (
  zb1 (gX12_isSky M 1 x2) fun v6 =>
  if v6 = 0 then (
  some 0)
  else (
  some 1))
  else (
  some 0) : Option (Int32)) fun (s1 : Int32) =>
  zb1 (zbz s1) fun v3 =>
  some v3
set_option maxRecDepth 100000 in
theorem eX12_isStill {ν : zM} {Y : Nat} {M : zMS} {x1 : Int32} {x2 : Int32}  : fX12_isStill (mdl ν Y M) Y x1 x2 = gX12_isStill M x1 x2 := by simp only [fX12_isStill, gX12_isStill, zgd_t, zmap_ite, zmap_some, zmap_none, zmap_zb0, zmap_zni, zq2_k, zq3_k, zq4_k, zq5_k, zzb1_q, zzb2_q, zzb3_q, zzb4_q, zzb5_q, zmap_zb1, zmap_zb2, zmap_zb3, zmap_zb4, zmap_zb5, zmap_zb6, zmap_zc1, zmap_zc2, zmap_zc3, zmap_zc4, md_ck, eX12_isSky]
noncomputable def gX12_wayOf (M : zMS) (x1 : Int32) (x2 : Int32) (x3 : Int32) : Option (Int32) :=
  zb1 (if x3 = 0 then (
  zb1 (gX12_apart x1 x2) fun v6 =>
  some v6)
  else (
  if x3 = 1 then (
  some (x1 + x2))
  else (
  some (((2 * (M.1 24)) - x1) - x2))) : Option (Int32)) fun (s1 : Int32) =>
  some s1
set_option maxRecDepth 100000 in
theorem eX12_wayOf {ν : zM} {Y : Nat} {M : zMS} {x1 : Int32} {x2 : Int32} {x3 : Int32}  : fX12_wayOf (mdl ν Y M) Y x1 x2 x3 = gX12_wayOf M x1 x2 x3 := by simp only [fX12_wayOf, gX12_wayOf, zgd_t, zmap_ite, zmap_some, zmap_none, zmap_zb0, zmap_zni, zq2_k, zq3_k, zq4_k, zq5_k, zzb1_q, zzb2_q, zzb3_q, zzb4_q, zzb5_q, zmap_zb1, zmap_zb2, zmap_zb3, zmap_zb4, zmap_zb5, zmap_zb6, zmap_zc1, zmap_zc2, zmap_zc3, zmap_zc4, md_ck, md_g24, eX12_apart]
