noncomputable def gX12_given (M : zMS) (x1 : Int32) (x2 : Int32) (x3 : Int32) : Option (Int32) :=
  zb1 (gX12_isStill M x3 x2) fun v2 =>
  zb1 (if v2 = 0 then (
  zb1 (gX12_judges M x3 x2) fun v6 =>
  if v6 = 0 then (
  some x1)
  else (
  zb1 (gX12_of M (3 + x1)) fun v8 =>
  some v8))
  else (
  some (-1)) : Option (Int32)) fun (s3 : Int32) =>
  some s3
set_option maxRecDepth 100000 in
theorem eX12_given {ν : zM} {Y : Nat} {M : zMS} {x1 : Int32} {x2 : Int32} {x3 : Int32}  : fX12_given (mdl ν Y M) Y x1 x2 x3 = gX12_given M x1 x2 x3 := by simp only [fX12_given, gX12_given, zgd_t, zmap_ite, zmap_some, zmap_none, zmap_zb0, zmap_zni, zq2_k, zq3_k, zq4_k, zq5_k, zzb1_q, zzb2_q, zzb3_q, zzb4_q, zzb5_q, zmap_zb1, zmap_zb2, zmap_zb3, zmap_zb4, zmap_zb5, zmap_zb6, zmap_zc1, zmap_zc2, zmap_zc3, zmap_zc4, md_ck, eX12_isStill, eX12_judges, eX12_of]
noncomputable def gX12_comes (M : zMS) (x1 : Int32) (x2 : Int32) (x3 : Int32) (x4 : Int32) (x5 : Int32) (x6 : Int32) : Option (Int32) :=
  zb1 (gX12_wayOf M x1 x5 x6) fun v2 =>
  zb1 (gX12_range x3) fun v4 =>
  if v4 < v2 then (
  some (-1))
  else (
  zb1 (gX12_isStill M x6 x4) fun v6 =>
  if v6 = 0 then (
  zb1 (gX12_judges M x6 x4) fun v8 =>
  zb1 (if v8 = 0 then (
  some 0)
  else (
  zb1 (gX12_of M (11 + x2)) fun v12 =>
  some v12) : Option (Int32)) fun (s9 : Int32) =>
  some ((x4 + v2) + s9))
  else (
  some (-1)))
set_option maxRecDepth 100000 in
theorem eX12_comes {ν : zM} {Y : Nat} {M : zMS} {x1 : Int32} {x2 : Int32} {x3 : Int32} {x4 : Int32} {x5 : Int32} {x6 : Int32}  : fX12_comes (mdl ν Y M) Y x1 x2 x3 x4 x5 x6 = gX12_comes M x1 x2 x3 x4 x5 x6 := by simp only [fX12_comes, gX12_comes, zgd_t, zmap_ite, zmap_some, zmap_none, zmap_zb0, zmap_zni, zq2_k, zq3_k, zq4_k, zq5_k, zzb1_q, zzb2_q, zzb3_q, zzb4_q, zzb5_q, zmap_zb1, zmap_zb2, zmap_zb3, zmap_zb4, zmap_zb5, zmap_zb6, zmap_zc1, zmap_zc2, zmap_zc3, zmap_zc4, md_ck, eX12_isStill, eX12_judges, eX12_of, eX12_range, eX12_wayOf]
noncomputable def gX12_valley (M : zMS) (x1 : Int32) (x2 : Int32) : Option (Int32 × zMS) :=
  zb1 (some (zsI M 0 0)) fun M1 =>
  zb2 (gX12_hand M1 x1) fun v5 M4 =>
  if v5 = 0 then (
  some ((-1), M4))
  else (
  zb1 (gX12_in x2 10 39) fun v7 =>
  if v7 = 0 then (
  zb1 (gX12_in x2 40 69) fun v9 =>
  if v9 = 0 then (
  zb1 (gX12_in x2 70 99) fun v11 =>
  if v11 = 0 then (
  zb1 (gX12_in x2 0 2) fun v13 =>
  zb1 (if v13 = 0 then (
  some (-1))
  else (
  zb1 (gX12_of M4 x2) fun v17 =>
  some v17) : Option (Int32)) fun (s14 : Int32) =>
  some (s14, M4))
  else (
  zb1 (gX12_of M4 2) fun v19 =>
  zb1 (if v19 ≤ (x2 - x2 / 10 * 10) then (
  some (-1))
  else (
  zb1 (gX12_of M4 ((45 + (4 * ((x2 / 10) - 7))) + (x2 - x2 / 10 * 10))) fun v23 =>
  some v23) : Option (Int32)) fun (s20 : Int32) =>
  some (s20, M4)))
  else (
  zb1 (gX12_isPerson M4 (x2 - x2 / 10 * 10)) fun v25 =>
  zb1 (if v25 = 0 then (
  some (-1))
  else (
  zb1 (gX12_of M4 ((27 + (6 * ((x2 / 10) - 4))) + (x2 - x2 / 10 * 10))) fun v29 =>
  some v29) : Option (Int32)) fun (s26 : Int32) =>
  some (s26, M4)))
  else (
  zb1 (if 8 ≤ (x2 - x2 / 10 * 10) then (
  some (-1))
  else (
  zb1 (gX12_of M4 ((3 + (8 * ((x2 / 10) - 1))) + (x2 - x2 / 10 * 10))) fun v33 =>
  some v33) : Option (Int32)) fun (s30 : Int32) =>
  some (s30, M4)))
set_option maxRecDepth 100000 in
theorem eX12_valley {ν : zM} {Y : Nat} {M : zMS} {x1 : Int32} {x2 : Int32}  : fX12_valley (mdl ν Y M) Y x1 x2 = Option.map (zq2 (mdl ν Y)) (gX12_valley M x1 x2) := by simp only [fX12_valley, gX12_valley, zgd_t, zmap_ite, zmap_some, zmap_none, zmap_zb0, zmap_zni, zq2_k, zq3_k, zq4_k, zq5_k, zzb1_q, zzb2_q, zzb3_q, zzb4_q, zzb5_q, zmap_zb1, zmap_zb2, zmap_zb3, zmap_zb4, zmap_zb5, zmap_zb6, zmap_zc1, zmap_zc2, zmap_zc3, zmap_zc4, md_ck, md_p0, eX12_hand, eX12_in, eX12_isPerson, eX12_of]
noncomputable def gX12_heard (M : zMS) (x1 : Int32) (x2 : Int32) (x3 : Int32) (x4 : Int32) (x5 : Int32) (x6 : Int32) (x7 : Int32) : Option (Int32 × zMS) :=
  zb1 (some (zsI M 0 0)) fun M1 =>
  zb2 (gX12_hand M1 x1) fun v5 M4 =>
  if v5 = 0 then (
  some ((-1), M4))
  else (
  zb1 (gX12_isPlace M4 x2) fun v7 =>
  if v7 = 0 then (
  some ((-1), M4))
  else (
  zb1 (gX12_isWord x3) fun v9 =>
  if v9 = 0 then (
  some ((-1), M4))
  else (
  zb1 (gX12_in x4 0 2) fun v11 =>
  if v11 = 0 then (
  some ((-1), M4))
  else (
  zb1 (gX12_in x5 0 99) fun v13 =>
  if v13 = 0 then (
  some ((-1), M4))
  else (
  zb1 (gX12_isPlace M4 x6) fun v15 =>
  if v15 = 0 then (
  some ((-1), M4))
  else (
  zb1 (gX12_in x7 0 2) fun v17 =>
  if v17 = 0 then (
  some ((-1), M4))
  else (
  zb1 (gX12_comes M4 x2 x3 x4 x5 x6 x7) fun v19 =>
  some (v19, M4))))))))
set_option maxRecDepth 100000 in
theorem eX12_heard {ν : zM} {Y : Nat} {M : zMS} {x1 : Int32} {x2 : Int32} {x3 : Int32} {x4 : Int32} {x5 : Int32} {x6 : Int32} {x7 : Int32}  : fX12_heard (mdl ν Y M) Y x1 x2 x3 x4 x5 x6 x7 = Option.map (zq2 (mdl ν Y)) (gX12_heard M x1 x2 x3 x4 x5 x6 x7) := by simp only [fX12_heard, gX12_heard, zgd_t, zmap_ite, zmap_some, zmap_none, zmap_zb0, zmap_zni, zq2_k, zq3_k, zq4_k, zq5_k, zzb1_q, zzb2_q, zzb3_q, zzb4_q, zzb5_q, zmap_zb1, zmap_zb2, zmap_zb3, zmap_zb4, zmap_zb5, zmap_zb6, zmap_zc1, zmap_zc2, zmap_zc3, zmap_zc4, md_ck, md_p0, eX12_comes, eX12_hand, eX12_in, eX12_isPlace, eX12_isWord]
noncomputable def gX12_gives (M : zMS) (x1 : Int32) (x2 : Int32) (x3 : Int32) (x4 : Int32) : Option (Int32 × zMS) :=
  zb1 (some (zsI M 0 0)) fun M1 =>
  zb2 (gX12_hand M1 x1) fun v5 M4 =>
  zb1 (if v5 = 0 then (
  some (-1))
  else (
  zb1 (gX12_isWord x2) fun v9 =>
  if v9 = 0 then (
  some (-1))
  else (
  zb1 (gX12_in x3 0 99) fun v11 =>
  if v11 = 0 then (
  some (-1))
  else (
  zb1 (gX12_in x4 1 2) fun v13 =>
  if v13 = 0 then (
  some (-1))
  else (
  zb1 (gX12_given M4 x2 x3 x4) fun v15 =>
  some v15)))) : Option (Int32)) fun (s6 : Int32) =>
  some (s6, M4)
set_option maxRecDepth 100000 in
theorem eX12_gives {ν : zM} {Y : Nat} {M : zMS} {x1 : Int32} {x2 : Int32} {x3 : Int32} {x4 : Int32}  : fX12_gives (mdl ν Y M) Y x1 x2 x3 x4 = Option.map (zq2 (mdl ν Y)) (gX12_gives M x1 x2 x3 x4) := by simp only [fX12_gives, gX12_gives, zgd_t, zmap_ite, zmap_some, zmap_none, zmap_zb0, zmap_zni, zq2_k, zq3_k, zq4_k, zq5_k, zzb1_q, zzb2_q, zzb3_q, zzb4_q, zzb5_q, zmap_zb1, zmap_zb2, zmap_zb3, zmap_zb4, zmap_zb5, zmap_zb6, zmap_zc1, zmap_zc2, zmap_zc3, zmap_zc4, md_ck, md_p0, eX12_given, eX12_hand, eX12_in, eX12_isWord]
noncomputable def gX12_deeds (M : zMS)  : Option (Int32) :=
  zb1 (zag 968 (M.2.2 7) (121 * (M.1 26))) fun v5 =>
  some v5
set_option maxRecDepth 100000 in
theorem eX12_deeds {ν : zM} {Y : Nat} {M : zMS}   : fX12_deeds (mdl ν Y M) Y = gX12_deeds M  := by simp only [fX12_deeds, gX12_deeds, zgd_t, zmap_ite, zmap_some, zmap_none, zmap_zb0, zmap_zni, zq2_k, zq3_k, zq4_k, zq5_k, zzb1_q, zzb2_q, zzb3_q, zzb4_q, zzb5_q, zmap_zb1, zmap_zb2, zmap_zb3, zmap_zb4, zmap_zb5, zmap_zb6, zmap_zc1, zmap_zc2, zmap_zc3, zmap_zc4, md_ck, md_g7, md_g26, md_a7, md_s7]
noncomputable def gX12_deedOf (M : zMS) (x1 : Int32) (x2 : Int32) : Option (Int32) :=
  zb1 (zag 968 (M.2.2 7) ((((121 * (M.1 26)) + 1) + (3 * x1)) + x2)) fun v5 =>
  some v5
set_option maxRecDepth 100000 in
theorem eX12_deedOf {ν : zM} {Y : Nat} {M : zMS} {x1 : Int32} {x2 : Int32}  : fX12_deedOf (mdl ν Y M) Y x1 x2 = gX12_deedOf M x1 x2 := by simp only [fX12_deedOf, gX12_deedOf, zgd_t, zmap_ite, zmap_some, zmap_none, zmap_zb0, zmap_zni, zq2_k, zq3_k, zq4_k, zq5_k, zzb1_q, zzb2_q, zzb3_q, zzb4_q, zzb5_q, zmap_zb1, zmap_zb2, zmap_zb3, zmap_zb4, zmap_zb5, zmap_zb6, zmap_zc1, zmap_zc2, zmap_zc3, zmap_zc4, md_ck, md_g7, md_g26, md_a7, md_s7]
noncomputable def gX12_hasDay (M : zMS) (x1 : Int32) : Option (Int32 × zMS) :=
  zb1 (some (zsI M 26 x1)) fun M1 =>
  zb1 (gX12_is M1 1 x1) fun v4 =>
  zb1 (zbz v4) fun v5 =>
  some (v5, M1)
set_option maxRecDepth 100000 in
theorem eX12_hasDay {ν : zM} {Y : Nat} {M : zMS} {x1 : Int32}  : fX12_hasDay (mdl ν Y M) Y x1 = Option.map (zq2 (mdl ν Y)) (gX12_hasDay M x1) := by simp only [fX12_hasDay, gX12_hasDay, zgd_t, zmap_ite, zmap_some, zmap_none, zmap_zb0, zmap_zni, zq2_k, zq3_k, zq4_k, zq5_k, zzb1_q, zzb2_q, zzb3_q, zzb4_q, zzb5_q, zmap_zb1, zmap_zb2, zmap_zb3, zmap_zb4, zmap_zb5, zmap_zb6, zmap_zc1, zmap_zc2, zmap_zc3, zmap_zc4, md_ck, md_p26, eX12_is]
noncomputable def gX12_deed (M : zMS) (x1 : Int32) (x2 : Int32) (x3 : Int32) : Option (Int32 × zMS) :=
  zb1 (some (zsI M 0 0)) fun M1 =>
  zb2 (gX12_hasDay M1 x1) fun v5 M4 =>
  if v5 = 0 then (
  some ((-2), M4))
  else (
  if x2 = (-1) then (
  zb1 (if x3 = 0 then (
  zb1 (gX12_deeds M4) fun v19 =>
  some v19)
  else (
  some (-2)) : Option (Int32)) fun (s16 : Int32) =>
  some (s16, M4))
  else (
  zb1 (gX12_deeds M4) fun v7 =>
  zb1 (gX12_in x2 0 (v7 - 1)) fun v9 =>
  zb1 (if v9 = 0 then (
  some (-2))
  else (
  zb1 (gX12_in x3 0 2) fun v13 =>
  if v13 = 0 then (
  some (-2))
  else (
  zb1 (gX12_deedOf M4 x2 x3) fun v15 =>
  some v15)) : Option (Int32)) fun (s10 : Int32) =>
  some (s10, M4)))
set_option maxRecDepth 100000 in
theorem eX12_deed {ν : zM} {Y : Nat} {M : zMS} {x1 : Int32} {x2 : Int32} {x3 : Int32}  : fX12_deed (mdl ν Y M) Y x1 x2 x3 = Option.map (zq2 (mdl ν Y)) (gX12_deed M x1 x2 x3) := by simp only [fX12_deed, gX12_deed, zgd_t, zmap_ite, zmap_some, zmap_none, zmap_zb0, zmap_zni, zq2_k, zq3_k, zq4_k, zq5_k, zzb1_q, zzb2_q, zzb3_q, zzb4_q, zzb5_q, zmap_zb1, zmap_zb2, zmap_zb3, zmap_zb4, zmap_zb5, zmap_zb6, zmap_zc1, zmap_zc2, zmap_zc3, zmap_zc4, md_ck, md_p0, eX12_deedOf, eX12_deeds, eX12_hasDay, eX12_in]
noncomputable def gX12_begin_l2  (F3 : Int32 → zMS → Option (zMS)) (x1_1 : Int32) (m2 : zMS) : Option (zMS) :=
  if 6 ≤ x1_1 then (
  some m2)
  else (
  zb1 (if (m2.1 25) ≤ x1_1 then (
  some 0)
  else (
  zb1 (gX12_of m2 (33 + x1_1)) fun v16 =>
  some v16) : Option (Int32)) fun (s11 : Int32) =>
  zb1 (zas 600 (m2.2.2 27) (100 * x1_1) s11) fun f13 =>
  zb1 (some (zsA m2 27 f13)) fun M13 =>
  F3 (x1_1 + 1) M13)
noncomputable def gX12_begin (M : zMS)  : Option (zMS) :=
  zb1 (zf2 gX12_begin_l2 zfu 0 M : Option (zMS)) fun (m5 : zMS) =>
  zb1 (some (zsI m5 29 0)) fun M18 =>
  zb1 (some (zsI M18 30 0)) fun M20 =>
  some M20
set_option maxRecDepth 100000 in
theorem eX12_begin_l2 {ν : zM} {Y : Nat} {x1_1 : Int32} {m2 : zMS}   (n : Nat) : zf2 (fX12_begin_l2 Y) n x1_1 (mdl ν Y m2) = Option.map (mdl ν Y) (zf2 gX12_begin_l2 n x1_1 m2) := by
  refine zf2_m (fun F3 G3 hF3 x1_1 m2 => ?_) n x1_1 m2
  simp only [fX12_begin_l2, gX12_begin_l2, zgd_t, zmap_ite, zmap_some, zmap_none, zmap_zb0, zmap_zni, zq2_k, zq3_k, zq4_k, zq5_k, zzb1_q, zzb2_q, zzb3_q, zzb4_q, zzb5_q, zmap_zb1, zmap_zb2, zmap_zb3, zmap_zb4, zmap_zb5, zmap_zb6, zmap_zc1, zmap_zc2, zmap_zc3, zmap_zc4, md_ck, md_g25, md_g27, md_p29, md_p30, md_a27, md_s27, eX12_of, hF3]
set_option maxRecDepth 100000 in
theorem eX12_begin {ν : zM} {Y : Nat} {M : zMS}   : fX12_begin (mdl ν Y M) Y = Option.map (mdl ν Y) (gX12_begin M ) := by simp only [fX12_begin, gX12_begin, zgd_t, zmap_ite, zmap_some, zmap_none, zmap_zb0, zmap_zni, zq2_k, zq3_k, zq4_k, zq5_k, zzb1_q, zzb2_q, zzb3_q, zzb4_q, zzb5_q, zmap_zb1, zmap_zb2, zmap_zb3, zmap_zb4, zmap_zb5, zmap_zb6, zmap_zc1, zmap_zc2, zmap_zc3, zmap_zc4, md_ck, md_g25, md_g27, md_p29, md_p30, md_a27, md_s27, eX12_of, eX12_begin_l2]
noncomputable def gX12_says (M : zMS) (x1 : Int32) (x2 : Int32) (x3 : Int32) : Option (zMS) :=
  zb1 (zag 600 (M.2.2 27) ((100 * x1) + (M.1 30))) fun v9 =>
  zb1 (zas 300 (M.2.2 28) (5 * (M.1 29)) v9) fun f11 =>
  zb1 (some (zsA M 28 f11)) fun M11 =>
  zb1 (zas 300 (M11.2.2 28) ((5 * (M11.1 29)) + 1) x2) fun f17 =>
  zb1 (some (zsA M11 28 f17)) fun M17 =>
  zb1 (zas 300 (M17.2.2 28) ((5 * (M17.1 29)) + 2) x3) fun f23 =>
  zb1 (some (zsA M17 28 f23)) fun M23 =>
  zb1 (zas 300 (M23.2.2 28) ((5 * (M23.1 29)) + 3) (M23.1 30)) fun f31 =>
  zb1 (some (zsA M23 28 f31)) fun M31 =>
  zb1 (zas 300 (M31.2.2 28) ((5 * (M31.1 29)) + 4) x1) fun f37 =>
  zb1 (some (zsA M31 28 f37)) fun M37 =>
  zb1 (some (zsI M37 29 ((M37.1 29) + 1))) fun M41 =>
  some M41
set_option maxRecDepth 100000 in
theorem eX12_says {ν : zM} {Y : Nat} {M : zMS} {x1 : Int32} {x2 : Int32} {x3 : Int32}  : fX12_says (mdl ν Y M) Y x1 x2 x3 = Option.map (mdl ν Y) (gX12_says M x1 x2 x3) := by simp only [fX12_says, gX12_says, zgd_t, zmap_ite, zmap_some, zmap_none, zmap_zb0, zmap_zni, zq2_k, zq3_k, zq4_k, zq5_k, zzb1_q, zzb2_q, zzb3_q, zzb4_q, zzb5_q, zmap_zb1, zmap_zb2, zmap_zb3, zmap_zb4, zmap_zb5, zmap_zb6, zmap_zc1, zmap_zc2, zmap_zc3, zmap_zc4, md_ck, md_g27, md_g28, md_g29, md_g30, md_p29, md_a27, md_s27, md_a28, md_s28]
noncomputable def gX12_passes_l2 (x1 : Int32) (x2 : Int32) (F3 : Int32 → zMS → Option (zMS)) (x3_1 : Int32) (m2 : zMS) : Option (zMS) :=
  if 6 ≤ x3_1 then (
  some m2)
  else (
  zb1 (zag 600 (m2.2.2 27) ((100 * x3_1) + (m2.1 30))) fun v15 =>
  zb1 (if x3_1 = x1 then (
  some x2)
  else (
  some 0) : Option (Int32)) fun (s17 : Int32) =>
  zb1 (zas 600 (m2.2.2 27) (((100 * x3_1) + (m2.1 30)) + 1) (v15 + s17)) fun f19 =>
  zb1 (some (zsA m2 27 f19)) fun M19 =>
  F3 (x3_1 + 1) M19)
noncomputable def gX12_passes (M : zMS) (x1 : Int32) (x2 : Int32) : Option (zMS) :=
  zb1 (zf2 (gX12_passes_l2 x1 x2) zfu 0 M : Option (zMS)) fun (m5 : zMS) =>
  zb1 (some (zsI m5 30 ((m5.1 30) + 1))) fun M24 =>
  some M24
set_option maxRecDepth 100000 in
theorem eX12_passes_l2 {ν : zM} {Y : Nat} {x1 : Int32} {x2 : Int32} {x3_1 : Int32} {m2 : zMS}   (n : Nat) : zf2 (fX12_passes_l2 Y x1 x2) n x3_1 (mdl ν Y m2) = Option.map (mdl ν Y) (zf2 (gX12_passes_l2 x1 x2) n x3_1 m2) := by
  refine zf2_m (fun F3 G3 hF3 x3_1 m2 => ?_) n x3_1 m2
  simp only [fX12_passes_l2, gX12_passes_l2, zgd_t, zmap_ite, zmap_some, zmap_none, zmap_zb0, zmap_zni, zq2_k, zq3_k, zq4_k, zq5_k, zzb1_q, zzb2_q, zzb3_q, zzb4_q, zzb5_q, zmap_zb1, zmap_zb2, zmap_zb3, zmap_zb4, zmap_zb5, zmap_zb6, zmap_zc1, zmap_zc2, zmap_zc3, zmap_zc4, md_ck, md_g27, md_g30, md_p30, md_a27, md_s27, hF3]
set_option maxRecDepth 100000 in
theorem eX12_passes {ν : zM} {Y : Nat} {M : zMS} {x1 : Int32} {x2 : Int32}  : fX12_passes (mdl ν Y M) Y x1 x2 = Option.map (mdl ν Y) (gX12_passes M x1 x2) := by simp only [fX12_passes, gX12_passes, zgd_t, zmap_ite, zmap_some, zmap_none, zmap_zb0, zmap_zni, zq2_k, zq3_k, zq4_k, zq5_k, zzb1_q, zzb2_q, zzb3_q, zzb4_q, zzb5_q, zmap_zb1, zmap_zb2, zmap_zb3, zmap_zb4, zmap_zb5, zmap_zb6, zmap_zc1, zmap_zc2, zmap_zc3, zmap_zc4, md_ck, md_g27, md_g30, md_p30, md_a27, md_s27, eX12_passes_l2]
noncomputable def gX12_waits_l15 (x1 : Int32) (F5 : Int32 → zMS → Option (zMS)) (x2_3 : Int32) (m4 : zMS) : Option (zMS) :=
  if x1 ≤ x2_3 then (
  some m4)
  else (
  zb1 (gX12_passes m4 (-1) 0) fun M10 =>
  F5 (x2_3 + 1) M10)
noncomputable def gX12_waits (M : zMS) (x1 : Int32) : Option (Int32 × zMS) :=
  if ((M.1 30) + x1) ≤ 99 then (
  zb1 (zf2 (gX12_waits_l15 x1) zfu 0 M : Option (zMS)) fun (m7 : zMS) =>
  some (1, m7))
  else (
  some (0, M))
set_option maxRecDepth 100000 in
theorem eX12_waits_l15 {ν : zM} {Y : Nat} {x1 : Int32} {x2_3 : Int32} {m4 : zMS}   (n : Nat) : zf2 (fX12_waits_l15 x1 Y) n x2_3 (mdl ν Y m4) = Option.map (mdl ν Y) (zf2 (gX12_waits_l15 x1) n x2_3 m4) := by
  refine zf2_m (fun F5 G5 hF5 x2_3 m4 => ?_) n x2_3 m4
  simp only [fX12_waits_l15, gX12_waits_l15, zgd_t, zmap_ite, zmap_some, zmap_none, zmap_zb0, zmap_zni, zq2_k, zq3_k, zq4_k, zq5_k, zzb1_q, zzb2_q, zzb3_q, zzb4_q, zzb5_q, zmap_zb1, zmap_zb2, zmap_zb3, zmap_zb4, zmap_zb5, zmap_zb6, zmap_zc1, zmap_zc2, zmap_zc3, zmap_zc4, md_ck, md_g30, eX12_passes, hF5]
set_option maxRecDepth 100000 in
theorem eX12_waits {ν : zM} {Y : Nat} {M : zMS} {x1 : Int32}  : fX12_waits (mdl ν Y M) Y x1 = Option.map (zq2 (mdl ν Y)) (gX12_waits M x1) := by simp only [fX12_waits, gX12_waits, zgd_t, zmap_ite, zmap_some, zmap_none, zmap_zb0, zmap_zni, zq2_k, zq3_k, zq4_k, zq5_k, zzb1_q, zzb2_q, zzb3_q, zzb4_q, zzb5_q, zmap_zb1, zmap_zb2, zmap_zb3, zmap_zb4, zmap_zb5, zmap_zb6, zmap_zc1, zmap_zc2, zmap_zc3, zmap_zc4, md_ck, md_g30, eX12_passes, eX12_waits_l15]
noncomputable def gX12_walks_l49 (x2 : Int32) (v7 : Int32) (x1 : Int32) (F17 : Int32 → zMS → Option (zMS)) (x4_15 : Int32) (m16 : zMS) : Option (zMS) :=
  if x4_15 ≤ 0 then (
  some m16)
  else (
  zb1 (if x2 ≤ v7 then (
  some (-1))
  else (
  some 1) : Option (Int32)) fun (s21 : Int32) =>
  zb1 (gX12_passes m16 x1 s21) fun M24 =>
  F17 (x4_15 + (-1)) M24)
noncomputable def gX12_walks (M : zMS) (x1 : Int32) (x2 : Int32) : Option (Int32 × zMS) :=
  zb1 (gX12_isPlace M x2) fun v2 =>
  if v2 = 0 then (
  some (0, M))
  else (
  zb1 (zag 600 (M.2.2 27) ((100 * x1) + (M.1 30))) fun v7 =>
  zb1 (gX12_apart v7 x2) fun v12 =>
  if ((M.1 30) + v12) ≤ 99 then (
  zb1 (gX12_apart v7 x2) fun v14 =>
  zb1 (zf2 (gX12_walks_l49 x2 v7 x1) zfu v14 M : Option (zMS)) fun (m19 : zMS) =>
  some (1, m19))
  else (
  some (0, M)))
set_option maxRecDepth 100000 in
theorem eX12_walks_l49 {ν : zM} {Y : Nat} {x2 : Int32} {v7 : Int32} {x1 : Int32} {x4_15 : Int32} {m16 : zMS}   (n : Nat) : zf2 (fX12_walks_l49 x2 v7 Y x1) n x4_15 (mdl ν Y m16) = Option.map (mdl ν Y) (zf2 (gX12_walks_l49 x2 v7 x1) n x4_15 m16) := by
  refine zf2_m (fun F17 G17 hF17 x4_15 m16 => ?_) n x4_15 m16
  simp only [fX12_walks_l49, gX12_walks_l49, zgd_t, zmap_ite, zmap_some, zmap_none, zmap_zb0, zmap_zni, zq2_k, zq3_k, zq4_k, zq5_k, zzb1_q, zzb2_q, zzb3_q, zzb4_q, zzb5_q, zmap_zb1, zmap_zb2, zmap_zb3, zmap_zb4, zmap_zb5, zmap_zb6, zmap_zc1, zmap_zc2, zmap_zc3, zmap_zc4, md_ck, md_g27, md_g30, md_a27, md_s27, eX12_apart, eX12_isPlace, eX12_passes, hF17]
set_option maxRecDepth 100000 in
theorem eX12_walks {ν : zM} {Y : Nat} {M : zMS} {x1 : Int32} {x2 : Int32}  : fX12_walks (mdl ν Y M) Y x1 x2 = Option.map (zq2 (mdl ν Y)) (gX12_walks M x1 x2) := by simp only [fX12_walks, gX12_walks, zgd_t, zmap_ite, zmap_some, zmap_none, zmap_zb0, zmap_zni, zq2_k, zq3_k, zq4_k, zq5_k, zzb1_q, zzb2_q, zzb3_q, zzb4_q, zzb5_q, zmap_zb1, zmap_zb2, zmap_zb3, zmap_zb4, zmap_zb5, zmap_zb6, zmap_zc1, zmap_zc2, zmap_zc3, zmap_zc4, md_ck, md_g27, md_g30, md_a27, md_s27, eX12_apart, eX12_isPlace, eX12_passes, eX12_walks_l49]
noncomputable def gX12_does (M : zMS) (x1 : Int32) : Option (Int32 × zMS) :=
  zb1 (gX12_deedOf M x1 0) fun v2 =>
  zb1 (gX12_deedOf M x1 1) fun v4 =>
  if v2 = 4 then (
  zb2 (gX12_waits M v4) fun v20 M19 =>
  zb1 (zbz v20) fun v21 =>
  some (v21, M19))
  else (
  zb1 (gX12_isPerson M v4) fun v6 =>
  if v6 = 0 then (
  some (0, M))
  else (
  if v2 = 3 then (
  zb1 (gX12_deedOf M x1 2) fun v12 =>
  zb2 (gX12_walks M v4 v12) fun v15 M14 =>
  zb1 (zbz v15) fun v16 =>
  some (v16, M14))
  else (
  zb1 (gX12_deedOf M x1 2) fun v8 =>
  zb1 (gX12_says M v4 v8 v2) fun M10 =>
  some (1, M10))))
set_option maxRecDepth 100000 in
theorem eX12_does {ν : zM} {Y : Nat} {M : zMS} {x1 : Int32}  : fX12_does (mdl ν Y M) Y x1 = Option.map (zq2 (mdl ν Y)) (gX12_does M x1) := by simp only [fX12_does, gX12_does, zgd_t, zmap_ite, zmap_some, zmap_none, zmap_zb0, zmap_zni, zq2_k, zq3_k, zq4_k, zq5_k, zzb1_q, zzb2_q, zzb3_q, zzb4_q, zzb5_q, zmap_zb1, zmap_zb2, zmap_zb3, zmap_zb4, zmap_zb5, zmap_zb6, zmap_zc1, zmap_zc2, zmap_zc3, zmap_zc4, md_ck, eX12_deedOf, eX12_isPerson, eX12_says, eX12_waits, eX12_walks]
noncomputable def gX12_play_l6 (x1 : Int32) (F5 : Int32 → zMS → Option (Int32 × zMS)) (x2_3 : Int32) (m4 : zMS) : Option (Int32 × zMS) :=
  if x1 ≤ x2_3 then (
  some (x2_3, m4))
  else (
  zb2 (gX12_does m4 x2_3) fun v12 M11 =>
  if v12 = 0 then (
  some (x2_3, M11))
  else (
  F5 (x2_3 + 1) M11))
noncomputable def gX12_play (M : zMS) (x1 : Int32) : Option (Int32 × zMS) :=
  zb1 (gX12_begin M) fun M2 =>
  zb2 (zf2 (gX12_play_l6 x1) zfu 0 M2 : Option (Int32 × zMS)) fun (x2_7 : Int32) (m8 : zMS) =>
  some (x2_7, m8)
set_option maxRecDepth 100000 in
theorem eX12_play_l6 {ν : zM} {Y : Nat} {x1 : Int32} {x2_3 : Int32} {m4 : zMS}   (n : Nat) : zf2 (fX12_play_l6 x1 Y) n x2_3 (mdl ν Y m4) = Option.map (zq2 (mdl ν Y)) (zf2 (gX12_play_l6 x1) n x2_3 m4) := by
  refine zf2_m (fun F5 G5 hF5 x2_3 m4 => ?_) n x2_3 m4
  simp only [fX12_play_l6, gX12_play_l6, zgd_t, zmap_ite, zmap_some, zmap_none, zmap_zb0, zmap_zni, zq2_k, zq3_k, zq4_k, zq5_k, zzb1_q, zzb2_q, zzb3_q, zzb4_q, zzb5_q, zmap_zb1, zmap_zb2, zmap_zb3, zmap_zb4, zmap_zb5, zmap_zb6, zmap_zc1, zmap_zc2, zmap_zc3, zmap_zc4, md_ck, eX12_begin, eX12_does, hF5]
set_option maxRecDepth 100000 in
theorem eX12_play {ν : zM} {Y : Nat} {M : zMS} {x1 : Int32}  : fX12_play (mdl ν Y M) Y x1 = Option.map (zq2 (mdl ν Y)) (gX12_play M x1) := by simp only [fX12_play, gX12_play, zgd_t, zmap_ite, zmap_some, zmap_none, zmap_zb0, zmap_zni, zq2_k, zq3_k, zq4_k, zq5_k, zzb1_q, zzb2_q, zzb3_q, zzb4_q, zzb5_q, zmap_zb1, zmap_zb2, zmap_zb3, zmap_zb4, zmap_zb5, zmap_zb6, zmap_zc1, zmap_zc2, zmap_zc3, zmap_zc4, md_ck, eX12_begin, eX12_does, eX12_play_l6]
noncomputable def gX12_layAll (M : zMS) (x1 : Int32) (x2 : Int32) : Option (Int32 × zMS) :=
  zb2 (gX12_hasDay M x2) fun v3 M2 =>
  zc2 (if v3 = 0 then (
  some (0, M2))
  else (
  zb2 (gX12_hand M2 x1) fun v11 M10 =>
  if v11 = 0 then (
  some (0, M10))
  else (
  some (1, M10))) : Option (Int32 × zMS)) fun (s4 : Int32) (m5 : zMS) =>
  zb1 (zbz s4) fun v7 =>
  some (v7, m5)
set_option maxRecDepth 100000 in
theorem eX12_layAll {ν : zM} {Y : Nat} {M : zMS} {x1 : Int32} {x2 : Int32}  : fX12_layAll (mdl ν Y M) Y x1 x2 = Option.map (zq2 (mdl ν Y)) (gX12_layAll M x1 x2) := by simp only [fX12_layAll, gX12_layAll, zgd_t, zmap_ite, zmap_some, zmap_none, zmap_zb0, zmap_zni, zq2_k, zq3_k, zq4_k, zq5_k, zzc1_some, zzc2_some, zzc3_some, zzc4_some, zzc5_some, zzc6_some, zzb1_q, zzb2_q, zzb3_q, zzb4_q, zzb5_q, zzc1_q, zzc2_q, zzc3_q, zzc4_q, zzc5_q, zmap_zb1, zmap_zb2, zmap_zb3, zmap_zb4, zmap_zb5, zmap_zb6, zzc1_ite, zzc2_ite, zzc3_ite, zzc4_ite, zmap_zc1, zmap_zc2, zmap_zc3, zmap_zc4, zzc1_zb0, zzc1_zb1, zzc1_zb2, zzc1_zb3, zzc1_zb4, zzc2_zb0, zzc2_zb1, zzc2_zb2, zzc2_zb3, zzc2_zb4, zzc3_zb0, zzc3_zb1, zzc3_zb2, zzc3_zb3, zzc3_zb4, zzc4_zb0, zzc4_zb1, zzc4_zb2, zzc4_zb3, zzc4_zb4, md_ck, eX12_hand, eX12_hasDay]
