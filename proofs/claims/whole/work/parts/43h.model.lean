noncomputable def gX12_facts (M : zMS)  : Option (Int32) :=
  zb1 (zag 264 (M.2.2 9) (33 * (M.1 46))) fun v5 =>
  some v5
set_option maxRecDepth 100000 in
theorem eX12_facts {ν : zM} {Y : Nat} {M : zMS}   : fX12_facts (mdl ν Y M) Y = gX12_facts M  := by simp only [fX12_facts, gX12_facts, zgd_t, zmap_ite, zmap_some, zmap_none, zmap_zb0, zmap_zni, zq2_k, zq3_k, zq4_k, zq5_k, zzb1_q, zzb2_q, zzb3_q, zzb4_q, zzb5_q, zmap_zb1, zmap_zb2, zmap_zb3, zmap_zb4, zmap_zb5, zmap_zb6, zmap_zc1, zmap_zc2, zmap_zc3, zmap_zc4, md_ck, md_g9, md_g46, md_a9, md_s9]
noncomputable def gX12_factOf (M : zMS) (x1 : Int32) (x2 : Int32) : Option (Int32) :=
  zb1 (zag 264 (M.2.2 9) ((((33 * (M.1 46)) + 1) + (4 * x1)) + x2)) fun v5 =>
  some v5
set_option maxRecDepth 100000 in
theorem eX12_factOf {ν : zM} {Y : Nat} {M : zMS} {x1 : Int32} {x2 : Int32}  : fX12_factOf (mdl ν Y M) Y x1 x2 = gX12_factOf M x1 x2 := by simp only [fX12_factOf, gX12_factOf, zgd_t, zmap_ite, zmap_some, zmap_none, zmap_zb0, zmap_zni, zq2_k, zq3_k, zq4_k, zq5_k, zzb1_q, zzb2_q, zzb3_q, zzb4_q, zzb5_q, zmap_zb1, zmap_zb2, zmap_zb3, zmap_zb4, zmap_zb5, zmap_zb6, zmap_zc1, zmap_zc2, zmap_zc3, zmap_zc4, md_ck, md_g9, md_g46, md_a9, md_s9]
noncomputable def gX12_hasSight (M : zMS) (x1 : Int32) : Option (Int32 × zMS) :=
  zb1 (some (zsI M 46 x1)) fun M1 =>
  zb1 (gX12_is M1 3 x1) fun v4 =>
  zb1 (zbz v4) fun v5 =>
  some (v5, M1)
set_option maxRecDepth 100000 in
theorem eX12_hasSight {ν : zM} {Y : Nat} {M : zMS} {x1 : Int32}  : fX12_hasSight (mdl ν Y M) Y x1 = Option.map (zq2 (mdl ν Y)) (gX12_hasSight M x1) := by simp only [fX12_hasSight, gX12_hasSight, zgd_t, zmap_ite, zmap_some, zmap_none, zmap_zb0, zmap_zni, zq2_k, zq3_k, zq4_k, zq5_k, zzb1_q, zzb2_q, zzb3_q, zzb4_q, zzb5_q, zmap_zb1, zmap_zb2, zmap_zb3, zmap_zb4, zmap_zb5, zmap_zb6, zmap_zc1, zmap_zc2, zmap_zc3, zmap_zc4, md_ck, md_p46, eX12_is]
noncomputable def gX12_fact (M : zMS) (x1 : Int32) (x2 : Int32) (x3 : Int32) : Option (Int32 × zMS) :=
  zb1 (some (zsI M 0 0)) fun M1 =>
  zb2 (gX12_hasSight M1 x1) fun v5 M4 =>
  if v5 = 0 then (
  some ((-2), M4))
  else (
  if x2 = (-1) then (
  zb1 (if x3 = 0 then (
  zb1 (gX12_facts M4) fun v19 =>
  some v19)
  else (
  some (-2)) : Option (Int32)) fun (s16 : Int32) =>
  some (s16, M4))
  else (
  zb1 (gX12_facts M4) fun v7 =>
  zb1 (gX12_in x2 0 (v7 - 1)) fun v9 =>
  zb1 (if v9 = 0 then (
  some (-2))
  else (
  zb1 (gX12_in x3 0 3) fun v13 =>
  if v13 = 0 then (
  some (-2))
  else (
  zb1 (gX12_factOf M4 x2 x3) fun v15 =>
  some v15)) : Option (Int32)) fun (s10 : Int32) =>
  some (s10, M4)))
set_option maxRecDepth 100000 in
theorem eX12_fact {ν : zM} {Y : Nat} {M : zMS} {x1 : Int32} {x2 : Int32} {x3 : Int32}  : fX12_fact (mdl ν Y M) Y x1 x2 x3 = Option.map (zq2 (mdl ν Y)) (gX12_fact M x1 x2 x3) := by simp only [fX12_fact, gX12_fact, zgd_t, zmap_ite, zmap_some, zmap_none, zmap_zb0, zmap_zni, zq2_k, zq3_k, zq4_k, zq5_k, zzb1_q, zzb2_q, zzb3_q, zzb4_q, zzb5_q, zmap_zb1, zmap_zb2, zmap_zb3, zmap_zb4, zmap_zb5, zmap_zb6, zmap_zc1, zmap_zc2, zmap_zc3, zmap_zc4, md_ck, md_p0, eX12_factOf, eX12_facts, eX12_hasSight, eX12_in]
noncomputable def gX12_laySight_l20 (M5 : zMS) (F8 : Int32 → Option (Int32 × zMS)) (x3_7 : Int32) : Option (Int32 × zMS) :=
  zb1 (gX12_facts M5) fun v11 =>
  if v11 ≤ x3_7 then (
  some (1, M5))
  else (
  zb1 (gX12_factOf M5 x3_7 1) fun v13 =>
  zb1 (gX12_isPlace M5 v13) fun v15 =>
  if v15 = 0 then (
  some (0, M5))
  else (
  F8 (x3_7 + 1)))
noncomputable def gX12_laySight (M : zMS) (x1 : Int32) (x2 : Int32) : Option (Int32 × zMS) :=
  zb2 (gX12_hasSight M x2) fun v3 M2 =>
  if v3 = 0 then (
  some (0, M2))
  else (
  zb2 (gX12_hand M2 x1) fun v6 M5 =>
  if v6 = 0 then (
  some (0, M5))
  else (
  zf1 (gX12_laySight_l20 M5) zfu 0))
set_option maxRecDepth 100000 in
theorem eX12_laySight_l20 {ν : zM} {Y : Nat} {m5 : zMS} {x3_7 : Int32}   (n : Nat) : zf1 (fX12_laySight_l20 (mdl ν Y m5) Y) n x3_7 = Option.map (zq2 (mdl ν Y)) (zf1 (gX12_laySight_l20 m5) n x3_7) := by
  refine zf1_p (fun F8 G8 hF8 x3_7 => ?_) n x3_7
  simp only [fX12_laySight_l20, gX12_laySight_l20, zgd_t, zmap_ite, zmap_some, zmap_none, zmap_zb0, zmap_zni, zq2_k, zq3_k, zq4_k, zq5_k, zzb1_q, zzb2_q, zzb3_q, zzb4_q, zzb5_q, zmap_zb1, zmap_zb2, zmap_zb3, zmap_zb4, zmap_zb5, zmap_zb6, zmap_zc1, zmap_zc2, zmap_zc3, zmap_zc4, md_ck, eX12_factOf, eX12_facts, eX12_hand, eX12_hasSight, eX12_isPlace, hF8]
set_option maxRecDepth 100000 in
theorem eX12_laySight {ν : zM} {Y : Nat} {M : zMS} {x1 : Int32} {x2 : Int32}  : fX12_laySight (mdl ν Y M) Y x1 x2 = Option.map (zq2 (mdl ν Y)) (gX12_laySight M x1 x2) := by simp only [fX12_laySight, gX12_laySight, zgd_t, zmap_ite, zmap_some, zmap_none, zmap_zb0, zmap_zni, zq2_k, zq3_k, zq4_k, zq5_k, zzb1_q, zzb2_q, zzb3_q, zzb4_q, zzb5_q, zmap_zb1, zmap_zb2, zmap_zb3, zmap_zb4, zmap_zb5, zmap_zb6, zmap_zc1, zmap_zc2, zmap_zc3, zmap_zc4, md_ck, eX12_factOf, eX12_facts, eX12_hand, eX12_hasSight, eX12_isPlace, eX12_laySight_l20]
noncomputable def gX12_isSo_l18 (M : zMS) (x4_1 : Int32) (x1 : Int32) (x3 : Int32) (x2 : Int32) (F8 : Int32 → Int32 → Option (Int32)) (x5_6 : Int32) (x6_7 : Int32) : Option (Int32) :=
  if 2 < x6_7 then (
  some x5_6)
  else (
  zb1 (gX12_factOf M x4_1 1) fun v13 =>
  zb1 (gX12_comes M x1 x3 2 x2 v13 x6_7) fun v15 =>
  zb1 (gX12_factOf M x4_1 2) fun v17 =>
  zb1 (if v15 = v17 then (
  some 1)
  else (
  some 0) : Option (Int32)) fun (s18 : Int32) =>
  zb1 (if x5_6 = 0 then (
  if s18 = 0 then (
  some 0)
  else (
  zb1 (if x6_7 = 0 then (
  some x3)
  else (
  zb1 (gX12_given M x3 x2 x6_7) fun v27 =>
  some v27) : Option (Int32)) fun (s22 : Int32) =>
  zb1 (gX12_factOf M x4_1 3) fun v25 =>
  if s22 = v25 then (
  some 1)
  else (
  some 0)))
  else (
  some 1) : Option (Int32)) fun (s20 : Int32) =>
  F8 s20 (x6_7 + 1))
noncomputable def gX12_isSo_l3 (M : zMS) (x1 : Int32) (x3 : Int32) (x2 : Int32) (F2 : Int32 → Option (Int32)) (x4_1 : Int32) : Option (Int32) :=
  zb1 (gX12_facts M) fun v5 =>
  if v5 ≤ x4_1 then (
  some 1)
  else (
  zb1 (zf2 (gX12_isSo_l18 M x4_1 x1 x3 x2) zfu 0 0 : Option (Int32)) fun (x5_10 : Int32) =>
  zb1 (gX12_factOf M x4_1 0) fun v30 =>
  zb1 (if v30 = 1 then (
  some 1)
  else (
  some 0) : Option (Int32)) fun (s31 : Int32) =>
  if x5_10 = s31 then (
  F2 (x4_1 + 1))
  else (
  some 0))
noncomputable def gX12_isSo (M : zMS) (x1 : Int32) (x2 : Int32) (x3 : Int32) : Option (Int32) :=
  zf1 (gX12_isSo_l3 M x1 x3 x2) zfu 0
set_option maxRecDepth 100000 in
theorem eX12_isSo_l18 {ν : zM} {Y : Nat} {M : zMS} {x4_1 : Int32} {x1 : Int32} {x3 : Int32} {x2 : Int32} {x5_6 : Int32} {x6_7 : Int32}   (n : Nat) : zf2 (fX12_isSo_l18 (mdl ν Y M) Y x4_1 x1 x3 x2) n x5_6 x6_7 = zf2 (gX12_isSo_l18 M x4_1 x1 x3 x2) n x5_6 x6_7 := by
  refine zf2_c (fun F8 G8 hF8 x5_6 x6_7 => ?_) n x5_6 x6_7
  simp only [fX12_isSo_l18, gX12_isSo_l18, zgd_t, zmap_ite, zmap_some, zmap_none, zmap_zb0, zmap_zni, zq2_k, zq3_k, zq4_k, zq5_k, zzb1_q, zzb2_q, zzb3_q, zzb4_q, zzb5_q, zmap_zb1, zmap_zb2, zmap_zb3, zmap_zb4, zmap_zb5, zmap_zb6, zmap_zc1, zmap_zc2, zmap_zc3, zmap_zc4, md_ck, eX12_comes, eX12_factOf, eX12_facts, eX12_given, hF8]
set_option maxRecDepth 100000 in
theorem eX12_isSo_l3 {ν : zM} {Y : Nat} {M : zMS} {x1 : Int32} {x3 : Int32} {x2 : Int32} {x4_1 : Int32}   (n : Nat) : zf1 (fX12_isSo_l3 (mdl ν Y M) Y x1 x3 x2) n x4_1 = zf1 (gX12_isSo_l3 M x1 x3 x2) n x4_1 := by
  refine zf1_c (fun F2 G2 hF2 x4_1 => ?_) n x4_1
  simp only [fX12_isSo_l3, gX12_isSo_l3, zgd_t, zmap_ite, zmap_some, zmap_none, zmap_zb0, zmap_zni, zq2_k, zq3_k, zq4_k, zq5_k, zzb1_q, zzb2_q, zzb3_q, zzb4_q, zzb5_q, zmap_zb1, zmap_zb2, zmap_zb3, zmap_zb4, zmap_zb5, zmap_zb6, zmap_zc1, zmap_zc2, zmap_zc3, zmap_zc4, md_ck, eX12_comes, eX12_factOf, eX12_facts, eX12_given, eX12_isSo_l18, hF2]
set_option maxRecDepth 100000 in
theorem eX12_isSo {ν : zM} {Y : Nat} {M : zMS} {x1 : Int32} {x2 : Int32} {x3 : Int32}  : fX12_isSo (mdl ν Y M) Y x1 x2 x3 = gX12_isSo M x1 x2 x3 := by simp only [fX12_isSo, gX12_isSo, zgd_t, zmap_ite, zmap_some, zmap_none, zmap_zb0, zmap_zni, zq2_k, zq3_k, zq4_k, zq5_k, zzb1_q, zzb2_q, zzb3_q, zzb4_q, zzb5_q, zmap_zb1, zmap_zb2, zmap_zb3, zmap_zb4, zmap_zb5, zmap_zb6, zmap_zc1, zmap_zc2, zmap_zc3, zmap_zc4, md_ck, eX12_comes, eX12_factOf, eX12_facts, eX12_given, eX12_isSo_l18, eX12_isSo_l3]
noncomputable def gX12_findSaid_b79 (x3_4 : Int32) : Option (Int32) :=
  some (x3_4 / 1000)
noncomputable def gX12_findSaid_l9 (x1 : Int32) (F6 : Int32 → Int32 → zMS → Option (Int32 × zMS)) (x2_3 : Int32) (x3_4 : Int32) (m5 : zMS) : Option (Int32 × zMS) :=
  if (1000 * ((m5.1 24) + 1)) ≤ x3_4 then (
  zb1 (if x1 = (-1) then (
  some x2_3)
  else (
  some (-1)) : Option (Int32)) fun (s10 : Int32) =>
  some (s10, m5))
  else (
  if 8 ≤ (x3_4 - x3_4 / 10 * 10) then (
  F6 x2_3 (x3_4 + 1) m5)
  else (
  zb1 (gX12_isSo m5 (x3_4 / 1000) ((x3_4 / 10) - (x3_4 / 10) / 100 * 100) (x3_4 - x3_4 / 10 * 10)) fun v13 =>
  if v13 = 0 then (
  F6 x2_3 (x3_4 + 1) m5)
  else (
  if x2_3 = x1 then (
  some (x3_4, m5))
  else (
  zb1 (if x2_3 = 0 then (
  gX12_findSaid_b79 x3_4)
  else (
  if (m5.1 48) = (x3_4 / 1000) then (
  gX12_findSaid_b79 x3_4)
  else (
  some (-2))) : Option (Int32)) fun (s14 : Int32) =>
  zb1 (some (zsI m5 48 s14)) fun M17 =>
  F6 (x2_3 + 1) (x3_4 + 1) M17))))
noncomputable def gX12_findSaid (M : zMS) (x1 : Int32) : Option (Int32 × zMS) :=
  zb1 (some (zsI M 48 (-1))) fun M1 =>
  zf3 (gX12_findSaid_l9 x1) zfu 0 0 M1
set_option maxRecDepth 100000 in
theorem eX12_findSaid_b79  {x3_4 : Int32}   : fX12_findSaid_b79 x3_4  = gX12_findSaid_b79 x3_4  := by simp only [fX12_findSaid_b79, gX12_findSaid_b79, zgd_t, zmap_ite, zmap_some, zmap_none, zmap_zb0, zmap_zni, zq2_k, zq3_k, zq4_k, zq5_k, zzb1_q, zzb2_q, zzb3_q, zzb4_q, zzb5_q, zmap_zb1, zmap_zb2, zmap_zb3, zmap_zb4, zmap_zb5, zmap_zb6, zmap_zc1, zmap_zc2, zmap_zc3, zmap_zc4, md_ck, md_g24, md_g48, md_p48, eX12_isSo]
set_option maxRecDepth 100000 in
theorem eX12_findSaid_l9 {ν : zM} {Y : Nat} {x1 : Int32} {x2_3 : Int32} {x3_4 : Int32} {m5 : zMS}   (n : Nat) : zf3 (fX12_findSaid_l9 Y x1) n x2_3 x3_4 (mdl ν Y m5) = Option.map (zq2 (mdl ν Y)) (zf3 (gX12_findSaid_l9 x1) n x2_3 x3_4 m5) := by
  refine zf3_m (fun F6 G6 hF6 x2_3 x3_4 m5 => ?_) n x2_3 x3_4 m5
  simp only [fX12_findSaid_l9, gX12_findSaid_l9, zgd_t, zmap_ite, zmap_some, zmap_none, zmap_zb0, zmap_zni, zq2_k, zq3_k, zq4_k, zq5_k, zzb1_q, zzb2_q, zzb3_q, zzb4_q, zzb5_q, zmap_zb1, zmap_zb2, zmap_zb3, zmap_zb4, zmap_zb5, zmap_zb6, zmap_zc1, zmap_zc2, zmap_zc3, zmap_zc4, md_ck, md_g24, md_g48, md_p48, eX12_isSo, eX12_findSaid_b79, hF6]
set_option maxRecDepth 100000 in
theorem eX12_findSaid {ν : zM} {Y : Nat} {M : zMS} {x1 : Int32}  : fX12_findSaid (mdl ν Y M) Y x1 = Option.map (zq2 (mdl ν Y)) (gX12_findSaid M x1) := by simp only [fX12_findSaid, gX12_findSaid, zgd_t, zmap_ite, zmap_some, zmap_none, zmap_zb0, zmap_zni, zq2_k, zq3_k, zq4_k, zq5_k, zzb1_q, zzb2_q, zzb3_q, zzb4_q, zzb5_q, zmap_zb1, zmap_zb2, zmap_zb3, zmap_zb4, zmap_zb5, zmap_zb6, zmap_zc1, zmap_zc2, zmap_zc3, zmap_zc4, md_ck, md_g24, md_g48, md_p48, eX12_isSo, eX12_findSaid_b79, eX12_findSaid_l9]
noncomputable def gX12_said (M : zMS) (x1 : Int32) (x2 : Int32) (x3 : Int32) : Option (Int32 × zMS) :=
  zb1 (some (zsI M 0 0)) fun M1 =>
  zb2 (gX12_laySight M1 x1 x2) fun v5 M4 =>
  zc2 (if v5 = 0 then (
  some ((-1), M4))
  else (
  zb2 (gX12_findSaid M4 x3) fun v11 M10 =>
  some (v11, M10)) : Option (Int32 × zMS)) fun (s6 : Int32) (m7 : zMS) =>
  some (s6, m7)
set_option maxRecDepth 100000 in
theorem eX12_said {ν : zM} {Y : Nat} {M : zMS} {x1 : Int32} {x2 : Int32} {x3 : Int32}  : fX12_said (mdl ν Y M) Y x1 x2 x3 = Option.map (zq2 (mdl ν Y)) (gX12_said M x1 x2 x3) := by simp only [fX12_said, gX12_said, zgd_t, zmap_ite, zmap_some, zmap_none, zmap_zb0, zmap_zni, zq2_k, zq3_k, zq4_k, zq5_k, zzc1_some, zzc2_some, zzc3_some, zzc4_some, zzc5_some, zzc6_some, zzb1_q, zzb2_q, zzb3_q, zzb4_q, zzb5_q, zzc1_q, zzc2_q, zzc3_q, zzc4_q, zzc5_q, zmap_zb1, zmap_zb2, zmap_zb3, zmap_zb4, zmap_zb5, zmap_zb6, zzc1_ite, zzc2_ite, zzc3_ite, zzc4_ite, zmap_zc1, zmap_zc2, zmap_zc3, zmap_zc4, zzc1_zb0, zzc1_zb1, zzc1_zb2, zzc1_zb3, zzc1_zb4, zzc2_zb0, zzc2_zb1, zzc2_zb2, zzc2_zb3, zzc2_zb4, zzc3_zb0, zzc3_zb1, zzc3_zb2, zzc3_zb3, zzc3_zb4, zzc4_zb0, zzc4_zb1, zzc4_zb2, zzc4_zb3, zzc4_zb4, md_ck, md_p0, eX12_findSaid, eX12_laySight]
noncomputable def gX12_listens_b135  : Option (Int32) :=
  some 0
noncomputable def gX12_listens_l3 (x1 : Int32) (x3 : Int32) (x2 : Int32) (F3 : Int32 → zMS → Option (zMS)) (x4_1 : Int32) (m2 : zMS) : Option (zMS) :=
  if (m2.1 24) < x4_1 then (
  some m2)
  else (
  zb1 (gX12_comes m2 x1 x3 2 x2 x4_1 0) fun v10 =>
  zb1 (gX12_comes m2 x1 x3 2 x2 x4_1 1) fun v12 =>
  zb1 (gX12_comes m2 x1 x3 2 x2 x4_1 2) fun v14 =>
  zb1 (gX12_lesser v10 99) fun v18 =>
  zb1 (zag 3100 (m2.2.2 47) ((100 * x4_1) + v18)) fun v19 =>
  zb1 (if 99 < v10 then (
  some 0)
  else (
  some 1) : Option (Int32)) fun (s21 : Int32) =>
  zb1 (zas 3100 (m2.2.2 47) ((100 * x4_1) + v18) (v19 + s21)) fun f23 =>
  zb1 (some (zsA m2 47 f23)) fun M23 =>
  zb1 (gX12_in v12 0 99) fun v28 =>
  zb1 (if v28 = 0 then (
  some 0)
  else (
  some v12) : Option (Int32)) fun (s29 : Int32) =>
  zb1 (zag 3100 (M23.2.2 47) ((100 * x4_1) + s29)) fun v31 =>
  zb1 (gX12_in v12 0 99) fun v34 =>
  zb1 (if v34 = 0 then (
  gX12_listens_b135)
  else (
  if v12 = v10 then (
  gX12_listens_b135)
  else (
  some 1)) : Option (Int32)) fun (s35 : Int32) =>
  zb1 (zas 3100 (M23.2.2 47) ((100 * x4_1) + s29) (v31 + s35)) fun f38 =>
  zb1 (some (zsA M23 47 f38)) fun M38 =>
  zb1 (gX12_in v14 0 99) fun v43 =>
  zb1 (if v43 = 0 then (
  some 0)
  else (
  some v14) : Option (Int32)) fun (s44 : Int32) =>
  zb1 (zag 3100 (M38.2.2 47) ((100 * x4_1) + s44)) fun v46 =>
  zb1 (gX12_in v14 0 99) fun v49 =>
  zb1 (if v49 = 0 then (
  some 0)
  else (
  if v14 = v10 then (
  some 0)
  else (
  if v14 = v12 then (
  some 0)
  else (
  some 1))) : Option (Int32)) fun (s50 : Int32) =>
  zb1 (zas 3100 (M38.2.2 47) ((100 * x4_1) + s44) (v46 + s50)) fun f52 =>
  zb1 (some (zsA M38 47 f52)) fun M52 =>
  F3 (x4_1 + 1) M52)
noncomputable def gX12_listens (M : zMS) (x1 : Int32) (x2 : Int32) (x3 : Int32) : Option (zMS) :=
  zb1 (zf2 (gX12_listens_l3 x1 x3 x2) zfu 0 M : Option (zMS)) fun (m5 : zMS) =>
  some m5
set_option maxRecDepth 100000 in
theorem eX12_listens_b135     : fX12_listens_b135  = gX12_listens_b135  := by simp only [fX12_listens_b135, gX12_listens_b135, zgd_t, zmap_ite, zmap_some, zmap_none, zmap_zb0, zmap_zni, zq2_k, zq3_k, zq4_k, zq5_k, zzb1_q, zzb2_q, zzb3_q, zzb4_q, zzb5_q, zmap_zb1, zmap_zb2, zmap_zb3, zmap_zb4, zmap_zb5, zmap_zb6, zmap_zc1, zmap_zc2, zmap_zc3, zmap_zc4, md_ck, md_g24, md_g47, md_a47, md_s47, eX12_comes, eX12_in, eX12_lesser]
set_option maxRecDepth 100000 in
theorem eX12_listens_l3 {ν : zM} {Y : Nat} {x1 : Int32} {x3 : Int32} {x2 : Int32} {x4_1 : Int32} {m2 : zMS}   (n : Nat) : zf2 (fX12_listens_l3 Y x1 x3 x2) n x4_1 (mdl ν Y m2) = Option.map (mdl ν Y) (zf2 (gX12_listens_l3 x1 x3 x2) n x4_1 m2) := by
  refine zf2_m (fun F3 G3 hF3 x4_1 m2 => ?_) n x4_1 m2
  simp only [fX12_listens_l3, gX12_listens_l3, zgd_t, zmap_ite, zmap_some, zmap_none, zmap_zb0, zmap_zni, zq2_k, zq3_k, zq4_k, zq5_k, zzb1_q, zzb2_q, zzb3_q, zzb4_q, zzb5_q, zmap_zb1, zmap_zb2, zmap_zb3, zmap_zb4, zmap_zb5, zmap_zb6, zmap_zc1, zmap_zc2, zmap_zc3, zmap_zc4, md_ck, md_g24, md_g47, md_a47, md_s47, eX12_comes, eX12_in, eX12_lesser, eX12_listens_b135, hF3]
set_option maxRecDepth 100000 in
theorem eX12_listens {ν : zM} {Y : Nat} {M : zMS} {x1 : Int32} {x2 : Int32} {x3 : Int32}  : fX12_listens (mdl ν Y M) Y x1 x2 x3 = Option.map (mdl ν Y) (gX12_listens M x1 x2 x3) := by simp only [fX12_listens, gX12_listens, zgd_t, zmap_ite, zmap_some, zmap_none, zmap_zb0, zmap_zni, zq2_k, zq3_k, zq4_k, zq5_k, zzb1_q, zzb2_q, zzb3_q, zzb4_q, zzb5_q, zmap_zb1, zmap_zb2, zmap_zb3, zmap_zb4, zmap_zb5, zmap_zb6, zmap_zc1, zmap_zc2, zmap_zc3, zmap_zc4, md_ck, md_g24, md_g47, md_a47, md_s47, eX12_comes, eX12_in, eX12_lesser, eX12_listens_b135, eX12_listens_l3]
noncomputable def gX12_spot_l55  (F11 : Int32 → zMS → Option (zMS)) (x5_9 : Int32) (m10 : zMS) : Option (zMS) :=
  if 3100 ≤ x5_9 then (
  some m10)
  else (
  zb1 (zas 3100 (m10.2.2 47) x5_9 0) fun f17 =>
  zb1 (some (zsA m10 47 f17)) fun M17 =>
  F11 (x5_9 + 1) M17)
noncomputable def gX12_spot_l80  (F22 : Int32 → zMS → Option (zMS)) (x5_20 : Int32) (m21 : zMS) : Option (zMS) :=
  if (1000 * ((m21.1 24) + 1)) ≤ x5_20 then (
  some m21)
  else (
  zc1 (if 8 ≤ (x5_20 - x5_20 / 10 * 10) then (
  some m21)
  else (
  zb1 (gX12_isSo m21 (x5_20 / 1000) ((x5_20 / 10) - (x5_20 / 10) / 100 * 100) (x5_20 - x5_20 / 10 * 10)) fun v31 =>
  if v31 = 0 then (
  some m21)
  else (
  zb1 (gX12_listens m21 (x5_20 / 1000) ((x5_20 / 10) - (x5_20 / 10) / 100 * 100) (x5_20 - x5_20 / 10 * 10)) fun M33 =>
  some M33)) : Option (zMS)) fun (m28 : zMS) =>
  F22 (x5_20 + 1) m28)
noncomputable def gX12_spot_l166 (m24 : zMS) (v8 : Int32) (F37 : Int32 → Int32 → Option (Int32)) (x5_35 : Int32) (x6_36 : Int32) : Option (Int32) :=
  if (100 * ((m24.1 24) + 1)) ≤ x6_36 then (
  some x5_35)
  else (
  zb1 (zag 3100 (m24.2.2 47) x6_36) fun v45 =>
  zb1 (zag 3100 (m24.2.2 47) x6_36) fun v49 =>
  zb1 (gX12_greater v45 (v8 - v49)) fun v52 =>
  zb1 (zag 3100 (m24.2.2 47) x5_35) fun v55 =>
  zb1 (zag 3100 (m24.2.2 47) x5_35) fun v59 =>
  zb1 (gX12_greater v55 (v8 - v59)) fun v62 =>
  zb1 (if v62 ≤ v52 then (
  some x5_35)
  else (
  some x6_36) : Option (Int32)) fun (s63 : Int32) =>
  F37 s63 (x6_36 + 1))
noncomputable def gX12_spot (M : zMS) (x1 : Int32) (x2 : Int32) (x3 : Int32) : Option (Int32 × zMS) :=
  zb1 (some (zsI M 0 0)) fun M1 =>
  zb2 (gX12_laySight M1 x1 x2) fun v5 M4 =>
  if v5 = 0 then (
  some ((-1), M4))
  else (
  zb2 (gX12_findSaid M4 (-1)) fun v8 M7 =>
  if v8 = 0 then (
  some ((-1), M7))
  else (
  if x3 = 0 then (
  zb1 (if (M7.1 48) = (-2) then (
  some (-1))
  else (
  some (M7.1 48)) : Option (Int32)) fun (s68 : Int32) =>
  some (s68, M7))
  else (
  zb1 (zf2 gX12_spot_l55 zfu 0 M7 : Option (zMS)) fun (m13 : zMS) =>
  zb1 (zf2 gX12_spot_l80 zfu 0 m13 : Option (zMS)) fun (m24 : zMS) =>
  zb1 (zf2 (gX12_spot_l166 m24 v8) zfu 0 1 : Option (Int32)) fun (x5_39 : Int32) =>
  some (x5_39, m24))))
set_option maxRecDepth 100000 in
theorem eX12_spot_l55 {ν : zM} {Y : Nat} {x5_9 : Int32} {m10 : zMS}   (n : Nat) : zf2 (fX12_spot_l55 Y) n x5_9 (mdl ν Y m10) = Option.map (mdl ν Y) (zf2 gX12_spot_l55 n x5_9 m10) := by
  refine zf2_m (fun F11 G11 hF11 x5_9 m10 => ?_) n x5_9 m10
  simp only [fX12_spot_l55, gX12_spot_l55, zgd_t, zmap_ite, zmap_some, zmap_none, zmap_zb0, zmap_zni, zq2_k, zq3_k, zq4_k, zq5_k, zzc1_some, zzc2_some, zzc3_some, zzc4_some, zzc5_some, zzc6_some, zzb1_q, zzb2_q, zzb3_q, zzb4_q, zzb5_q, zzc1_q, zzc2_q, zzc3_q, zzc4_q, zzc5_q, zmap_zb1, zmap_zb2, zmap_zb3, zmap_zb4, zmap_zb5, zmap_zb6, zzc1_ite, zzc2_ite, zzc3_ite, zzc4_ite, zmap_zc1, zmap_zc2, zmap_zc3, zmap_zc4, zzc1_zb0, zzc1_zb1, zzc1_zb2, zzc1_zb3, zzc1_zb4, zzc2_zb0, zzc2_zb1, zzc2_zb2, zzc2_zb3, zzc2_zb4, zzc3_zb0, zzc3_zb1, zzc3_zb2, zzc3_zb3, zzc3_zb4, zzc4_zb0, zzc4_zb1, zzc4_zb2, zzc4_zb3, zzc4_zb4, md_ck, md_g24, md_g47, md_g48, md_p0, md_a47, md_s47, eX12_findSaid, eX12_greater, eX12_isSo, eX12_laySight, eX12_listens, hF11]
set_option maxRecDepth 100000 in
theorem eX12_spot_l80 {ν : zM} {Y : Nat} {x5_20 : Int32} {m21 : zMS}   (n : Nat) : zf2 (fX12_spot_l80 Y) n x5_20 (mdl ν Y m21) = Option.map (mdl ν Y) (zf2 gX12_spot_l80 n x5_20 m21) := by
  refine zf2_m (fun F22 G22 hF22 x5_20 m21 => ?_) n x5_20 m21
  simp only [fX12_spot_l80, gX12_spot_l80, zgd_t, zmap_ite, zmap_some, zmap_none, zmap_zb0, zmap_zni, zq2_k, zq3_k, zq4_k, zq5_k, zzc1_some, zzc2_some, zzc3_some, zzc4_some, zzc5_some, zzc6_some, zzb1_q, zzb2_q, zzb3_q, zzb4_q, zzb5_q, zzc1_q, zzc2_q, zzc3_q, zzc4_q, zzc5_q, zmap_zb1, zmap_zb2, zmap_zb3, zmap_zb4, zmap_zb5, zmap_zb6, zzc1_ite, zzc2_ite, zzc3_ite, zzc4_ite, zmap_zc1, zmap_zc2, zmap_zc3, zmap_zc4, zzc1_zb0, zzc1_zb1, zzc1_zb2, zzc1_zb3, zzc1_zb4, zzc2_zb0, zzc2_zb1, zzc2_zb2, zzc2_zb3, zzc2_zb4, zzc3_zb0, zzc3_zb1, zzc3_zb2, zzc3_zb3, zzc3_zb4, zzc4_zb0, zzc4_zb1, zzc4_zb2, zzc4_zb3, zzc4_zb4, md_ck, md_g24, md_g47, md_g48, md_p0, md_a47, md_s47, eX12_findSaid, eX12_greater, eX12_isSo, eX12_laySight, eX12_listens, eX12_spot_l55, hF22]
set_option maxRecDepth 100000 in
theorem eX12_spot_l166 {ν : zM} {Y : Nat} {m24 : zMS} {v8 : Int32} {x5_35 : Int32} {x6_36 : Int32}   (n : Nat) : zf2 (fX12_spot_l166 (mdl ν Y m24) Y v8) n x5_35 x6_36 = zf2 (gX12_spot_l166 m24 v8) n x5_35 x6_36 := by
  refine zf2_c (fun F37 G37 hF37 x5_35 x6_36 => ?_) n x5_35 x6_36
  simp only [fX12_spot_l166, gX12_spot_l166, zgd_t, zmap_ite, zmap_some, zmap_none, zmap_zb0, zmap_zni, zq2_k, zq3_k, zq4_k, zq5_k, zzc1_some, zzc2_some, zzc3_some, zzc4_some, zzc5_some, zzc6_some, zzb1_q, zzb2_q, zzb3_q, zzb4_q, zzb5_q, zzc1_q, zzc2_q, zzc3_q, zzc4_q, zzc5_q, zmap_zb1, zmap_zb2, zmap_zb3, zmap_zb4, zmap_zb5, zmap_zb6, zzc1_ite, zzc2_ite, zzc3_ite, zzc4_ite, zmap_zc1, zmap_zc2, zmap_zc3, zmap_zc4, zzc1_zb0, zzc1_zb1, zzc1_zb2, zzc1_zb3, zzc1_zb4, zzc2_zb0, zzc2_zb1, zzc2_zb2, zzc2_zb3, zzc2_zb4, zzc3_zb0, zzc3_zb1, zzc3_zb2, zzc3_zb3, zzc3_zb4, zzc4_zb0, zzc4_zb1, zzc4_zb2, zzc4_zb3, zzc4_zb4, md_ck, md_g24, md_g47, md_g48, md_p0, md_a47, md_s47, eX12_findSaid, eX12_greater, eX12_isSo, eX12_laySight, eX12_listens, eX12_spot_l55, eX12_spot_l80, hF37]
set_option maxRecDepth 100000 in
theorem eX12_spot {ν : zM} {Y : Nat} {M : zMS} {x1 : Int32} {x2 : Int32} {x3 : Int32}  : fX12_spot (mdl ν Y M) Y x1 x2 x3 = Option.map (zq2 (mdl ν Y)) (gX12_spot M x1 x2 x3) := by simp only [fX12_spot, gX12_spot, zgd_t, zmap_ite, zmap_some, zmap_none, zmap_zb0, zmap_zni, zq2_k, zq3_k, zq4_k, zq5_k, zzc1_some, zzc2_some, zzc3_some, zzc4_some, zzc5_some, zzc6_some, zzb1_q, zzb2_q, zzb3_q, zzb4_q, zzb5_q, zzc1_q, zzc2_q, zzc3_q, zzc4_q, zzc5_q, zmap_zb1, zmap_zb2, zmap_zb3, zmap_zb4, zmap_zb5, zmap_zb6, zzc1_ite, zzc2_ite, zzc3_ite, zzc4_ite, zmap_zc1, zmap_zc2, zmap_zc3, zmap_zc4, zzc1_zb0, zzc1_zb1, zzc1_zb2, zzc1_zb3, zzc1_zb4, zzc2_zb0, zzc2_zb1, zzc2_zb2, zzc2_zb3, zzc2_zb4, zzc3_zb0, zzc3_zb1, zzc3_zb2, zzc3_zb3, zzc3_zb4, zzc4_zb0, zzc4_zb1, zzc4_zb2, zzc4_zb3, zzc4_zb4, md_ck, md_g24, md_g47, md_g48, md_p0, md_a47, md_s47, eX12_findSaid, eX12_greater, eX12_isSo, eX12_laySight, eX12_listens, eX12_spot_l55, eX12_spot_l80, eX12_spot_l166]
noncomputable def gX12_draw (M : zMS) (x1 : Int32) : Option (Int32 × zMS) :=
  zb1 (some (zsI M 49 (((M.1 49) * 1103515245) + 12345))) fun M3 =>
  zni (x1 = 0) <|
  some (((((M3.1 49) : Int32).toUInt32 >>> ((16 : Int32).toUInt32 &&& Int32.toUInt32 31)).toInt32) - ((((M3.1 49) : Int32).toUInt32 >>> ((16 : Int32).toUInt32 &&& Int32.toUInt32 31)).toInt32) / x1 * x1, M3)
set_option maxRecDepth 100000 in
theorem eX12_draw {ν : zM} {Y : Nat} {M : zMS} {x1 : Int32}  : fX12_draw (mdl ν Y M) Y x1 = Option.map (zq2 (mdl ν Y)) (gX12_draw M x1) := by simp only [fX12_draw, gX12_draw, zgd_t, zmap_ite, zmap_some, zmap_none, zmap_zb0, zmap_zni, zq2_k, zq3_k, zq4_k, zq5_k, zzb1_q, zzb2_q, zzb3_q, zzb4_q, zzb5_q, zmap_zb1, zmap_zb2, zmap_zb3, zmap_zb4, zmap_zb5, zmap_zb6, zmap_zc1, zmap_zc2, zmap_zc3, zmap_zc4, md_ck, md_g49, md_p49]
noncomputable def gX12_drawDeed (M : zMS)  : Option (zMS) :=
  zb2 (gX12_draw M (M.1 25)) fun v5 M4 =>
  zb2 (gX12_draw M4 6) fun v8 M7 =>
  zc1 (if 2 < v8 then (
  if 5 ≤ v8 then (
  zb2 (gX12_draw M7 9) fun v13 M12 =>
  zb2 (gX12_waits M12 (1 + v13)) fun v16 M15 =>
  some M15)
  else (
  zb2 (gX12_draw M7 ((M7.1 24) + 1)) fun v21 M20 =>
  zb2 (gX12_walks M20 v5 v21) fun v24 M23 =>
  some M23))
  else (
  zb2 (gX12_draw M7 8) fun v27 M26 =>
  zb1 (gX12_says M26 v5 v27 v8) fun M29 =>
  some M29) : Option (zMS)) fun (m9 : zMS) =>
  some m9
set_option maxRecDepth 100000 in
theorem eX12_drawDeed {ν : zM} {Y : Nat} {M : zMS}   : fX12_drawDeed (mdl ν Y M) Y = Option.map (mdl ν Y) (gX12_drawDeed M ) := by simp only [fX12_drawDeed, gX12_drawDeed, zgd_t, zmap_ite, zmap_some, zmap_none, zmap_zb0, zmap_zni, zq2_k, zq3_k, zq4_k, zq5_k, zzc1_some, zzc2_some, zzc3_some, zzc4_some, zzc5_some, zzc6_some, zzb1_q, zzb2_q, zzb3_q, zzb4_q, zzb5_q, zzc1_q, zzc2_q, zzc3_q, zzc4_q, zzc5_q, zmap_zb1, zmap_zb2, zmap_zb3, zmap_zb4, zmap_zb5, zmap_zb6, zzc1_ite, zzc2_ite, zzc3_ite, zzc4_ite, zmap_zc1, zmap_zc2, zmap_zc3, zmap_zc4, zzc1_zb0, zzc1_zb1, zzc1_zb2, zzc1_zb3, zzc1_zb4, zzc2_zb0, zzc2_zb1, zzc2_zb2, zzc2_zb3, zzc2_zb4, zzc3_zb0, zzc3_zb1, zzc3_zb2, zzc3_zb3, zzc3_zb4, zzc4_zb0, zzc4_zb1, zzc4_zb2, zzc4_zb3, zzc4_zb4, md_ck, md_g24, md_g25, eX12_draw, eX12_says, eX12_waits, eX12_walks]
