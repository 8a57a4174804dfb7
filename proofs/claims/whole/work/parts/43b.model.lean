noncomputable def gX12_skyLine (M : zMS) (x1 : Int32) : Option (Int32 × zMS) :=
  zb2 (gX12_take M 0 0 99) fun v3 M2 =>
  if v3 = 0 then (
  some (0, M2))
  else (
  zb1 (zag 4 (M2.2.2 20) 0) fun v6 =>
  zb2 (gX12_take M2 1 v6 99) fun v10 M9 =>
  if v10 = 0 then (
  some (0, M9))
  else (
  zb1 (zag 121 (M9.2.2 19) 2) fun v13 =>
  zc1 (if 4 ≤ v13 then (
  some M9)
  else (
  zb1 (if x1 = 0 then (
  some 0)
  else (
  some 1) : Option (Int32)) fun (s19 : Int32) =>
  zb1 (zas 121 (M9.2.2 19) (45 + v13) s19) fun f21 =>
  zb1 (some (zsA M9 19 f21)) fun M21 =>
  zb1 (zag 4 (M21.2.2 20) 0) fun v27 =>
  zb1 (zas 121 (M21.2.2 19) (49 + v13) v27) fun f29 =>
  zb1 (some (zsA M21 19 f29)) fun M29 =>
  zb1 (zag 4 (M29.2.2 20) 1) fun v35 =>
  zb1 (zas 121 (M29.2.2 19) (53 + v13) v35) fun f37 =>
  zb1 (some (zsA M29 19 f37)) fun M37 =>
  zb1 (zag 121 (M37.2.2 19) 2) fun v41 =>
  zb1 (zas 121 (M37.2.2 19) 2 (v41 + 1)) fun f43 =>
  zb1 (some (zsA M37 19 f43)) fun M43 =>
  some M43) : Option (zMS)) fun (m15 : zMS) =>
  some (1, m15)))
set_option maxRecDepth 100000 in
theorem eX12_skyLine {ν : zM} {Y : Nat} {M : zMS} {x1 : Int32}  : fX12_skyLine (mdl ν Y M) Y x1 = Option.map (zq2 (mdl ν Y)) (gX12_skyLine M x1) := by simp only [fX12_skyLine, gX12_skyLine, zgd_t, zmap_ite, zmap_some, zmap_none, zmap_zb0, zmap_zni, zq2_k, zq3_k, zq4_k, zq5_k, zzc1_some, zzc2_some, zzc3_some, zzc4_some, zzc5_some, zzc6_some, zzb1_q, zzb2_q, zzb3_q, zzb4_q, zzb5_q, zzc1_q, zzc2_q, zzc3_q, zzc4_q, zzc5_q, zmap_zb1, zmap_zb2, zmap_zb3, zmap_zb4, zmap_zb5, zmap_zb6, zzc1_ite, zzc2_ite, zzc3_ite, zzc4_ite, zmap_zc1, zmap_zc2, zmap_zc3, zmap_zc4, zzc1_zb0, zzc1_zb1, zzc1_zb2, zzc1_zb3, zzc1_zb4, zzc2_zb0, zzc2_zb1, zzc2_zb2, zzc2_zb3, zzc2_zb4, zzc3_zb0, zzc3_zb1, zzc3_zb2, zzc3_zb3, zzc3_zb4, zzc4_zb0, zzc4_zb1, zzc4_zb2, zzc4_zb3, zzc4_zb4, md_ck, md_g19, md_g20, md_a19, md_s19, md_a20, md_s20, eX12_take]
noncomputable def gX12_wordLine (M : zMS) (x1 : Int64) : Option (Int32 × zMS) :=
  zb1 (if (lg_cmp x1 126892383759460) = 0 then (
  some 7)
  else (
  if (lg_cmp x1 32765925218805876) = 0 then (
  some 9)
  else (
  some 99)) : Option (Int32)) fun (s1 : Int32) =>
  zb2 (gX12_take M 0 0 7) fun v5 M4 =>
  if v5 = 0 then (
  some (0, M4))
  else (
  zb2 (gX12_take M4 1 0 s1) fun v8 M7 =>
  if v8 = 0 then (
  some (0, M7))
  else (
  zc1 (if (M7.1 22) = 0 then (
  some M7)
  else (
  zb1 (if (lg_cmp x1 126892383759460) = 0 then (
  some 3)
  else (
  if (lg_cmp x1 32765925218805876) = 0 then (
  some 11)
  else (
  some 19)) : Option (Int32)) fun (s15 : Int32) =>
  zb1 (zag 4 (M7.2.2 20) 0) fun v19 =>
  zb1 (zag 4 (M7.2.2 20) 1) fun v23 =>
  zb1 (zas 121 (M7.2.2 19) (s15 + v19) v23) fun f25 =>
  zb1 (some (zsA M7 19 f25)) fun M25 =>
  some M25) : Option (zMS)) fun (m11 : zMS) =>
  some (1, m11)))
set_option maxRecDepth 100000 in
theorem eX12_wordLine {ν : zM} {Y : Nat} {M : zMS} {x1 : Int64}  : fX12_wordLine (mdl ν Y M) Y x1 = Option.map (zq2 (mdl ν Y)) (gX12_wordLine M x1) := by simp only [fX12_wordLine, gX12_wordLine, zgd_t, zmap_ite, zmap_some, zmap_none, zmap_zb0, zmap_zni, zq2_k, zq3_k, zq4_k, zq5_k, zzc1_some, zzc2_some, zzc3_some, zzc4_some, zzc5_some, zzc6_some, zzb1_q, zzb2_q, zzb3_q, zzb4_q, zzb5_q, zzc1_q, zzc2_q, zzc3_q, zzc4_q, zzc5_q, zmap_zb1, zmap_zb2, zmap_zb3, zmap_zb4, zmap_zb5, zmap_zb6, zzc1_ite, zzc2_ite, zzc3_ite, zzc4_ite, zmap_zc1, zmap_zc2, zmap_zc3, zmap_zc4, zzc1_zb0, zzc1_zb1, zzc1_zb2, zzc1_zb3, zzc1_zb4, zzc2_zb0, zzc2_zb1, zzc2_zb2, zzc2_zb3, zzc2_zb4, zzc3_zb0, zzc3_zb1, zzc3_zb2, zzc3_zb3, zzc3_zb4, zzc4_zb0, zzc4_zb1, zzc4_zb2, zzc4_zb3, zzc4_zb4, md_ck, md_g19, md_g20, md_g22, md_a19, md_s19, md_a20, md_s20, eX12_take]
noncomputable def gX12_valleyLine_b22  : Option (Int32) :=
  some 1
noncomputable def gX12_valleyLine_b77 (v2 : Int32) (M : zMS) (x3 : Int32) (s3 : Int32) (x1 : Int64) : Option (Int32 × zMS) :=
  zc1 (if v2 = (-1) then (
  some M)
  else (
  zb1 (gX12_full M 1 6 x3) fun M43 =>
  some M43) : Option (zMS)) fun (m6 : zMS) =>
  zc1 (if s3 = 0 then (
  some m6)
  else (
  zb1 (gX12_full m6 2 4 x3) fun M41 =>
  some M41) : Option (zMS)) fun (m8 : zMS) =>
  zb1 (gX12_token m8) fun M11 =>
  if v2 = (-1) then (
  if s3 = 0 then (
  if (lg_cmp x1 2003395685) = 0 then (
  zb2 (gX12_take M11 0 2 30) fun v14 M13 =>
  if v14 = 0 then (
  some (0, M13))
  else (
  zb1 (zag 4 (M13.2.2 20) 0) fun v19 =>
  zb1 (zas 121 (M13.2.2 19) 0 v19) fun f21 =>
  zb1 (some (zsA M13 19 f21)) fun M21 =>
  some (1, M21)))
  else (
  zb2 (gX12_wordLine M11 x1) fun v25 M24 =>
  zb1 (zbz v25) fun v26 =>
  some (v26, M24)))
  else (
  zb1 (if (lg_cmp x1 1936617335) = 0 then (
  some 1)
  else (
  some 0) : Option (Int32)) fun (s28 : Int32) =>
  zb2 (gX12_skyLine M11 s28) fun v32 M31 =>
  zb1 (zbz v32) fun v33 =>
  some (v33, M31)))
  else (
  zb2 (gX12_personLine M11 v2) fun v37 M36 =>
  zb1 (zbz v37) fun v38 =>
  some (v38, M36))
noncomputable def gX12_valleyLine (M : zMS) (x1 : Int64) (x3 : Int32) : Option (Int32 × zMS) :=
  zb1 (gX12_kindBy x1) fun v2 =>
  zb1 (if (lg_cmp x1 6713191) = 0 then (
  gX12_valleyLine_b22)
  else (
  if (lg_cmp x1 1936617335) = 0 then (
  gX12_valleyLine_b22)
  else (
  some 0)) : Option (Int32)) fun (s3 : Int32) =>
  if v2 = (-1) then (
  if s3 = 0 then (
  if (lg_cmp x1 2003395685) = 0 then (
  gX12_valleyLine_b77 v2 M x3 s3 x1)
  else (
  if (lg_cmp x1 126892383759460) = 0 then (
  gX12_valleyLine_b77 v2 M x3 s3 x1)
  else (
  if (lg_cmp x1 32765925218805876) = 0 then (
  gX12_valleyLine_b77 v2 M x3 s3 x1)
  else (
  if (lg_cmp x1 131277443786868) = 0 then (
  gX12_valleyLine_b77 v2 M x3 s3 x1)
  else (
  zb2 (gX12_fails M) fun v47 M46 =>
  zb1 (zbz v47) fun v48 =>
  some (v48, M46))))))
  else (
  gX12_valleyLine_b77 v2 M x3 s3 x1))
  else (
  gX12_valleyLine_b77 v2 M x3 s3 x1)
set_option maxRecDepth 100000 in
theorem eX12_valleyLine_b22     : fX12_valleyLine_b22  = gX12_valleyLine_b22  := by simp only [fX12_valleyLine_b22, gX12_valleyLine_b22, zgd_t, zmap_ite, zmap_some, zmap_none, zmap_zb0, zmap_zni, zq2_k, zq3_k, zq4_k, zq5_k, zzc1_some, zzc2_some, zzc3_some, zzc4_some, zzc5_some, zzc6_some, zzb1_q, zzb2_q, zzb3_q, zzb4_q, zzb5_q, zzc1_q, zzc2_q, zzc3_q, zzc4_q, zzc5_q, zmap_zb1, zmap_zb2, zmap_zb3, zmap_zb4, zmap_zb5, zmap_zb6, zzc1_ite, zzc2_ite, zzc3_ite, zzc4_ite, zmap_zc1, zmap_zc2, zmap_zc3, zmap_zc4, zzc1_zb0, zzc1_zb1, zzc1_zb2, zzc1_zb3, zzc1_zb4, zzc2_zb0, zzc2_zb1, zzc2_zb2, zzc2_zb3, zzc2_zb4, zzc3_zb0, zzc3_zb1, zzc3_zb2, zzc3_zb3, zzc3_zb4, zzc4_zb0, zzc4_zb1, zzc4_zb2, zzc4_zb3, zzc4_zb4, md_ck, md_g19, md_g20, md_a19, md_s19, md_a20, md_s20, eX12_fails, eX12_full, eX12_kindBy, eX12_personLine, eX12_skyLine, eX12_take, eX12_token, eX12_wordLine]
set_option maxRecDepth 100000 in
theorem eX12_valleyLine_b77 {ν : zM} {Y : Nat} {v2 : Int32} {M : zMS} {x3 : Int32} {s3 : Int32} {x1 : Int64}   : fX12_valleyLine_b77 v2 (mdl ν Y M) Y x3 s3 x1  = Option.map (zq2 (mdl ν Y)) (gX12_valleyLine_b77 v2 M x3 s3 x1 ) := by simp only [fX12_valleyLine_b77, gX12_valleyLine_b77, zgd_t, zmap_ite, zmap_some, zmap_none, zmap_zb0, zmap_zni, zq2_k, zq3_k, zq4_k, zq5_k, zzc1_some, zzc2_some, zzc3_some, zzc4_some, zzc5_some, zzc6_some, zzb1_q, zzb2_q, zzb3_q, zzb4_q, zzb5_q, zzc1_q, zzc2_q, zzc3_q, zzc4_q, zzc5_q, zmap_zb1, zmap_zb2, zmap_zb3, zmap_zb4, zmap_zb5, zmap_zb6, zzc1_ite, zzc2_ite, zzc3_ite, zzc4_ite, zmap_zc1, zmap_zc2, zmap_zc3, zmap_zc4, zzc1_zb0, zzc1_zb1, zzc1_zb2, zzc1_zb3, zzc1_zb4, zzc2_zb0, zzc2_zb1, zzc2_zb2, zzc2_zb3, zzc2_zb4, zzc3_zb0, zzc3_zb1, zzc3_zb2, zzc3_zb3, zzc3_zb4, zzc4_zb0, zzc4_zb1, zzc4_zb2, zzc4_zb3, zzc4_zb4, md_ck, md_g19, md_g20, md_a19, md_s19, md_a20, md_s20, eX12_fails, eX12_full, eX12_kindBy, eX12_personLine, eX12_skyLine, eX12_take, eX12_token, eX12_wordLine, eX12_valleyLine_b22]
set_option maxRecDepth 100000 in
theorem eX12_valleyLine {ν : zM} {Y : Nat} {M : zMS} {x1 : Int64} {x3 : Int32}  : fX12_valleyLine (mdl ν Y M) Y x1 x3 = Option.map (zq2 (mdl ν Y)) (gX12_valleyLine M x1 x3) := by simp only [fX12_valleyLine, gX12_valleyLine, zgd_t, zmap_ite, zmap_some, zmap_none, zmap_zb0, zmap_zni, zq2_k, zq3_k, zq4_k, zq5_k, zzc1_some, zzc2_some, zzc3_some, zzc4_some, zzc5_some, zzc6_some, zzb1_q, zzb2_q, zzb3_q, zzb4_q, zzb5_q, zzc1_q, zzc2_q, zzc3_q, zzc4_q, zzc5_q, zmap_zb1, zmap_zb2, zmap_zb3, zmap_zb4, zmap_zb5, zmap_zb6, zzc1_ite, zzc2_ite, zzc3_ite, zzc4_ite, zmap_zc1, zmap_zc2, zmap_zc3, zmap_zc4, zzc1_zb0, zzc1_zb1, zzc1_zb2, zzc1_zb3, zzc1_zb4, zzc2_zb0, zzc2_zb1, zzc2_zb2, zzc2_zb3, zzc2_zb4, zzc3_zb0, zzc3_zb1, zzc3_zb2, zzc3_zb3, zzc3_zb4, zzc4_zb0, zzc4_zb1, zzc4_zb2, zzc4_zb3, zzc4_zb4, md_ck, md_g19, md_g20, md_a19, md_s19, md_a20, md_s20, eX12_fails, eX12_full, eX12_kindBy, eX12_personLine, eX12_skyLine, eX12_take, eX12_token, eX12_wordLine, eX12_valleyLine_b22, eX12_valleyLine_b77]
noncomputable def gX12_keep_l19 (x3 : Int32) (x2 : Int32) (v3 : Int32) (F7 : Int32 → zMS → Option (zMS)) (x6_5 : Int32) (m6 : zMS) : Option (zMS) :=
  if x3 ≤ x6_5 then (
  some m6)
  else (
  zb1 (zag 4 (m6.2.2 20) x6_5) fun v15 =>
  zb1 (zas 121 (m6.2.2 19) ((x2 + (x3 * v3)) + x6_5) v15) fun f17 =>
  zb1 (some (zsA m6 19 f17)) fun M17 =>
  F7 (x6_5 + 1) M17)
noncomputable def gX12_keep (M : zMS) (x1 : Int32) (x2 : Int32) (x3 : Int32) (x4 : Int32) : Option (zMS) :=
  zb1 (zag 121 (M.2.2 19) x1) fun v3 =>
  if v3 = x4 then (
  some M)
  else (
  zb1 (zf2 (gX12_keep_l19 x3 x2 v3) zfu 0 M : Option (zMS)) fun (m9 : zMS) =>
  zb1 (zag 121 (m9.2.2 19) x1) fun v22 =>
  zb1 (zas 121 (m9.2.2 19) x1 (v22 + 1)) fun f24 =>
  zb1 (some (zsA m9 19 f24)) fun M24 =>
  some M24)
set_option maxRecDepth 100000 in
theorem eX12_keep_l19 {ν : zM} {Y : Nat} {x3 : Int32} {x2 : Int32} {v3 : Int32} {x6_5 : Int32} {m6 : zMS}   (n : Nat) : zf2 (fX12_keep_l19 x3 Y x2 v3) n x6_5 (mdl ν Y m6) = Option.map (mdl ν Y) (zf2 (gX12_keep_l19 x3 x2 v3) n x6_5 m6) := by
  refine zf2_m (fun F7 G7 hF7 x6_5 m6 => ?_) n x6_5 m6
  simp only [fX12_keep_l19, gX12_keep_l19, zgd_t, zmap_ite, zmap_some, zmap_none, zmap_zb0, zmap_zni, zq2_k, zq3_k, zq4_k, zq5_k, zzb1_q, zzb2_q, zzb3_q, zzb4_q, zzb5_q, zmap_zb1, zmap_zb2, zmap_zb3, zmap_zb4, zmap_zb5, zmap_zb6, zmap_zc1, zmap_zc2, zmap_zc3, zmap_zc4, md_ck, md_g19, md_g20, md_a19, md_s19, md_a20, md_s20, hF7]
set_option maxRecDepth 100000 in
theorem eX12_keep {ν : zM} {Y : Nat} {M : zMS} {x1 : Int32} {x2 : Int32} {x3 : Int32} {x4 : Int32}  : fX12_keep (mdl ν Y M) Y x1 x2 x3 x4 = Option.map (mdl ν Y) (gX12_keep M x1 x2 x3 x4) := by simp only [fX12_keep, gX12_keep, zgd_t, zmap_ite, zmap_some, zmap_none, zmap_zb0, zmap_zni, zq2_k, zq3_k, zq4_k, zq5_k, zzb1_q, zzb2_q, zzb3_q, zzb4_q, zzb5_q, zmap_zb1, zmap_zb2, zmap_zb3, zmap_zb4, zmap_zb5, zmap_zb6, zmap_zc1, zmap_zc2, zmap_zc3, zmap_zc4, md_ck, md_g19, md_g20, md_a19, md_s19, md_a20, md_s20, eX12_keep_l19]
noncomputable def gX12_deedBy  (x0 : Int64) : Option (Int32) :=
  zb1 (if (lg_cmp x0 33610324346168690) = 0 then (
  some 0)
  else (
  if (lg_cmp x0 7561593) = 0 then (
  some 1)
  else (
  if (lg_cmp x0 495673374068) = 0 then (
  some 2)
  else (
  if (lg_cmp x0 2002873451) = 0 then (
  some 3)
  else (
  if (lg_cmp x0 2002872692) = 0 then (
  some 4)
  else (
  some (-1)))))) : Option (Int32)) fun (s1 : Int32) =>
  some s1
set_option maxRecDepth 100000 in
theorem eX12_deedBy {μ : zM} {x0 : Int64} : fX12_deedBy μ x0 = gX12_deedBy x0 := by simp only [fX12_deedBy, gX12_deedBy, zgd_t, zmap_ite, zmap_some, zmap_none, zmap_zb0, zmap_zni, zq2_k, zq3_k, zq4_k, zq5_k, zzb1_q, zzb2_q, zzb3_q, zzb4_q, zzb5_q, zmap_zb1, zmap_zb2, zmap_zb3, zmap_zb4, zmap_zb5, zmap_zb6, zmap_zc1, zmap_zc2, zmap_zc3, zmap_zc4, md_ck]
noncomputable def gX12_dayLine_b107 (v2 : Int32) (m20 : zMS) : Option (Int32 × zMS) :=
  zb1 (zas 4 (m20.2.2 20) 0 v2) fun f23 =>
  zb1 (some (zsA m20 20 f23)) fun M23 =>
  zb1 (gX12_keep M23 0 1 3 40) fun M26 =>
  some (1, M26)
noncomputable def gX12_dayLine (M : zMS) (x1 : Int64) (x3 : Int32) : Option (Int32 × zMS) :=
  zb1 (gX12_deedBy x1) fun v2 =>
  if v2 = (-1) then (
  zb2 (gX12_fails M) fun v35 M34 =>
  zb1 (zbz v35) fun v36 =>
  some (v36, M34))
  else (
  zb1 (gX12_full M 0 40 x3) fun M4 =>
  zb1 (gX12_token M4) fun M6 =>
  zb1 (zas 4 (M6.2.2 20) 2 (-1)) fun f9 =>
  zb1 (some (zsA M6 20 f9)) fun M9 =>
  zb1 (if v2 = 4 then (
  some 1)
  else (
  some 0) : Option (Int32)) fun (s11 : Int32) =>
  zb1 (if s11 = 0 then (
  some 0)
  else (
  some 1) : Option (Int32)) fun (s13 : Int32) =>
  zb1 (if s11 = 0 then (
  some 5)
  else (
  some 60) : Option (Int32)) fun (s15 : Int32) =>
  zb2 (gX12_take M9 1 s13 s15) fun v19 M18 =>
  if v19 = 0 then (
  some (0, M18))
  else (
  if s11 = 0 then (
  zb1 (if v2 = 3 then (
  some 30)
  else (
  some 7) : Option (Int32)) fun (s28 : Int32) =>
  zb2 (gX12_take M18 2 0 s28) fun v32 M31 =>
  if v32 = 0 then (
  some (0, M31))
  else (
  gX12_dayLine_b107 v2 M31))
  else (
  gX12_dayLine_b107 v2 M18)))
set_option maxRecDepth 100000 in
theorem eX12_dayLine_b107 {ν : zM} {Y : Nat} {v2 : Int32} {m20 : zMS}   : fX12_dayLine_b107 Y v2 (mdl ν Y m20) = Option.map (zq2 (mdl ν Y)) (gX12_dayLine_b107 v2 m20) := by simp only [fX12_dayLine_b107, gX12_dayLine_b107, zgd_t, zmap_ite, zmap_some, zmap_none, zmap_zb0, zmap_zni, zq2_k, zq3_k, zq4_k, zq5_k, zzb1_q, zzb2_q, zzb3_q, zzb4_q, zzb5_q, zmap_zb1, zmap_zb2, zmap_zb3, zmap_zb4, zmap_zb5, zmap_zb6, zmap_zc1, zmap_zc2, zmap_zc3, zmap_zc4, md_ck, md_g20, md_a20, md_s20, eX12_deedBy, eX12_fails, eX12_full, eX12_keep, eX12_take, eX12_token]
set_option maxRecDepth 100000 in
theorem eX12_dayLine {ν : zM} {Y : Nat} {M : zMS} {x1 : Int64} {x3 : Int32}  : fX12_dayLine (mdl ν Y M) Y x1 x3 = Option.map (zq2 (mdl ν Y)) (gX12_dayLine M x1 x3) := by simp only [fX12_dayLine, gX12_dayLine, zgd_t, zmap_ite, zmap_some, zmap_none, zmap_zb0, zmap_zni, zq2_k, zq3_k, zq4_k, zq5_k, zzb1_q, zzb2_q, zzb3_q, zzb4_q, zzb5_q, zmap_zb1, zmap_zb2, zmap_zb3, zmap_zb4, zmap_zb5, zmap_zb6, zmap_zc1, zmap_zc2, zmap_zc3, zmap_zc4, md_ck, md_g20, md_a20, md_s20, eX12_deedBy, eX12_fails, eX12_full, eX12_keep, eX12_take, eX12_token, eX12_dayLine_b107]
noncomputable def gX12_lessonLine_b86 (x1 : Int64) (m10 : zMS) : Option (Int32 × zMS) :=
  zc1 (if (lg_cmp x1 1734440549) = 0 then (
  zb1 (gX12_keep m10 1 2 2 10) fun M22 =>
  some M22)
  else (
  zb1 (zag 4 (m10.2.2 20) 0) fun v17 =>
  zb1 (zas 121 (m10.2.2 19) 0 v17) fun f19 =>
  zb1 (some (zsA m10 19 f19)) fun M19 =>
  some M19) : Option (zMS)) fun (m11 : zMS) =>
  some (1, m11)
noncomputable def gX12_lessonLine_b21 (x1 : Int64) (M : zMS) (x3 : Int32) : Option (Int32 × zMS) :=
  zc1 (if (lg_cmp x1 1734440549) = 0 then (
  zb1 (gX12_full M 1 10 x3) fun M28 =>
  some M28)
  else (
  some M) : Option (zMS)) fun (m1 : zMS) =>
  zb1 (gX12_token m1) fun M4 =>
  zb1 (if (lg_cmp x1 1734440549) = 0 then (
  some 7)
  else (
  some 9) : Option (Int32)) fun (s5 : Int32) =>
  zb2 (gX12_take M4 0 0 s5) fun v9 M8 =>
  if v9 = 0 then (
  some (0, M8))
  else (
  if (lg_cmp x1 1734440549) = 0 then (
  zb2 (gX12_take M8 1 0 7) fun v26 M25 =>
  if v26 = 0 then (
  some (0, M25))
  else (
  gX12_lessonLine_b86 x1 M25))
  else (
  gX12_lessonLine_b86 x1 M8))
noncomputable def gX12_lessonLine (M : zMS) (x1 : Int64) (x3 : Int32) : Option (Int32 × zMS) :=
  if (lg_cmp x1 1734440549) = 0 then (
  gX12_lessonLine_b21 x1 M x3)
  else (
  if (lg_cmp x1 1818846579) = 0 then (
  gX12_lessonLine_b21 x1 M x3)
  else (
  zb2 (gX12_fails M) fun v32 M31 =>
  zb1 (zbz v32) fun v33 =>
  some (v33, M31)))
set_option maxRecDepth 100000 in
theorem eX12_lessonLine_b86 {ν : zM} {Y : Nat} {x1 : Int64} {m10 : zMS}   : fX12_lessonLine_b86 x1 Y (mdl ν Y m10) = Option.map (zq2 (mdl ν Y)) (gX12_lessonLine_b86 x1 m10) := by simp only [fX12_lessonLine_b86, gX12_lessonLine_b86, zgd_t, zmap_ite, zmap_some, zmap_none, zmap_zb0, zmap_zni, zq2_k, zq3_k, zq4_k, zq5_k, zzc1_some, zzc2_some, zzc3_some, zzc4_some, zzc5_some, zzc6_some, zzb1_q, zzb2_q, zzb3_q, zzb4_q, zzb5_q, zzc1_q, zzc2_q, zzc3_q, zzc4_q, zzc5_q, zmap_zb1, zmap_zb2, zmap_zb3, zmap_zb4, zmap_zb5, zmap_zb6, zzc1_ite, zzc2_ite, zzc3_ite, zzc4_ite, zmap_zc1, zmap_zc2, zmap_zc3, zmap_zc4, zzc1_zb0, zzc1_zb1, zzc1_zb2, zzc1_zb3, zzc1_zb4, zzc2_zb0, zzc2_zb1, zzc2_zb2, zzc2_zb3, zzc2_zb4, zzc3_zb0, zzc3_zb1, zzc3_zb2, zzc3_zb3, zzc3_zb4, zzc4_zb0, zzc4_zb1, zzc4_zb2, zzc4_zb3, zzc4_zb4, md_ck, md_g19, md_g20, md_a19, md_s19, md_a20, md_s20, eX12_fails, eX12_full, eX12_keep, eX12_take, eX12_token]
set_option maxRecDepth 100000 in
theorem eX12_lessonLine_b21 {ν : zM} {Y : Nat} {x1 : Int64} {M : zMS} {x3 : Int32}   : fX12_lessonLine_b21 x1 (mdl ν Y M) Y x3  = Option.map (zq2 (mdl ν Y)) (gX12_lessonLine_b21 x1 M x3 ) := by simp only [fX12_lessonLine_b21, gX12_lessonLine_b21, zgd_t, zmap_ite, zmap_some, zmap_none, zmap_zb0, zmap_zni, zq2_k, zq3_k, zq4_k, zq5_k, zzc1_some, zzc2_some, zzc3_some, zzc4_some, zzc5_some, zzc6_some, zzb1_q, zzb2_q, zzb3_q, zzb4_q, zzb5_q, zzc1_q, zzc2_q, zzc3_q, zzc4_q, zzc5_q, zmap_zb1, zmap_zb2, zmap_zb3, zmap_zb4, zmap_zb5, zmap_zb6, zzc1_ite, zzc2_ite, zzc3_ite, zzc4_ite, zmap_zc1, zmap_zc2, zmap_zc3, zmap_zc4, zzc1_zb0, zzc1_zb1, zzc1_zb2, zzc1_zb3, zzc1_zb4, zzc2_zb0, zzc2_zb1, zzc2_zb2, zzc2_zb3, zzc2_zb4, zzc3_zb0, zzc3_zb1, zzc3_zb2, zzc3_zb3, zzc3_zb4, zzc4_zb0, zzc4_zb1, zzc4_zb2, zzc4_zb3, zzc4_zb4, md_ck, md_g19, md_g20, md_a19, md_s19, md_a20, md_s20, eX12_fails, eX12_full, eX12_keep, eX12_take, eX12_token, eX12_lessonLine_b86]
set_option maxRecDepth 100000 in
theorem eX12_lessonLine {ν : zM} {Y : Nat} {M : zMS} {x1 : Int64} {x3 : Int32}  : fX12_lessonLine (mdl ν Y M) Y x1 x3 = Option.map (zq2 (mdl ν Y)) (gX12_lessonLine M x1 x3) := by simp only [fX12_lessonLine, gX12_lessonLine, zgd_t, zmap_ite, zmap_some, zmap_none, zmap_zb0, zmap_zni, zq2_k, zq3_k, zq4_k, zq5_k, zzc1_some, zzc2_some, zzc3_some, zzc4_some, zzc5_some, zzc6_some, zzb1_q, zzb2_q, zzb3_q, zzb4_q, zzb5_q, zzc1_q, zzc2_q, zzc3_q, zzc4_q, zzc5_q, zmap_zb1, zmap_zb2, zmap_zb3, zmap_zb4, zmap_zb5, zmap_zb6, zzc1_ite, zzc2_ite, zzc3_ite, zzc4_ite, zmap_zc1, zmap_zc2, zmap_zc3, zmap_zc4, zzc1_zb0, zzc1_zb1, zzc1_zb2, zzc1_zb3, zzc1_zb4, zzc2_zb0, zzc2_zb1, zzc2_zb2, zzc2_zb3, zzc2_zb4, zzc3_zb0, zzc3_zb1, zzc3_zb2, zzc3_zb3, zzc3_zb4, zzc4_zb0, zzc4_zb1, zzc4_zb2, zzc4_zb3, zzc4_zb4, md_ck, md_g19, md_g20, md_a19, md_s19, md_a20, md_s20, eX12_fails, eX12_full, eX12_keep, eX12_take, eX12_token, eX12_lessonLine_b86, eX12_lessonLine_b21]
noncomputable def gX12_sightLine_b21 (M : zMS) (x3 : Int32) (x1 : Int64) : Option (Int32 × zMS) :=
  zb1 (gX12_full M 0 8 x3) fun M2 =>
  zb1 (gX12_token M2) fun M4 =>
  zb2 (gX12_take M4 1 0 30) fun v7 M6 =>
  if v7 = 0 then (
  some (0, M6))
  else (
  zb2 (gX12_take M6 2 0 99) fun v10 M9 =>
  if v10 = 0 then (
  some (0, M9))
  else (
  zb2 (gX12_take M9 3 0 7) fun v13 M12 =>
  if v13 = 0 then (
  some (0, M12))
  else (
  zb1 (if (lg_cmp x1 448377483876) = 0 then (
  some 1)
  else (
  some 0) : Option (Int32)) fun (s16 : Int32) =>
  zb1 (zas 4 (M12.2.2 20) 0 s16) fun f18 =>
  zb1 (some (zsA M12 20 f18)) fun M18 =>
  zb1 (gX12_keep M18 0 1 4 8) fun M21 =>
  some (1, M21))))
noncomputable def gX12_sightLine (M : zMS) (x1 : Int64) (x3 : Int32) : Option (Int32 × zMS) :=
  if (lg_cmp x1 448377483876) = 0 then (
  gX12_sightLine_b21 M x3 x1)
  else (
  if (lg_cmp x1 7237492) = 0 then (
  gX12_sightLine_b21 M x3 x1)
  else (
  zb2 (gX12_fails M) fun v25 M24 =>
  zb1 (zbz v25) fun v26 =>
  some (v26, M24)))
set_option maxRecDepth 100000 in
theorem eX12_sightLine_b21 {ν : zM} {Y : Nat} {M : zMS} {x3 : Int32} {x1 : Int64}   : fX12_sightLine_b21 (mdl ν Y M) Y x3 x1  = Option.map (zq2 (mdl ν Y)) (gX12_sightLine_b21 M x3 x1 ) := by simp only [fX12_sightLine_b21, gX12_sightLine_b21, zgd_t, zmap_ite, zmap_some, zmap_none, zmap_zb0, zmap_zni, zq2_k, zq3_k, zq4_k, zq5_k, zzb1_q, zzb2_q, zzb3_q, zzb4_q, zzb5_q, zmap_zb1, zmap_zb2, zmap_zb3, zmap_zb4, zmap_zb5, zmap_zb6, zmap_zc1, zmap_zc2, zmap_zc3, zmap_zc4, md_ck, md_g20, md_a20, md_s20, eX12_fails, eX12_full, eX12_keep, eX12_take, eX12_token]
set_option maxRecDepth 100000 in
theorem eX12_sightLine {ν : zM} {Y : Nat} {M : zMS} {x1 : Int64} {x3 : Int32}  : fX12_sightLine (mdl ν Y M) Y x1 x3 = Option.map (zq2 (mdl ν Y)) (gX12_sightLine M x1 x3) := by simp only [fX12_sightLine, gX12_sightLine, zgd_t, zmap_ite, zmap_some, zmap_none, zmap_zb0, zmap_zni, zq2_k, zq3_k, zq4_k, zq5_k, zzb1_q, zzb2_q, zzb3_q, zzb4_q, zzb5_q, zmap_zb1, zmap_zb2, zmap_zb3, zmap_zb4, zmap_zb5, zmap_zb6, zmap_zc1, zmap_zc2, zmap_zc3, zmap_zc4, md_ck, md_g20, md_a20, md_s20, eX12_fails, eX12_full, eX12_keep, eX12_take, eX12_token, eX12_sightLine_b21]
noncomputable def gX12_lineOf (M : zMS) (x1 : Int32) (x2 : Int64) (x4 : Int32) : Option (Int32 × zMS) :=
  if x1 = 0 then (
  zb2 (gX12_valleyLine M x2 x4) fun v3 M2 =>
  zb1 (zbz v3) fun v4 =>
  some (v4, M2))
  else (
  if x1 = 1 then (
  zb2 (gX12_dayLine M x2 x4) fun v9 M8 =>
  zb1 (zbz v9) fun v10 =>
  some (v10, M8))
  else (
  if x1 = 2 then (
  zb2 (gX12_lessonLine M x2 x4) fun v15 M14 =>
  zb1 (zbz v15) fun v16 =>
  some (v16, M14))
  else (
  zb2 (gX12_sightLine M x2 x4) fun v21 M20 =>
  zb1 (zbz v21) fun v22 =>
  some (v22, M20))))
set_option maxRecDepth 100000 in
theorem eX12_lineOf {ν : zM} {Y : Nat} {M : zMS} {x1 : Int32} {x2 : Int64} {x4 : Int32}  : fX12_lineOf (mdl ν Y M) Y x1 x2 x4 = Option.map (zq2 (mdl ν Y)) (gX12_lineOf M x1 x2 x4) := by simp only [fX12_lineOf, gX12_lineOf, zgd_t, zmap_ite, zmap_some, zmap_none, zmap_zb0, zmap_zni, zq2_k, zq3_k, zq4_k, zq5_k, zzb1_q, zzb2_q, zzb3_q, zzb4_q, zzb5_q, zmap_zb1, zmap_zb2, zmap_zb3, zmap_zb4, zmap_zb5, zmap_zb6, zmap_zc1, zmap_zc2, zmap_zc3, zmap_zc4, md_ck, eX12_dayLine, eX12_lessonLine, eX12_sightLine, eX12_valleyLine]
