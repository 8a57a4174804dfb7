noncomputable def gX12_stop (M : zMS) (x1 : Int32) (x2 : Int32) : Option (Int32 × zMS) :=
  zb1 (some (zsI M 0 0)) fun M1 =>
  zb2 (gX12_layAll M1 x1 x2) fun v5 M4 =>
  zc2 (if v5 = 0 then (
  some ((-1), M4))
  else (
  zb1 (gX12_deeds M4) fun v10 =>
  zb2 (gX12_play M4 v10) fun v13 M12 =>
  some (v13, M12)) : Option (Int32 × zMS)) fun (s6 : Int32) (m7 : zMS) =>
  some (s6, m7)
set_option maxRecDepth 100000 in
theorem eX12_stop {ν : zM} {Y : Nat} {M : zMS} {x1 : Int32} {x2 : Int32}  : fX12_stop (mdl ν Y M) Y x1 x2 = Option.map (zq2 (mdl ν Y)) (gX12_stop M x1 x2) := by simp only [fX12_stop, gX12_stop, zgd_t, zmap_ite, zmap_some, zmap_none, zmap_zb0, zmap_zni, zq2_k, zq3_k, zq4_k, zq5_k, zzc1_some, zzc2_some, zzc3_some, zzc4_some, zzc5_some, zzc6_some, zzb1_q, zzb2_q, zzb3_q, zzb4_q, zzb5_q, zzc1_q, zzc2_q, zzc3_q, zzc4_q, zzc5_q, zmap_zb1, zmap_zb2, zmap_zb3, zmap_zb4, zmap_zb5, zmap_zb6, zzc1_ite, zzc2_ite, zzc3_ite, zzc4_ite, zmap_zc1, zmap_zc2, zmap_zc3, zmap_zc4, zzc1_zb0, zzc1_zb1, zzc1_zb2, zzc1_zb3, zzc1_zb4, zzc2_zb0, zzc2_zb1, zzc2_zb2, zzc2_zb3, zzc2_zb4, zzc3_zb0, zzc3_zb1, zzc3_zb2, zzc3_zb3, zzc3_zb4, zzc4_zb0, zzc4_zb1, zzc4_zb2, zzc4_zb3, zzc4_zb4, md_ck, md_p0, eX12_deeds, eX12_layAll, eX12_play]
noncomputable def gX12_hears_b61  : Option (Int32) :=
  some 0
noncomputable def gX12_hears_l32 (x3 : Int32) (x1 : Int32) (v3 : Int32) (v7 : Int32) (x2 : Int32) (F12 : Int32 → Int32 → zMS → Option (Int32 × zMS)) (x4_9 : Int32) (x7_10 : Int32) (m11 : zMS) : Option (Int32 × zMS) :=
  if 2 < x7_10 then (
  some (x4_9, m11))
  else (
  zb1 (if x7_10 = 0 then (
  zb1 (zag 300 (m11.2.2 28) ((5 * x3) + 4)) fun v57 =>
  if v57 = x1 then (
  some 1)
  else (
  gX12_hears_b61))
  else (
  gX12_hears_b61) : Option (Int32)) fun (s17 : Int32) =>
  zc2 (if s17 = 0 then (
  zb1 (zag 300 (m11.2.2 28) (5 * x3)) fun v25 =>
  zb1 (zag 300 (m11.2.2 28) ((5 * x3) + 1)) fun v29 =>
  zb1 (zag 300 (m11.2.2 28) ((5 * x3) + 2)) fun v33 =>
  zb1 (gX12_comes m11 v25 v29 v33 v3 v7 x7_10) fun v36 =>
  if v36 = x2 then (
  zb1 (if x7_10 = 0 then (
  zb1 (zag 300 (m11.2.2 28) ((5 * x3) + 1)) fun v53 =>
  some v53)
  else (
  zb1 (zag 300 (m11.2.2 28) ((5 * x3) + 1)) fun v47 =>
  zb1 (gX12_given m11 v47 v3 x7_10) fun v50 =>
  some v50) : Option (Int32)) fun (s37 : Int32) =>
  zb1 (zag 6 (m11.2.2 32) x1) fun v41 =>
  zb1 (zas 6 (m11.2.2 32) x1 (v41 + 1)) fun f43 =>
  zb1 (some (zsA m11 32 f43)) fun M43 =>
  some ((x4_9 ||| (1 <<< (s37 &&& 31))), M43))
  else (
  some (x4_9, m11)))
  else (
  some (x4_9, m11)) : Option (Int32 × zMS)) fun (x4_20 : Int32) (m21 : zMS) =>
  F12 x4_20 (x7_10 + 1) m21)
noncomputable def gX12_hears (M : zMS) (x1 : Int32) (x2 : Int32) (x3 : Int32) : Option (Int32 × zMS) :=
  zb1 (zag 300 (M.2.2 28) ((5 * x3) + 3)) fun v3 =>
  zb1 (zag 600 (M.2.2 27) ((100 * x1) + v3)) fun v7 =>
  zb2 (zf3 (gX12_hears_l32 x3 x1 v3 v7 x2) zfu 0 0 M : Option (Int32 × zMS)) fun (x4_14 : Int32) (m15 : zMS) =>
  some (x4_14, m15)
set_option maxRecDepth 100000 in
theorem eX12_hears_b61     : fX12_hears_b61  = gX12_hears_b61  := by simp only [fX12_hears_b61, gX12_hears_b61, zgd_t, zmap_ite, zmap_some, zmap_none, zmap_zb0, zmap_zni, zq2_k, zq3_k, zq4_k, zq5_k, zzc1_some, zzc2_some, zzc3_some, zzc4_some, zzc5_some, zzc6_some, zzb1_q, zzb2_q, zzb3_q, zzb4_q, zzb5_q, zzc1_q, zzc2_q, zzc3_q, zzc4_q, zzc5_q, zmap_zb1, zmap_zb2, zmap_zb3, zmap_zb4, zmap_zb5, zmap_zb6, zzc1_ite, zzc2_ite, zzc3_ite, zzc4_ite, zmap_zc1, zmap_zc2, zmap_zc3, zmap_zc4, zzc1_zb0, zzc1_zb1, zzc1_zb2, zzc1_zb3, zzc1_zb4, zzc2_zb0, zzc2_zb1, zzc2_zb2, zzc2_zb3, zzc2_zb4, zzc3_zb0, zzc3_zb1, zzc3_zb2, zzc3_zb3, zzc3_zb4, zzc4_zb0, zzc4_zb1, zzc4_zb2, zzc4_zb3, zzc4_zb4, md_ck, md_g27, md_g28, md_g32, md_a27, md_s27, md_a28, md_s28, md_a32, md_s32, eX12_comes, eX12_given]
set_option maxRecDepth 100000 in
theorem eX12_hears_l32 {ν : zM} {Y : Nat} {x3 : Int32} {x1 : Int32} {v3 : Int32} {v7 : Int32} {x2 : Int32} {x4_9 : Int32} {x7_10 : Int32} {m11 : zMS}   (n : Nat) : zf3 (fX12_hears_l32 Y x3 x1 v3 v7 x2) n x4_9 x7_10 (mdl ν Y m11) = Option.map (zq2 (mdl ν Y)) (zf3 (gX12_hears_l32 x3 x1 v3 v7 x2) n x4_9 x7_10 m11) := by
  refine zf3_m (fun F12 G12 hF12 x4_9 x7_10 m11 => ?_) n x4_9 x7_10 m11
  simp only [fX12_hears_l32, gX12_hears_l32, zgd_t, zmap_ite, zmap_some, zmap_none, zmap_zb0, zmap_zni, zq2_k, zq3_k, zq4_k, zq5_k, zzc1_some, zzc2_some, zzc3_some, zzc4_some, zzc5_some, zzc6_some, zzb1_q, zzb2_q, zzb3_q, zzb4_q, zzb5_q, zzc1_q, zzc2_q, zzc3_q, zzc4_q, zzc5_q, zmap_zb1, zmap_zb2, zmap_zb3, zmap_zb4, zmap_zb5, zmap_zb6, zzc1_ite, zzc2_ite, zzc3_ite, zzc4_ite, zmap_zc1, zmap_zc2, zmap_zc3, zmap_zc4, zzc1_zb0, zzc1_zb1, zzc1_zb2, zzc1_zb3, zzc1_zb4, zzc2_zb0, zzc2_zb1, zzc2_zb2, zzc2_zb3, zzc2_zb4, zzc3_zb0, zzc3_zb1, zzc3_zb2, zzc3_zb3, zzc3_zb4, zzc4_zb0, zzc4_zb1, zzc4_zb2, zzc4_zb3, zzc4_zb4, md_ck, md_g27, md_g28, md_g32, md_a27, md_s27, md_a28, md_s28, md_a32, md_s32, eX12_comes, eX12_given, eX12_hears_b61, hF12]
set_option maxRecDepth 100000 in
theorem eX12_hears {ν : zM} {Y : Nat} {M : zMS} {x1 : Int32} {x2 : Int32} {x3 : Int32}  : fX12_hears (mdl ν Y M) Y x1 x2 x3 = Option.map (zq2 (mdl ν Y)) (gX12_hears M x1 x2 x3) := by simp only [fX12_hears, gX12_hears, zgd_t, zmap_ite, zmap_some, zmap_none, zmap_zb0, zmap_zni, zq2_k, zq3_k, zq4_k, zq5_k, zzc1_some, zzc2_some, zzc3_some, zzc4_some, zzc5_some, zzc6_some, zzb1_q, zzb2_q, zzb3_q, zzb4_q, zzb5_q, zzc1_q, zzc2_q, zzc3_q, zzc4_q, zzc5_q, zmap_zb1, zmap_zb2, zmap_zb3, zmap_zb4, zmap_zb5, zmap_zb6, zzc1_ite, zzc2_ite, zzc3_ite, zzc4_ite, zmap_zc1, zmap_zc2, zmap_zc3, zmap_zc4, zzc1_zb0, zzc1_zb1, zzc1_zb2, zzc1_zb3, zzc1_zb4, zzc2_zb0, zzc2_zb1, zzc2_zb2, zzc2_zb3, zzc2_zb4, zzc3_zb0, zzc3_zb1, zzc3_zb2, zzc3_zb3, zzc3_zb4, zzc4_zb0, zzc4_zb1, zzc4_zb2, zzc4_zb3, zzc4_zb4, md_ck, md_g27, md_g28, md_g32, md_a27, md_s27, md_a28, md_s28, md_a32, md_s32, eX12_comes, eX12_given, eX12_hears_b61, eX12_hears_l32]
noncomputable def gX12_findHeard_l2  (F3 : Int32 → zMS → Option (zMS)) (x1_1 : Int32) (m2 : zMS) : Option (zMS) :=
  if 6 ≤ x1_1 then (
  some m2)
  else (
  zb1 (zas 6 (m2.2.2 31) x1_1 0) fun f9 =>
  zb1 (some (zsA m2 31 f9)) fun M9 =>
  zb1 (zas 6 (M9.2.2 32) x1_1 0) fun f13 =>
  zb1 (some (zsA M9 32 f13)) fun M13 =>
  zb1 (zas 6 (M13.2.2 33) x1_1 (-1)) fun f17 =>
  zb1 (some (zsA M13 33 f17)) fun M17 =>
  F3 (x1_1 + 1) M17)
noncomputable def gX12_findHeard_l75 (x2_34 : Int32) (x1_26 : Int32) (F45 : Int32 → Int32 → zMS → Option (Int32 × zMS)) (x3_42 : Int32) (x4_43 : Int32) (m44 : zMS) : Option (Int32 × zMS) :=
  if (m44.1 29) ≤ x4_43 then (
  some (x3_42, m44))
  else (
  zb2 (gX12_hears m44 x2_34 x1_26 x4_43) fun v54 M53 =>
  F45 (x3_42 ||| v54) (x4_43 + 1) M53)
noncomputable def gX12_findHeard_b134 (M60 : zMS) (x2_34 : Int32) : Option (Int32) :=
  zb1 (zag 6 (M60.2.2 33) x2_34) fun v72 =>
  some v72
noncomputable def gX12_findHeard_b173 (M75 : zMS) : Option (Int32) :=
  some (M75.1 35)
noncomputable def gX12_findHeard_b197 (M84 : zMS) : Option (Int32) :=
  some (M84.1 36)
noncomputable def gX12_findHeard_l62 (x1_26 : Int32) (F36 : Int32 → zMS → Option (zMS)) (x2_34 : Int32) (m35 : zMS) : Option (zMS) :=
  if (m35.1 25) ≤ x2_34 then (
  some m35)
  else (
  zb2 (zf3 (gX12_findHeard_l75 x2_34 x1_26) zfu 0 0 m35 : Option (Int32 × zMS)) fun (x3_47 : Int32) (m48 : zMS) =>
  zb1 (zag 6 (m48.2.2 31) x2_34) fun v58 =>
  zb1 (zas 6 (m48.2.2 31) x2_34 (v58 ||| x3_47)) fun f60 =>
  zb1 (some (zsA m48 31 f60)) fun M60 =>
  zb1 (zag 6 (M60.2.2 33) x2_34) fun v66 =>
  zb1 (if v66 = (-1) then (
  if x3_47 ≤ 0 then (
  gX12_findHeard_b134 M60 x2_34)
  else (
  some x1_26))
  else (
  gX12_findHeard_b134 M60 x2_34) : Option (Int32)) fun (s68 : Int32) =>
  zb1 (zas 6 (M60.2.2 33) x2_34 s68) fun f75 =>
  zb1 (some (zsA M60 33 f75)) fun M75 =>
  zb1 (if (x3_47 &&& (x3_47 - 1)) = 0 then (
  some 0)
  else (
  some 1) : Option (Int32)) fun (s77 : Int32) =>
  zb1 (if s77 = 0 then (
  gX12_findHeard_b173 M75)
  else (
  if (M75.1 34) = 0 then (
  some x1_26)
  else (
  gX12_findHeard_b173 M75)) : Option (Int32)) fun (s79 : Int32) =>
  zb1 (some (zsI M75 35 s79)) fun M84 =>
  zb1 (if s77 = 0 then (
  gX12_findHeard_b197 M84)
  else (
  if (M84.1 34) = 0 then (
  some x2_34)
  else (
  gX12_findHeard_b197 M84)) : Option (Int32)) fun (s86 : Int32) =>
  zb1 (some (zsI M84 36 s86)) fun M91 =>
  zb1 (if s77 = 0 then (
  some 0)
  else (
  some 1) : Option (Int32)) fun (s95 : Int32) =>
  zb1 (some (zsI M91 34 ((M91.1 34) + s95))) fun M97 =>
  F36 (x2_34 + 1) M97)
noncomputable def gX12_findHeard_l52  (F28 : Int32 → zMS → Option (zMS)) (x1_26 : Int32) (m27 : zMS) : Option (zMS) :=
  if (m27.1 30) < x1_26 then (
  some m27)
  else (
  zb1 (zf2 (gX12_findHeard_l62 x1_26) zfu 0 m27 : Option (zMS)) fun (m38 : zMS) =>
  F28 (x1_26 + 1) m38)
noncomputable def gX12_findHeard (M : zMS)  : Option (zMS) :=
  zb1 (zf2 gX12_findHeard_l2 zfu 0 M : Option (zMS)) fun (m5 : zMS) =>
  zb1 (some (zsI m5 34 0)) fun M20 =>
  zb1 (some (zsI M20 35 (-1))) fun M22 =>
  zb1 (some (zsI M22 36 (-1))) fun M24 =>
  zb1 (zf2 gX12_findHeard_l52 zfu 0 M24 : Option (zMS)) fun (m30 : zMS) =>
  some m30
set_option maxRecDepth 100000 in
theorem eX12_findHeard_l2 {ν : zM} {Y : Nat} {x1_1 : Int32} {m2 : zMS}   (n : Nat) : zf2 (fX12_findHeard_l2 Y) n x1_1 (mdl ν Y m2) = Option.map (mdl ν Y) (zf2 gX12_findHeard_l2 n x1_1 m2) := by
  refine zf2_m (fun F3 G3 hF3 x1_1 m2 => ?_) n x1_1 m2
  simp only [fX12_findHeard_l2, gX12_findHeard_l2, zgd_t, zmap_ite, zmap_some, zmap_none, zmap_zb0, zmap_zni, zq2_k, zq3_k, zq4_k, zq5_k, zzb1_q, zzb2_q, zzb3_q, zzb4_q, zzb5_q, zmap_zb1, zmap_zb2, zmap_zb3, zmap_zb4, zmap_zb5, zmap_zb6, zmap_zc1, zmap_zc2, zmap_zc3, zmap_zc4, md_ck, md_g25, md_g29, md_g30, md_g31, md_g32, md_g33, md_g34, md_g35, md_g36, md_p34, md_p35, md_p36, md_a31, md_s31, md_a32, md_s32, md_a33, md_s33, eX12_hears, hF3]
set_option maxRecDepth 100000 in
theorem eX12_findHeard_l75 {ν : zM} {Y : Nat} {x2_34 : Int32} {x1_26 : Int32} {x3_42 : Int32} {x4_43 : Int32} {m44 : zMS}   (n : Nat) : zf3 (fX12_findHeard_l75 Y x2_34 x1_26) n x3_42 x4_43 (mdl ν Y m44) = Option.map (zq2 (mdl ν Y)) (zf3 (gX12_findHeard_l75 x2_34 x1_26) n x3_42 x4_43 m44) := by
  refine zf3_m (fun F45 G45 hF45 x3_42 x4_43 m44 => ?_) n x3_42 x4_43 m44
  simp only [fX12_findHeard_l75, gX12_findHeard_l75, zgd_t, zmap_ite, zmap_some, zmap_none, zmap_zb0, zmap_zni, zq2_k, zq3_k, zq4_k, zq5_k, zzb1_q, zzb2_q, zzb3_q, zzb4_q, zzb5_q, zmap_zb1, zmap_zb2, zmap_zb3, zmap_zb4, zmap_zb5, zmap_zb6, zmap_zc1, zmap_zc2, zmap_zc3, zmap_zc4, md_ck, md_g25, md_g29, md_g30, md_g31, md_g32, md_g33, md_g34, md_g35, md_g36, md_p34, md_p35, md_p36, md_a31, md_s31, md_a32, md_s32, md_a33, md_s33, eX12_hears, eX12_findHeard_l2, hF45]
set_option maxRecDepth 100000 in
theorem eX12_findHeard_b134 {ν : zM} {Y : Nat} {m60 : zMS} {x2_34 : Int32}   : fX12_findHeard_b134 (mdl ν Y m60) Y x2_34  = gX12_findHeard_b134 m60 x2_34  := by simp only [fX12_findHeard_b134, gX12_findHeard_b134, zgd_t, zmap_ite, zmap_some, zmap_none, zmap_zb0, zmap_zni, zq2_k, zq3_k, zq4_k, zq5_k, zzb1_q, zzb2_q, zzb3_q, zzb4_q, zzb5_q, zmap_zb1, zmap_zb2, zmap_zb3, zmap_zb4, zmap_zb5, zmap_zb6, zmap_zc1, zmap_zc2, zmap_zc3, zmap_zc4, md_ck, md_g25, md_g29, md_g30, md_g31, md_g32, md_g33, md_g34, md_g35, md_g36, md_p34, md_p35, md_p36, md_a31, md_s31, md_a32, md_s32, md_a33, md_s33, eX12_hears, eX12_findHeard_l2, eX12_findHeard_l75]
set_option maxRecDepth 100000 in
theorem eX12_findHeard_b173 {ν : zM} {Y : Nat} {m75 : zMS}   : fX12_findHeard_b173 (mdl ν Y m75) Y  = gX12_findHeard_b173 m75  := by simp only [fX12_findHeard_b173, gX12_findHeard_b173, zgd_t, zmap_ite, zmap_some, zmap_none, zmap_zb0, zmap_zni, zq2_k, zq3_k, zq4_k, zq5_k, zzb1_q, zzb2_q, zzb3_q, zzb4_q, zzb5_q, zmap_zb1, zmap_zb2, zmap_zb3, zmap_zb4, zmap_zb5, zmap_zb6, zmap_zc1, zmap_zc2, zmap_zc3, zmap_zc4, md_ck, md_g25, md_g29, md_g30, md_g31, md_g32, md_g33, md_g34, md_g35, md_g36, md_p34, md_p35, md_p36, md_a31, md_s31, md_a32, md_s32, md_a33, md_s33, eX12_hears, eX12_findHeard_l2, eX12_findHeard_l75, eX12_findHeard_b134]
set_option maxRecDepth 100000 in
theorem eX12_findHeard_b197 {ν : zM} {Y : Nat} {m84 : zMS}   : fX12_findHeard_b197 (mdl ν Y m84) Y  = gX12_findHeard_b197 m84  := by simp only [fX12_findHeard_b197, gX12_findHeard_b197, zgd_t, zmap_ite, zmap_some, zmap_none, zmap_zb0, zmap_zni, zq2_k, zq3_k, zq4_k, zq5_k, zzb1_q, zzb2_q, zzb3_q, zzb4_q, zzb5_q, zmap_zb1, zmap_zb2, zmap_zb3, zmap_zb4, zmap_zb5, zmap_zb6, zmap_zc1, zmap_zc2, zmap_zc3, zmap_zc4, md_ck, md_g25, md_g29, md_g30, md_g31, md_g32, md_g33, md_g34, md_g35, md_g36, md_p34, md_p35, md_p36, md_a31, md_s31, md_a32, md_s32, md_a33, md_s33, eX12_hears, eX12_findHeard_l2, eX12_findHeard_l75, eX12_findHeard_b134, eX12_findHeard_b173]
set_option maxRecDepth 100000 in
theorem eX12_findHeard_l62 {ν : zM} {Y : Nat} {x1_26 : Int32} {x2_34 : Int32} {m35 : zMS}   (n : Nat) : zf2 (fX12_findHeard_l62 Y x1_26) n x2_34 (mdl ν Y m35) = Option.map (mdl ν Y) (zf2 (gX12_findHeard_l62 x1_26) n x2_34 m35) := by
  refine zf2_m (fun F36 G36 hF36 x2_34 m35 => ?_) n x2_34 m35
  simp only [fX12_findHeard_l62, gX12_findHeard_l62, zgd_t, zmap_ite, zmap_some, zmap_none, zmap_zb0, zmap_zni, zq2_k, zq3_k, zq4_k, zq5_k, zzb1_q, zzb2_q, zzb3_q, zzb4_q, zzb5_q, zmap_zb1, zmap_zb2, zmap_zb3, zmap_zb4, zmap_zb5, zmap_zb6, zmap_zc1, zmap_zc2, zmap_zc3, zmap_zc4, md_ck, md_g25, md_g29, md_g30, md_g31, md_g32, md_g33, md_g34, md_g35, md_g36, md_p34, md_p35, md_p36, md_a31, md_s31, md_a32, md_s32, md_a33, md_s33, eX12_hears, eX12_findHeard_l2, eX12_findHeard_l75, eX12_findHeard_b134, eX12_findHeard_b173, eX12_findHeard_b197, hF36]
set_option maxRecDepth 100000 in
theorem eX12_findHeard_l52 {ν : zM} {Y : Nat} {x1_26 : Int32} {m27 : zMS}   (n : Nat) : zf2 (fX12_findHeard_l52 Y) n x1_26 (mdl ν Y m27) = Option.map (mdl ν Y) (zf2 gX12_findHeard_l52 n x1_26 m27) := by
  refine zf2_m (fun F28 G28 hF28 x1_26 m27 => ?_) n x1_26 m27
  simp only [fX12_findHeard_l52, gX12_findHeard_l52, zgd_t, zmap_ite, zmap_some, zmap_none, zmap_zb0, zmap_zni, zq2_k, zq3_k, zq4_k, zq5_k, zzb1_q, zzb2_q, zzb3_q, zzb4_q, zzb5_q, zmap_zb1, zmap_zb2, zmap_zb3, zmap_zb4, zmap_zb5, zmap_zb6, zmap_zc1, zmap_zc2, zmap_zc3, zmap_zc4, md_ck, md_g25, md_g29, md_g30, md_g31, md_g32, md_g33, md_g34, md_g35, md_g36, md_p34, md_p35, md_p36, md_a31, md_s31, md_a32, md_s32, md_a33, md_s33, eX12_hears, eX12_findHeard_l2, eX12_findHeard_l75, eX12_findHeard_b134, eX12_findHeard_b173, eX12_findHeard_b197, eX12_findHeard_l62, hF28]
set_option maxRecDepth 100000 in
theorem eX12_findHeard {ν : zM} {Y : Nat} {M : zMS}   : fX12_findHeard (mdl ν Y M) Y = Option.map (mdl ν Y) (gX12_findHeard M ) := by simp only [fX12_findHeard, gX12_findHeard, zgd_t, zmap_ite, zmap_some, zmap_none, zmap_zb0, zmap_zni, zq2_k, zq3_k, zq4_k, zq5_k, zzb1_q, zzb2_q, zzb3_q, zzb4_q, zzb5_q, zmap_zb1, zmap_zb2, zmap_zb3, zmap_zb4, zmap_zb5, zmap_zb6, zmap_zc1, zmap_zc2, zmap_zc3, zmap_zc4, md_ck, md_g25, md_g29, md_g30, md_g31, md_g32, md_g33, md_g34, md_g35, md_g36, md_p34, md_p35, md_p36, md_a31, md_s31, md_a32, md_s32, md_a33, md_s33, eX12_hears, eX12_findHeard_l2, eX12_findHeard_l75, eX12_findHeard_b134, eX12_findHeard_b173, eX12_findHeard_b197, eX12_findHeard_l62, eX12_findHeard_l52]
noncomputable def gX12_ofPerson (M : zMS) (x1 : Int32) (x2 : Int32) : Option (Int32) :=
  if x2 = 1 then (
  zb1 (zag 600 (M.2.2 27) ((100 * x1) + (M.1 30))) fun v5 =>
  some v5)
  else (
  if x2 = 2 then (
  zb1 (zag 6 (M.2.2 31) x1) fun v10 =>
  some v10)
  else (
  if x2 = 3 then (
  zb1 (zag 6 (M.2.2 32) x1) fun v15 =>
  some v15)
  else (
  zb1 (zag 6 (M.2.2 33) x1) fun v20 =>
  some v20)))
set_option maxRecDepth 100000 in
theorem eX12_ofPerson {ν : zM} {Y : Nat} {M : zMS} {x1 : Int32} {x2 : Int32}  : fX12_ofPerson (mdl ν Y M) Y x1 x2 = gX12_ofPerson M x1 x2 := by simp only [fX12_ofPerson, gX12_ofPerson, zgd_t, zmap_ite, zmap_some, zmap_none, zmap_zb0, zmap_zni, zq2_k, zq3_k, zq4_k, zq5_k, zzb1_q, zzb2_q, zzb3_q, zzb4_q, zzb5_q, zmap_zb1, zmap_zb2, zmap_zb3, zmap_zb4, zmap_zb5, zmap_zb6, zmap_zc1, zmap_zc2, zmap_zc3, zmap_zc4, md_ck, md_g27, md_g30, md_g31, md_g32, md_g33, md_a27, md_s27, md_a31, md_s31, md_a32, md_s32, md_a33, md_s33]
noncomputable def gX12_ofState (M : zMS) (x1 : Int32) : Option (Int32 × zMS) :=
  zb1 (gX12_findHeard M) fun M2 =>
  zb1 (gX12_in x1 10 49) fun v4 =>
  if v4 = 0 then (
  if x1 = 0 then (
  some ((M2.1 30), M2))
  else (
  if x1 = 1 then (
  some ((M2.1 29), M2))
  else (
  if x1 = 2 then (
  some ((M2.1 34), M2))
  else (
  if x1 = 3 then (
  some ((M2.1 35), M2))
  else (
  if x1 = 4 then (
  some ((M2.1 36), M2))
  else (
  some ((-2), M2)))))))
  else (
  zb1 (if (M2.1 25) ≤ (x1 - x1 / 10 * 10) then (
  some (-2))
  else (
  zb1 (gX12_ofPerson M2 (x1 - x1 / 10 * 10) (x1 / 10)) fun v25 =>
  some v25) : Option (Int32)) fun (s22 : Int32) =>
  some (s22, M2))
set_option maxRecDepth 100000 in
theorem eX12_ofState {ν : zM} {Y : Nat} {M : zMS} {x1 : Int32}  : fX12_ofState (mdl ν Y M) Y x1 = Option.map (zq2 (mdl ν Y)) (gX12_ofState M x1) := by simp only [fX12_ofState, gX12_ofState, zgd_t, zmap_ite, zmap_some, zmap_none, zmap_zb0, zmap_zni, zq2_k, zq3_k, zq4_k, zq5_k, zzb1_q, zzb2_q, zzb3_q, zzb4_q, zzb5_q, zmap_zb1, zmap_zb2, zmap_zb3, zmap_zb4, zmap_zb5, zmap_zb6, zmap_zc1, zmap_zc2, zmap_zc3, zmap_zc4, md_ck, md_g25, md_g29, md_g30, md_g34, md_g35, md_g36, eX12_findHeard, eX12_in, eX12_ofPerson]
noncomputable def gX12_state (M : zMS) (x1 : Int32) (x2 : Int32) (x3 : Int32) (x4 : Int32) : Option (Int32 × zMS) :=
  zb1 (some (zsI M 0 0)) fun M1 =>
  zb2 (gX12_layAll M1 x1 x2) fun v5 M4 =>
  zc2 (if v5 = 0 then (
  some ((-2), M4))
  else (
  zb1 (gX12_deeds M4) fun v10 =>
  zb1 (gX12_in x3 0 v10) fun v12 =>
  if v12 = 0 then (
  some ((-2), M4))
  else (
  zb2 (gX12_play M4 x3) fun v15 M14 =>
  if v15 = x3 then (
  zb2 (gX12_ofState M14 x4) fun v18 M17 =>
  some (v18, M17))
  else (
  some ((-2), M14)))) : Option (Int32 × zMS)) fun (s6 : Int32) (m7 : zMS) =>
  some (s6, m7)
set_option maxRecDepth 100000 in
theorem eX12_state {ν : zM} {Y : Nat} {M : zMS} {x1 : Int32} {x2 : Int32} {x3 : Int32} {x4 : Int32}  : fX12_state (mdl ν Y M) Y x1 x2 x3 x4 = Option.map (zq2 (mdl ν Y)) (gX12_state M x1 x2 x3 x4) := by simp only [fX12_state, gX12_state, zgd_t, zmap_ite, zmap_some, zmap_none, zmap_zb0, zmap_zni, zq2_k, zq3_k, zq4_k, zq5_k, zzc1_some, zzc2_some, zzc3_some, zzc4_some, zzc5_some, zzc6_some, zzb1_q, zzb2_q, zzb3_q, zzb4_q, zzb5_q, zzc1_q, zzc2_q, zzc3_q, zzc4_q, zzc5_q, zmap_zb1, zmap_zb2, zmap_zb3, zmap_zb4, zmap_zb5, zmap_zb6, zzc1_ite, zzc2_ite, zzc3_ite, zzc4_ite, zmap_zc1, zmap_zc2, zmap_zc3, zmap_zc4, zzc1_zb0, zzc1_zb1, zzc1_zb2, zzc1_zb3, zzc1_zb4, zzc2_zb0, zzc2_zb1, zzc2_zb2, zzc2_zb3, zzc2_zb4, zzc3_zb0, zzc3_zb1, zzc3_zb2, zzc3_zb3, zzc3_zb4, zzc4_zb0, zzc4_zb1, zzc4_zb2, zzc4_zb3, zzc4_zb4, md_ck, md_p0, eX12_deeds, eX12_in, eX12_layAll, eX12_ofState, eX12_play]
noncomputable def gX12_reaches (M : zMS) (x1 : Int32) (x2 : Int32) (x3 : Int32) (x4 : Int32) (x5 : Int32) : Option (Int32) :=
  zb1 (gX12_wayOf M x1 x4 x5) fun v2 =>
  zb1 (gX12_range x2) fun v4 =>
  zb1 (if v4 < v2 then (
  some 0)
  else (
  zb1 (gX12_isStill M x5 x3) fun v10 =>
  if v10 = 0 then (
  some 1)
  else (
  some 0)) : Option (Int32)) fun (s5 : Int32) =>
  zb1 (zbz s5) fun v7 =>
  some v7
set_option maxRecDepth 100000 in
theorem eX12_reaches {ν : zM} {Y : Nat} {M : zMS} {x1 : Int32} {x2 : Int32} {x3 : Int32} {x4 : Int32} {x5 : Int32}  : fX12_reaches (mdl ν Y M) Y x1 x2 x3 x4 x5 = gX12_reaches M x1 x2 x3 x4 x5 := by simp only [fX12_reaches, gX12_reaches, zgd_t, zmap_ite, zmap_some, zmap_none, zmap_zb0, zmap_zni, zq2_k, zq3_k, zq4_k, zq5_k, zzb1_q, zzb2_q, zzb3_q, zzb4_q, zzb5_q, zmap_zb1, zmap_zb2, zmap_zb3, zmap_zb4, zmap_zb5, zmap_zb6, zmap_zc1, zmap_zc2, zmap_zc3, zmap_zc4, md_ck, eX12_isStill, eX12_range, eX12_wayOf]
noncomputable def gX12_isHeardBy_l15 (F2 : Int32 → Option (Int32)) (x5_1 : Int32) (x2 : Int32) (M : zMS) (x1 : Int32) (x3 : Int32) (x4 : Int32) (F7 : Int32 → Option (Int32)) (x6_6 : Int32) : Option (Int32) :=
  if 2 < x6_6 then (
  F2 (x5_1 + 1))
  else (
  zb1 (gX12_has x2 x5_1) fun v10 =>
  if v10 = 0 then (
  F7 (x6_6 + 1))
  else (
  zb1 (gX12_of M (33 + x5_1)) fun v12 =>
  zb1 (gX12_reaches M x1 x3 x4 v12 x6_6) fun v14 =>
  if v14 = 0 then (
  F7 (x6_6 + 1))
  else (
  some 1)))
noncomputable def gX12_isHeardBy_l3 (M : zMS) (x2 : Int32) (x1 : Int32) (x3 : Int32) (x4 : Int32) (F2 : Int32 → Option (Int32)) (x5_1 : Int32) : Option (Int32) :=
  if (M.1 25) ≤ x5_1 then (
  some 0)
  else (
  zf1 (gX12_isHeardBy_l15 F2 x5_1 x2 M x1 x3 x4) zfu 0)
noncomputable def gX12_isHeardBy (M : zMS) (x1 : Int32) (x2 : Int32) (x3 : Int32) (x4 : Int32) : Option (Int32) :=
  zf1 (gX12_isHeardBy_l3 M x2 x1 x3 x4) zfu 0
set_option maxRecDepth 100000 in
theorem eX12_isHeardBy_l15 {ν : zM} {Y : Nat} {x5_1 : Int32} {M : zMS} {x2 : Int32} {x1 : Int32} {x3 : Int32} {x4 : Int32} {x6_6 : Int32} {F2 : Int32 → Option (Int32)} {G2 : Int32 → Option (Int32)} (hF2 : ∀ (x5_1 : Int32), F2 x5_1 = G2 x5_1)  (n : Nat) : zf1 (fX12_isHeardBy_l15 F2 x5_1 (mdl ν Y M) x2 Y x1 x3 x4) n x6_6 = zf1 (gX12_isHeardBy_l15 G2 x5_1 x2 M x1 x3 x4) n x6_6 := by
  refine zf1_c (fun F7 G7 hF7 x6_6 => ?_) n x6_6
  simp only [fX12_isHeardBy_l15, gX12_isHeardBy_l15, zgd_t, zmap_ite, zmap_some, zmap_none, zmap_zb0, zmap_zni, zq2_k, zq3_k, zq4_k, zq5_k, zzb1_q, zzb2_q, zzb3_q, zzb4_q, zzb5_q, zmap_zb1, zmap_zb2, zmap_zb3, zmap_zb4, zmap_zb5, zmap_zb6, zmap_zc1, zmap_zc2, zmap_zc3, zmap_zc4, md_ck, md_g25, eX12_has, eX12_of, eX12_reaches, hF2, hF7]
set_option maxRecDepth 100000 in
theorem eX12_isHeardBy_l3 {ν : zM} {Y : Nat} {M : zMS} {x2 : Int32} {x1 : Int32} {x3 : Int32} {x4 : Int32} {x5_1 : Int32}   (n : Nat) : zf1 (fX12_isHeardBy_l3 (mdl ν Y M) Y x2 x1 x3 x4) n x5_1 = zf1 (gX12_isHeardBy_l3 M x2 x1 x3 x4) n x5_1 := by
  refine zf1_c (fun F2 G2 hF2 x5_1 => ?_) n x5_1
  simp only [fX12_isHeardBy_l3, gX12_isHeardBy_l3, zgd_t, zmap_ite, zmap_some, zmap_none, zmap_zb0, zmap_zni, zq2_k, zq3_k, zq4_k, zq5_k, zzb1_q, zzb2_q, zzb3_q, zzb4_q, zzb5_q, zmap_zb1, zmap_zb2, zmap_zb3, zmap_zb4, zmap_zb5, zmap_zb6, zmap_zc1, zmap_zc2, zmap_zc3, zmap_zc4, md_ck, md_g25, eX12_has, eX12_of, eX12_reaches, (eX12_isHeardBy_l15 (hF2 := hF2)), hF2]
set_option maxRecDepth 100000 in
theorem eX12_isHeardBy {ν : zM} {Y : Nat} {M : zMS} {x1 : Int32} {x2 : Int32} {x3 : Int32} {x4 : Int32}  : fX12_isHeardBy (mdl ν Y M) Y x1 x2 x3 x4 = gX12_isHeardBy M x1 x2 x3 x4 := by simp only [fX12_isHeardBy, gX12_isHeardBy, zgd_t, zmap_ite, zmap_some, zmap_none, zmap_zb0, zmap_zni, zq2_k, zq3_k, zq4_k, zq5_k, zzb1_q, zzb2_q, zzb3_q, zzb4_q, zzb5_q, zmap_zb1, zmap_zb2, zmap_zb3, zmap_zb4, zmap_zb5, zmap_zb6, zmap_zc1, zmap_zc2, zmap_zc3, zmap_zc4, md_ck, md_g25, eX12_has, eX12_of, eX12_reaches, eX12_isHeardBy_l3]
noncomputable def gX12_hush_l64 (M4 : zMS) (x2 : Int32) (x3 : Int32) (x4 : Int32) (F19 : Int32 → Int32 → Int32 → Option (Int32 × Int32)) (x6_16 : Int32) (x7_17 : Int32) (x8_18 : Int32) : Option (Int32 × Int32) :=
  if x8_18 < 0 then (
  some (x6_16, x7_17))
  else (
  zb1 (gX12_isHeardBy M4 x8_18 x2 x3 x4) fun v25 =>
  zb1 (if v25 = 0 then (
  some 1)
  else (
  some 0) : Option (Int32)) fun (s26 : Int32) =>
  zb1 (if s26 = 0 then (
  some 0)
  else (
  some 1) : Option (Int32)) fun (s28 : Int32) =>
  zb1 (if s26 = 0 then (
  some x7_17)
  else (
  some x8_18) : Option (Int32)) fun (s30 : Int32) =>
  F19 (x6_16 + s28) s30 (x8_18 + (-1)))
noncomputable def gX12_hush (M : zMS) (x1 : Int32) (x2 : Int32) (x3 : Int32) (x4 : Int32) (x5 : Int32) : Option (Int32 × zMS) :=
  zb1 (some (zsI M 0 0)) fun M1 =>
  zb2 (gX12_hand M1 x1) fun v5 M4 =>
  if v5 = 0 then (
  some ((-2), M4))
  else (
  zb1 (gX12_in x2 0 ((1 <<< ((M4.1 25) &&& 31)) - 1)) fun v9 =>
  if v9 = 0 then (
  some ((-2), M4))
  else (
  zb1 (gX12_in x3 0 2) fun v11 =>
  if v11 = 0 then (
  some ((-2), M4))
  else (
  zb1 (gX12_in x4 0 99) fun v13 =>
  if v13 = 0 then (
  some ((-2), M4))
  else (
  zb2 (zf3 (gX12_hush_l64 M4 x2 x3 x4) zfu 0 (-1) (M4.1 24) : Option (Int32 × Int32)) fun (x6_21 : Int32) (x7_22 : Int32) =>
  zb1 (if x5 = 0 then (
  some x6_21)
  else (
  some x7_22) : Option (Int32)) fun (s33 : Int32) =>
  some (s33, M4)))))
set_option maxRecDepth 100000 in
theorem eX12_hush_l64 {ν : zM} {Y : Nat} {m4 : zMS} {x2 : Int32} {x3 : Int32} {x4 : Int32} {x6_16 : Int32} {x7_17 : Int32} {x8_18 : Int32}   (n : Nat) : zf3 (fX12_hush_l64 (mdl ν Y m4) Y x2 x3 x4) n x6_16 x7_17 x8_18 = zf3 (gX12_hush_l64 m4 x2 x3 x4) n x6_16 x7_17 x8_18 := by
  refine zf3_c (fun F19 G19 hF19 x6_16 x7_17 x8_18 => ?_) n x6_16 x7_17 x8_18
  simp only [fX12_hush_l64, gX12_hush_l64, zgd_t, zmap_ite, zmap_some, zmap_none, zmap_zb0, zmap_zni, zq2_k, zq3_k, zq4_k, zq5_k, zzb1_q, zzb2_q, zzb3_q, zzb4_q, zzb5_q, zmap_zb1, zmap_zb2, zmap_zb3, zmap_zb4, zmap_zb5, zmap_zb6, zmap_zc1, zmap_zc2, zmap_zc3, zmap_zc4, md_ck, md_g24, md_g25, md_p0, eX12_hand, eX12_in, eX12_isHeardBy, hF19]
set_option maxRecDepth 100000 in
theorem eX12_hush {ν : zM} {Y : Nat} {M : zMS} {x1 : Int32} {x2 : Int32} {x3 : Int32} {x4 : Int32} {x5 : Int32}  : fX12_hush (mdl ν Y M) Y x1 x2 x3 x4 x5 = Option.map (zq2 (mdl ν Y)) (gX12_hush M x1 x2 x3 x4 x5) := by simp only [fX12_hush, gX12_hush, zgd_t, zmap_ite, zmap_some, zmap_none, zmap_zb0, zmap_zni, zq2_k, zq3_k, zq4_k, zq5_k, zzb1_q, zzb2_q, zzb3_q, zzb4_q, zzb5_q, zmap_zb1, zmap_zb2, zmap_zb3, zmap_zb4, zmap_zb5, zmap_zb6, zmap_zc1, zmap_zc2, zmap_zc3, zmap_zc4, md_ck, md_g24, md_g25, md_p0, eX12_hand, eX12_in, eX12_isHeardBy, eX12_hush_l64]
noncomputable def gX12_crowd_l74 (M4 : zMS) (x8_16 : Int32) (x2 : Int32) (x3 : Int32) (s12 : Int32) (F26 : Int32 → Int32 → Option (Int32)) (x9_24 : Int32) (x10_25 : Int32) : Option (Int32) :=
  if (M4.1 25) ≤ x10_25 then (
  some x9_24)
  else (
  zb1 (gX12_of M4 (33 + x10_25)) fun v33 =>
  zb1 (gX12_reaches M4 x8_16 x2 x3 v33 s12) fun v35 =>
  zb1 (if v35 = 0 then (
  some 0)
  else (
  some 1) : Option (Int32)) fun (s36 : Int32) =>
  F26 (x9_24 + s36) (x10_25 + 1))
noncomputable def gX12_crowd_l59 (M4 : zMS) (x2 : Int32) (x3 : Int32) (s12 : Int32) (F17 : Int32 → Int32 → Int32 → Option (Int32 × Int32)) (x6_14 : Int32) (x7_15 : Int32) (x8_16 : Int32) : Option (Int32 × Int32) :=
  if (M4.1 24) < x8_16 then (
  some (x6_14, x7_15))
  else (
  zb1 (zf2 (gX12_crowd_l74 M4 x8_16 x2 x3 s12) zfu 0 0 : Option (Int32)) fun (x9_28 : Int32) =>
  zb1 (if x9_28 ≤ x7_15 then (
  some x6_14)
  else (
  some x8_16) : Option (Int32)) fun (s39 : Int32) =>
  zb1 (gX12_greater x7_15 x9_28) fun v42 =>
  F17 s39 v42 (x8_16 + 1))
noncomputable def gX12_crowd (M : zMS) (x1 : Int32) (x2 : Int32) (x3 : Int32) (x4 : Int32) : Option (Int32 × zMS) :=
  zb1 (some (zsI M 0 0)) fun M1 =>
  zb2 (gX12_hand M1 x1) fun v5 M4 =>
  if v5 = 0 then (
  some ((-1), M4))
  else (
  zb1 (gX12_in x2 0 2) fun v7 =>
  if v7 = 0 then (
  some ((-1), M4))
  else (
  zb1 (gX12_in x3 0 99) fun v9 =>
  if v9 = 0 then (
  some ((-1), M4))
  else (
  zb1 (gX12_judges M4 1 x3) fun v11 =>
  zb1 (if v11 = 0 then (
  some 2)
  else (
  some 1) : Option (Int32)) fun (s12 : Int32) =>
  zb2 (zf3 (gX12_crowd_l59 M4 x2 x3 s12) zfu 0 (-1) 0 : Option (Int32 × Int32)) fun (x6_19 : Int32) (x7_20 : Int32) =>
  zb1 (if x4 = 0 then (
  some x6_19)
  else (
  some x7_20) : Option (Int32)) fun (s44 : Int32) =>
  some (s44, M4))))
set_option maxRecDepth 100000 in
theorem eX12_crowd_l74 {ν : zM} {Y : Nat} {m4 : zMS} {x8_16 : Int32} {x2 : Int32} {x3 : Int32} {s12 : Int32} {x9_24 : Int32} {x10_25 : Int32}   (n : Nat) : zf2 (fX12_crowd_l74 (mdl ν Y m4) Y x8_16 x2 x3 s12) n x9_24 x10_25 = zf2 (gX12_crowd_l74 m4 x8_16 x2 x3 s12) n x9_24 x10_25 := by
  refine zf2_c (fun F26 G26 hF26 x9_24 x10_25 => ?_) n x9_24 x10_25
  simp only [fX12_crowd_l74, gX12_crowd_l74, zgd_t, zmap_ite, zmap_some, zmap_none, zmap_zb0, zmap_zni, zq2_k, zq3_k, zq4_k, zq5_k, zzb1_q, zzb2_q, zzb3_q, zzb4_q, zzb5_q, zmap_zb1, zmap_zb2, zmap_zb3, zmap_zb4, zmap_zb5, zmap_zb6, zmap_zc1, zmap_zc2, zmap_zc3, zmap_zc4, md_ck, md_g24, md_g25, md_p0, eX12_greater, eX12_hand, eX12_in, eX12_judges, eX12_of, eX12_reaches, hF26]
set_option maxRecDepth 100000 in
theorem eX12_crowd_l59 {ν : zM} {Y : Nat} {m4 : zMS} {x2 : Int32} {x3 : Int32} {s12 : Int32} {x6_14 : Int32} {x7_15 : Int32} {x8_16 : Int32}   (n : Nat) : zf3 (fX12_crowd_l59 (mdl ν Y m4) Y x2 x3 s12) n x6_14 x7_15 x8_16 = zf3 (gX12_crowd_l59 m4 x2 x3 s12) n x6_14 x7_15 x8_16 := by
  refine zf3_c (fun F17 G17 hF17 x6_14 x7_15 x8_16 => ?_) n x6_14 x7_15 x8_16
  simp only [fX12_crowd_l59, gX12_crowd_l59, zgd_t, zmap_ite, zmap_some, zmap_none, zmap_zb0, zmap_zni, zq2_k, zq3_k, zq4_k, zq5_k, zzb1_q, zzb2_q, zzb3_q, zzb4_q, zzb5_q, zmap_zb1, zmap_zb2, zmap_zb3, zmap_zb4, zmap_zb5, zmap_zb6, zmap_zc1, zmap_zc2, zmap_zc3, zmap_zc4, md_ck, md_g24, md_g25, md_p0, eX12_greater, eX12_hand, eX12_in, eX12_judges, eX12_of, eX12_reaches, eX12_crowd_l74, hF17]
set_option maxRecDepth 100000 in
theorem eX12_crowd {ν : zM} {Y : Nat} {M : zMS} {x1 : Int32} {x2 : Int32} {x3 : Int32} {x4 : Int32}  : fX12_crowd (mdl ν Y M) Y x1 x2 x3 x4 = Option.map (zq2 (mdl ν Y)) (gX12_crowd M x1 x2 x3 x4) := by simp only [fX12_crowd, gX12_crowd, zgd_t, zmap_ite, zmap_some, zmap_none, zmap_zb0, zmap_zni, zq2_k, zq3_k, zq4_k, zq5_k, zzb1_q, zzb2_q, zzb3_q, zzb4_q, zzb5_q, zmap_zb1, zmap_zb2, zmap_zb3, zmap_zb4, zmap_zb5, zmap_zb6, zmap_zc1, zmap_zc2, zmap_zc3, zmap_zc4, md_ck, md_g24, md_g25, md_p0, eX12_greater, eX12_hand, eX12_in, eX12_judges, eX12_of, eX12_reaches, eX12_crowd_l74, eX12_crowd_l59]
