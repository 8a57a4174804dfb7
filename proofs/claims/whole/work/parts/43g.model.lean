noncomputable def gX12_heavy_l13 (M : zMS) (x2_1 : Int32) (F6 : Int32 → Int32 → Option (Int32)) (x3_4 : Int32) (x4_5 : Int32) : Option (Int32) :=
  if 8 ≤ x4_5 then (
  some x3_4)
  else (
  zb1 (gX12_of M (19 + x4_5)) fun v11 =>
  zb1 (gX12_of M (19 + x2_1)) fun v13 =>
  zb1 (if v13 < v11 then (
  some 1)
  else (
  zb1 (gX12_of M (19 + x4_5)) fun v17 =>
  zb1 (gX12_of M (19 + x2_1)) fun v19 =>
  if v17 = v19 then (
  if x2_1 ≤ x4_5 then (
  some 0)
  else (
  some 1))
  else (
  some 0)) : Option (Int32)) fun (s14 : Int32) =>
  F6 (x3_4 + s14) (x4_5 + 1))
noncomputable def gX12_heavy_l2 (M : zMS) (x1 : Int32) (F2 : Int32 → Option (Int32)) (x2_1 : Int32) : Option (Int32) :=
  if 8 ≤ x2_1 then (
  some 0)
  else (
  zb1 (zf2 (gX12_heavy_l13 M x2_1) zfu 0 0 : Option (Int32)) fun (x3_8 : Int32) =>
  if x3_8 = x1 then (
  zb1 (gX12_of M (19 + x2_1)) fun v22 =>
  some v22)
  else (
  F2 (x2_1 + 1)))
noncomputable def gX12_heavy (M : zMS) (x1 : Int32) : Option (Int32) :=
  zf1 (gX12_heavy_l2 M x1) zfu 0
set_option maxRecDepth 100000 in
theorem eX12_heavy_l13 {ν : zM} {Y : Nat} {M : zMS} {x2_1 : Int32} {x3_4 : Int32} {x4_5 : Int32}   (n : Nat) : zf2 (fX12_heavy_l13 (mdl ν Y M) Y x2_1) n x3_4 x4_5 = zf2 (gX12_heavy_l13 M x2_1) n x3_4 x4_5 := by
  refine zf2_c (fun F6 G6 hF6 x3_4 x4_5 => ?_) n x3_4 x4_5
  simp only [fX12_heavy_l13, gX12_heavy_l13, zgd_t, zmap_ite, zmap_some, zmap_none, zmap_zb0, zmap_zni, zq2_k, zq3_k, zq4_k, zq5_k, zzb1_q, zzb2_q, zzb3_q, zzb4_q, zzb5_q, zmap_zb1, zmap_zb2, zmap_zb3, zmap_zb4, zmap_zb5, zmap_zb6, zmap_zc1, zmap_zc2, zmap_zc3, zmap_zc4, md_ck, eX12_of, hF6]
set_option maxRecDepth 100000 in
theorem eX12_heavy_l2 {ν : zM} {Y : Nat} {M : zMS} {x1 : Int32} {x2_1 : Int32}   (n : Nat) : zf1 (fX12_heavy_l2 (mdl ν Y M) Y x1) n x2_1 = zf1 (gX12_heavy_l2 M x1) n x2_1 := by
  refine zf1_c (fun F2 G2 hF2 x2_1 => ?_) n x2_1
  simp only [fX12_heavy_l2, gX12_heavy_l2, zgd_t, zmap_ite, zmap_some, zmap_none, zmap_zb0, zmap_zni, zq2_k, zq3_k, zq4_k, zq5_k, zzb1_q, zzb2_q, zzb3_q, zzb4_q, zzb5_q, zmap_zb1, zmap_zb2, zmap_zb3, zmap_zb4, zmap_zb5, zmap_zb6, zmap_zc1, zmap_zc2, zmap_zc3, zmap_zc4, md_ck, eX12_of, eX12_heavy_l13, hF2]
set_option maxRecDepth 100000 in
theorem eX12_heavy {ν : zM} {Y : Nat} {M : zMS} {x1 : Int32}  : fX12_heavy (mdl ν Y M) Y x1 = gX12_heavy M x1 := by simp only [fX12_heavy, gX12_heavy, zgd_t, zmap_ite, zmap_some, zmap_none, zmap_zb0, zmap_zni, zq2_k, zq3_k, zq4_k, zq5_k, zzb1_q, zzb2_q, zzb3_q, zzb4_q, zzb5_q, zmap_zb1, zmap_zb2, zmap_zb3, zmap_zb4, zmap_zb5, zmap_zb6, zmap_zc1, zmap_zc2, zmap_zc3, zmap_zc4, md_ck, eX12_of, eX12_heavy_l13, eX12_heavy_l2]
noncomputable def gX12_treeOf_l6 (x1 : Int32) (F3 : Int32 → zMS → Option (zMS)) (x3_1 : Int32) (m2 : zMS) : Option (zMS) :=
  if (1 <<< (x1 &&& 31)) < x3_1 then (
  some m2)
  else (
  zb1 (zas 1161 (m2.2.2 43) (1032 + x3_1) 0) fun f9 =>
  zb1 (some (zsA m2 43 f9)) fun M9 =>
  F3 (x3_1 + 1) M9)
noncomputable def gX12_treeOf_l59 (x1 : Int32) (x5_20 : Int32) (m21 : zMS) (x3_12 : Int32) (v19 : Int32) (F28 : Int32 → Int32 → Option (Int32)) (x6_26 : Int32) (x7_27 : Int32) : Option (Int32) :=
  if x1 < x7_27 then (
  some x6_26)
  else (
  zb1 (if x5_20 < (((1 : Int32) <<< (x1 &&& 31)) >>> (x7_27 &&& 31)) then (
  some x6_26)
  else (
  zb1 (zag 1161 (m21.2.2 43) (((129 * (x3_12 + 1)) + x5_20) - (((1 : Int32) <<< (x1 &&& 31)) >>> (x7_27 &&& 31)))) fun v36 =>
  zb1 (gX12_lesser x6_26 ((x7_27 * v19) + v36)) fun v39 =>
  some v39) : Option (Int32)) fun (s32 : Int32) =>
  F28 s32 (x7_27 + 1))
noncomputable def gX12_treeOf_l45 (x1 : Int32) (x3_12 : Int32) (v19 : Int32) (F22 : Int32 → zMS → Option (zMS)) (x5_20 : Int32) (m21 : zMS) : Option (zMS) :=
  if (1 <<< (x1 &&& 31)) < x5_20 then (
  some m21)
  else (
  zb1 (zf2 (gX12_treeOf_l59 x1 x5_20 m21 x3_12 v19) zfu 1000000 1 : Option (Int32)) fun (x6_30 : Int32) =>
  zb1 (zas 1161 (m21.2.2 43) ((129 * x3_12) + x5_20) x6_30) fun f43 =>
  zb1 (some (zsA m21 43 f43)) fun M43 =>
  F22 (x5_20 + 1) M43)
noncomputable def gX12_treeOf_l31 (x1 : Int32) (F14 : Int32 → zMS → Option (zMS)) (x3_12 : Int32) (m13 : zMS) : Option (zMS) :=
  if x3_12 < 0 then (
  some m13)
  else (
  zb1 (gX12_heavy m13 x3_12) fun v19 =>
  zb1 (zf2 (gX12_treeOf_l45 x1 x3_12 v19) zfu 0 m13 : Option (zMS)) fun (m24 : zMS) =>
  F14 (x3_12 + (-1)) m24)
noncomputable def gX12_treeOf (M : zMS) (x1 : Int32) : Option (Int32 × zMS) :=
  zb1 (zf2 (gX12_treeOf_l6 x1) zfu 0 M : Option (zMS)) fun (m5 : zMS) =>
  zb1 (zf2 (gX12_treeOf_l31 x1) zfu 7 m5 : Option (zMS)) fun (m16 : zMS) =>
  zb1 (zag 1161 (m16.2.2 43) (1 <<< (x1 &&& 31))) fun v49 =>
  some (v49, m16)
set_option maxRecDepth 100000 in
theorem eX12_treeOf_l6 {ν : zM} {Y : Nat} {x1 : Int32} {x3_1 : Int32} {m2 : zMS}   (n : Nat) : zf2 (fX12_treeOf_l6 x1 Y) n x3_1 (mdl ν Y m2) = Option.map (mdl ν Y) (zf2 (gX12_treeOf_l6 x1) n x3_1 m2) := by
  refine zf2_m (fun F3 G3 hF3 x3_1 m2 => ?_) n x3_1 m2
  simp only [fX12_treeOf_l6, gX12_treeOf_l6, zgd_t, zmap_ite, zmap_some, zmap_none, zmap_zb0, zmap_zni, zq2_k, zq3_k, zq4_k, zq5_k, zzb1_q, zzb2_q, zzb3_q, zzb4_q, zzb5_q, zmap_zb1, zmap_zb2, zmap_zb3, zmap_zb4, zmap_zb5, zmap_zb6, zmap_zc1, zmap_zc2, zmap_zc3, zmap_zc4, md_ck, md_g43, md_a43, md_s43, eX12_heavy, eX12_lesser, hF3]
set_option maxRecDepth 100000 in
theorem eX12_treeOf_l59 {ν : zM} {Y : Nat} {x1 : Int32} {x5_20 : Int32} {m21 : zMS} {x3_12 : Int32} {v19 : Int32} {x6_26 : Int32} {x7_27 : Int32}   (n : Nat) : zf2 (fX12_treeOf_l59 x1 x5_20 (mdl ν Y m21) Y x3_12 v19) n x6_26 x7_27 = zf2 (gX12_treeOf_l59 x1 x5_20 m21 x3_12 v19) n x6_26 x7_27 := by
  refine zf2_c (fun F28 G28 hF28 x6_26 x7_27 => ?_) n x6_26 x7_27
  simp only [fX12_treeOf_l59, gX12_treeOf_l59, zgd_t, zmap_ite, zmap_some, zmap_none, zmap_zb0, zmap_zni, zq2_k, zq3_k, zq4_k, zq5_k, zzb1_q, zzb2_q, zzb3_q, zzb4_q, zzb5_q, zmap_zb1, zmap_zb2, zmap_zb3, zmap_zb4, zmap_zb5, zmap_zb6, zmap_zc1, zmap_zc2, zmap_zc3, zmap_zc4, md_ck, md_g43, md_a43, md_s43, eX12_heavy, eX12_lesser, eX12_treeOf_l6, hF28]
set_option maxRecDepth 100000 in
theorem eX12_treeOf_l45 {ν : zM} {Y : Nat} {x1 : Int32} {x3_12 : Int32} {v19 : Int32} {x5_20 : Int32} {m21 : zMS}   (n : Nat) : zf2 (fX12_treeOf_l45 x1 Y x3_12 v19) n x5_20 (mdl ν Y m21) = Option.map (mdl ν Y) (zf2 (gX12_treeOf_l45 x1 x3_12 v19) n x5_20 m21) := by
  refine zf2_m (fun F22 G22 hF22 x5_20 m21 => ?_) n x5_20 m21
  simp only [fX12_treeOf_l45, gX12_treeOf_l45, zgd_t, zmap_ite, zmap_some, zmap_none, zmap_zb0, zmap_zni, zq2_k, zq3_k, zq4_k, zq5_k, zzb1_q, zzb2_q, zzb3_q, zzb4_q, zzb5_q, zmap_zb1, zmap_zb2, zmap_zb3, zmap_zb4, zmap_zb5, zmap_zb6, zmap_zc1, zmap_zc2, zmap_zc3, zmap_zc4, md_ck, md_g43, md_a43, md_s43, eX12_heavy, eX12_lesser, eX12_treeOf_l6, eX12_treeOf_l59, hF22]
set_option maxRecDepth 100000 in
theorem eX12_treeOf_l31 {ν : zM} {Y : Nat} {x1 : Int32} {x3_12 : Int32} {m13 : zMS}   (n : Nat) : zf2 (fX12_treeOf_l31 Y x1) n x3_12 (mdl ν Y m13) = Option.map (mdl ν Y) (zf2 (gX12_treeOf_l31 x1) n x3_12 m13) := by
  refine zf2_m (fun F14 G14 hF14 x3_12 m13 => ?_) n x3_12 m13
  simp only [fX12_treeOf_l31, gX12_treeOf_l31, zgd_t, zmap_ite, zmap_some, zmap_none, zmap_zb0, zmap_zni, zq2_k, zq3_k, zq4_k, zq5_k, zzb1_q, zzb2_q, zzb3_q, zzb4_q, zzb5_q, zmap_zb1, zmap_zb2, zmap_zb3, zmap_zb4, zmap_zb5, zmap_zb6, zmap_zc1, zmap_zc2, zmap_zc3, zmap_zc4, md_ck, md_g43, md_a43, md_s43, eX12_heavy, eX12_lesser, eX12_treeOf_l6, eX12_treeOf_l59, eX12_treeOf_l45, hF14]
set_option maxRecDepth 100000 in
theorem eX12_treeOf {ν : zM} {Y : Nat} {M : zMS} {x1 : Int32}  : fX12_treeOf (mdl ν Y M) Y x1 = Option.map (zq2 (mdl ν Y)) (gX12_treeOf M x1) := by simp only [fX12_treeOf, gX12_treeOf, zgd_t, zmap_ite, zmap_some, zmap_none, zmap_zb0, zmap_zni, zq2_k, zq3_k, zq4_k, zq5_k, zzb1_q, zzb2_q, zzb3_q, zzb4_q, zzb5_q, zmap_zb1, zmap_zb2, zmap_zb3, zmap_zb4, zmap_zb5, zmap_zb6, zmap_zc1, zmap_zc2, zmap_zc3, zmap_zc4, md_ck, md_g43, md_a43, md_s43, eX12_heavy, eX12_lesser, eX12_treeOf_l6, eX12_treeOf_l59, eX12_treeOf_l45, eX12_treeOf_l31]
noncomputable def gX12_talk_b30 (x2 : Int32) (M4 : zMS) : Option (Int32 × zMS) :=
  zb1 (if x2 = (-1) then (
  some 7)
  else (
  some x2) : Option (Int32)) fun (s6 : Int32) =>
  zb2 (gX12_treeOf M4 s6) fun v10 M9 =>
  some (v10, M9)
noncomputable def gX12_talk (M : zMS) (x1 : Int32) (x2 : Int32) : Option (Int32 × zMS) :=
  zb1 (some (zsI M 0 0)) fun M1 =>
  zb2 (gX12_hand M1 x1) fun v5 M4 =>
  if v5 = 0 then (
  some ((-1), M4))
  else (
  if x2 = (-1) then (
  gX12_talk_b30 x2 M4)
  else (
  zb1 (gX12_in x2 3 7) fun v13 =>
  if v13 = 0 then (
  some ((-1), M4))
  else (
  gX12_talk_b30 x2 M4)))
set_option maxRecDepth 100000 in
theorem eX12_talk_b30 {ν : zM} {Y : Nat} {x2 : Int32} {m4 : zMS}   : fX12_talk_b30 x2 (mdl ν Y m4) Y  = Option.map (zq2 (mdl ν Y)) (gX12_talk_b30 x2 m4 ) := by simp only [fX12_talk_b30, gX12_talk_b30, zgd_t, zmap_ite, zmap_some, zmap_none, zmap_zb0, zmap_zni, zq2_k, zq3_k, zq4_k, zq5_k, zzb1_q, zzb2_q, zzb3_q, zzb4_q, zzb5_q, zmap_zb1, zmap_zb2, zmap_zb3, zmap_zb4, zmap_zb5, zmap_zb6, zmap_zc1, zmap_zc2, zmap_zc3, zmap_zc4, md_ck, md_p0, eX12_hand, eX12_in, eX12_treeOf]
set_option maxRecDepth 100000 in
theorem eX12_talk {ν : zM} {Y : Nat} {M : zMS} {x1 : Int32} {x2 : Int32}  : fX12_talk (mdl ν Y M) Y x1 x2 = Option.map (zq2 (mdl ν Y)) (gX12_talk M x1 x2) := by simp only [fX12_talk, gX12_talk, zgd_t, zmap_ite, zmap_some, zmap_none, zmap_zb0, zmap_zni, zq2_k, zq3_k, zq4_k, zq5_k, zzb1_q, zzb2_q, zzb3_q, zzb4_q, zzb5_q, zmap_zb1, zmap_zb2, zmap_zb3, zmap_zb4, zmap_zb5, zmap_zb6, zmap_zc1, zmap_zc2, zmap_zc3, zmap_zc4, md_ck, md_p0, eX12_hand, eX12_in, eX12_treeOf, eX12_talk_b30]
noncomputable def gX12_lessonOf (M : zMS) (x1 : Int32) : Option (Int32) :=
  zb1 (zag 176 (M.2.2 8) ((22 * (M.1 44)) + x1)) fun v5 =>
  some v5
set_option maxRecDepth 100000 in
theorem eX12_lessonOf {ν : zM} {Y : Nat} {M : zMS} {x1 : Int32}  : fX12_lessonOf (mdl ν Y M) Y x1 = gX12_lessonOf M x1 := by simp only [fX12_lessonOf, gX12_lessonOf, zgd_t, zmap_ite, zmap_some, zmap_none, zmap_zb0, zmap_zni, zq2_k, zq3_k, zq4_k, zq5_k, zzb1_q, zzb2_q, zzb3_q, zzb4_q, zzb5_q, zmap_zb1, zmap_zb2, zmap_zb3, zmap_zb4, zmap_zb5, zmap_zb6, zmap_zc1, zmap_zc2, zmap_zc3, zmap_zc4, md_ck, md_g8, md_g44, md_a8, md_s8]
noncomputable def gX12_hasLesson (M : zMS) (x1 : Int32) : Option (Int32 × zMS) :=
  zb1 (some (zsI M 44 x1)) fun M1 =>
  zb1 (gX12_is M1 2 x1) fun v4 =>
  zb1 (zbz v4) fun v5 =>
  some (v5, M1)
set_option maxRecDepth 100000 in
theorem eX12_hasLesson {ν : zM} {Y : Nat} {M : zMS} {x1 : Int32}  : fX12_hasLesson (mdl ν Y M) Y x1 = Option.map (zq2 (mdl ν Y)) (gX12_hasLesson M x1) := by simp only [fX12_hasLesson, gX12_hasLesson, zgd_t, zmap_ite, zmap_some, zmap_none, zmap_zb0, zmap_zni, zq2_k, zq3_k, zq4_k, zq5_k, zzb1_q, zzb2_q, zzb3_q, zzb4_q, zzb5_q, zmap_zb1, zmap_zb2, zmap_zb3, zmap_zb4, zmap_zb5, zmap_zb6, zmap_zc1, zmap_zc2, zmap_zc3, zmap_zc4, md_ck, md_p44, eX12_is]
noncomputable def gX12_lesson (M : zMS) (x1 : Int32) (x2 : Int32) : Option (Int32 × zMS) :=
  zb1 (some (zsI M 0 0)) fun M1 =>
  zb2 (gX12_hasLesson M1 x1) fun v5 M4 =>
  if v5 = 0 then (
  some ((-1), M4))
  else (
  zb1 (gX12_in x2 10 29) fun v7 =>
  if v7 = 0 then (
  zb1 (gX12_in x2 0 1) fun v9 =>
  zb1 (if v9 = 0 then (
  some (-1))
  else (
  zb1 (gX12_lessonOf M4 x2) fun v13 =>
  some v13) : Option (Int32)) fun (s10 : Int32) =>
  some (s10, M4))
  else (
  zb1 (gX12_lessonOf M4 1) fun v15 =>
  zb1 (if v15 ≤ (x2 - x2 / 10 * 10) then (
  some (-1))
  else (
  zb1 (gX12_lessonOf M4 ((2 + (2 * (x2 - x2 / 10 * 10))) + (x2 / 20))) fun v19 =>
  some v19) : Option (Int32)) fun (s16 : Int32) =>
  some (s16, M4)))
set_option maxRecDepth 100000 in
theorem eX12_lesson {ν : zM} {Y : Nat} {M : zMS} {x1 : Int32} {x2 : Int32}  : fX12_lesson (mdl ν Y M) Y x1 x2 = Option.map (zq2 (mdl ν Y)) (gX12_lesson M x1 x2) := by simp only [fX12_lesson, gX12_lesson, zgd_t, zmap_ite, zmap_some, zmap_none, zmap_zb0, zmap_zni, zq2_k, zq3_k, zq4_k, zq5_k, zzb1_q, zzb2_q, zzb3_q, zzb4_q, zzb5_q, zmap_zb1, zmap_zb2, zmap_zb3, zmap_zb4, zmap_zb5, zmap_zb6, zmap_zc1, zmap_zc2, zmap_zc3, zmap_zc4, md_ck, md_p0, eX12_hasLesson, eX12_in, eX12_lessonOf]
noncomputable def gX12_ruled  (x0 : Int32) (x1 : Int32) : Option (Int32) :=
  some ((((x0 / 8) * x1) + x0) - (((x0 / 8) * x1) + x0) / 8 * 8)
set_option maxRecDepth 100000 in
theorem eX12_ruled {μ : zM} {x0 : Int32} {x1 : Int32} : fX12_ruled μ x0 x1 = gX12_ruled x0 x1 := by simp only [fX12_ruled, gX12_ruled, zgd_t, zmap_ite, zmap_some, zmap_none, zmap_zb0, zmap_zni, zq2_k, zq3_k, zq4_k, zq5_k, zzb1_q, zzb2_q, zzb3_q, zzb4_q, zzb5_q, zmap_zb1, zmap_zb2, zmap_zb3, zmap_zb4, zmap_zb5, zmap_zb6, zmap_zc1, zmap_zc2, zmap_zc3, zmap_zc4, md_ck]
noncomputable def gX12_wrongs_l4 (M : zMS) (x1 : Int32) (F3 : Int32 → Int32 → Option (Int32)) (x2_1 : Int32) (x3_2 : Int32) : Option (Int32) :=
  zb1 (gX12_lessonOf M 1) fun v8 =>
  if v8 ≤ x3_2 then (
  some x2_1)
  else (
  zb1 (gX12_lessonOf M (2 + (2 * x3_2))) fun v10 =>
  zb1 (gX12_ruled x1 v10) fun v12 =>
  zb1 (gX12_lessonOf M (3 + (2 * x3_2))) fun v14 =>
  zb1 (if v12 = v14 then (
  some 0)
  else (
  some 1) : Option (Int32)) fun (s15 : Int32) =>
  F3 (x2_1 + s15) (x3_2 + 1))
noncomputable def gX12_wrongs (M : zMS) (x1 : Int32) : Option (Int32) :=
  zb1 (zf2 (gX12_wrongs_l4 M x1) zfu 0 0 : Option (Int32)) fun (x2_5 : Int32) =>
  some x2_5
set_option maxRecDepth 100000 in
theorem eX12_wrongs_l4 {ν : zM} {Y : Nat} {M : zMS} {x1 : Int32} {x2_1 : Int32} {x3_2 : Int32}   (n : Nat) : zf2 (fX12_wrongs_l4 (mdl ν Y M) Y x1) n x2_1 x3_2 = zf2 (gX12_wrongs_l4 M x1) n x2_1 x3_2 := by
  refine zf2_c (fun F3 G3 hF3 x2_1 x3_2 => ?_) n x2_1 x3_2
  simp only [fX12_wrongs_l4, gX12_wrongs_l4, zgd_t, zmap_ite, zmap_some, zmap_none, zmap_zb0, zmap_zni, zq2_k, zq3_k, zq4_k, zq5_k, zzb1_q, zzb2_q, zzb3_q, zzb4_q, zzb5_q, zmap_zb1, zmap_zb2, zmap_zb3, zmap_zb4, zmap_zb5, zmap_zb6, zmap_zc1, zmap_zc2, zmap_zc3, zmap_zc4, md_ck, eX12_lessonOf, eX12_ruled, hF3]
set_option maxRecDepth 100000 in
theorem eX12_wrongs {ν : zM} {Y : Nat} {M : zMS} {x1 : Int32}  : fX12_wrongs (mdl ν Y M) Y x1 = gX12_wrongs M x1 := by simp only [fX12_wrongs, gX12_wrongs, zgd_t, zmap_ite, zmap_some, zmap_none, zmap_zb0, zmap_zni, zq2_k, zq3_k, zq4_k, zq5_k, zzb1_q, zzb2_q, zzb3_q, zzb4_q, zzb5_q, zmap_zb1, zmap_zb2, zmap_zb3, zmap_zb4, zmap_zb5, zmap_zb6, zmap_zc1, zmap_zc2, zmap_zc3, zmap_zc4, md_ck, eX12_lessonOf, eX12_ruled, eX12_wrongs_l4]
noncomputable def gX12_fits (M : zMS) (x1 : Int32) : Option (Int32) :=
  zb1 (gX12_wrongs M x1) fun v2 =>
  zb1 (gX12_lessonOf M 0) fun v4 =>
  zb1 (if v4 < v2 then (
  some 0)
  else (
  some 1) : Option (Int32)) fun (s5 : Int32) =>
  zb1 (zbz s5) fun v7 =>
  some v7
set_option maxRecDepth 100000 in
theorem eX12_fits {ν : zM} {Y : Nat} {M : zMS} {x1 : Int32}  : fX12_fits (mdl ν Y M) Y x1 = gX12_fits M x1 := by simp only [fX12_fits, gX12_fits, zgd_t, zmap_ite, zmap_some, zmap_none, zmap_zb0, zmap_zni, zq2_k, zq3_k, zq4_k, zq5_k, zzb1_q, zzb2_q, zzb3_q, zzb4_q, zzb5_q, zmap_zb1, zmap_zb2, zmap_zb3, zmap_zb4, zmap_zb5, zmap_zb6, zmap_zc1, zmap_zc2, zmap_zc3, zmap_zc4, md_ck, eX12_lessonOf, eX12_wrongs]
noncomputable def gX12_findGroups_l2  (F3 : Int32 → zMS → Option (zMS)) (x2_1 : Int32) (m2 : zMS) : Option (zMS) :=
  if 8 ≤ x2_1 then (
  some m2)
  else (
  zb1 (zas 8 (m2.2.2 45) x2_1 0) fun f9 =>
  zb1 (some (zsA m2 45 f9)) fun M9 =>
  F3 (x2_1 + 1) M9)
noncomputable def gX12_findGroups_l23 (x1 : Int32) (F14 : Int32 → zMS → Option (zMS)) (x2_12 : Int32) (m13 : zMS) : Option (zMS) :=
  if 64 ≤ x2_12 then (
  some m13)
  else (
  zb1 (gX12_ruled x2_12 x1) fun v21 =>
  zb1 (zag 8 (m13.2.2 45) v21) fun v22 =>
  zb1 (gX12_fits m13 x2_12) fun v25 =>
  zb1 (if v25 = 0 then (
  some 0)
  else (
  some 1) : Option (Int32)) fun (s26 : Int32) =>
  zb1 (zas 8 (m13.2.2 45) v21 (v22 + s26)) fun f28 =>
  zb1 (some (zsA m13 45 f28)) fun M28 =>
  F14 (x2_12 + 1) M28)
noncomputable def gX12_findGroups (M : zMS) (x1 : Int32) : Option (zMS) :=
  zb1 (zf2 gX12_findGroups_l2 zfu 0 M : Option (zMS)) fun (m5 : zMS) =>
  zb1 (zf2 (gX12_findGroups_l23 x1) zfu 0 m5 : Option (zMS)) fun (m16 : zMS) =>
  some m16
set_option maxRecDepth 100000 in
theorem eX12_findGroups_l2 {ν : zM} {Y : Nat} {x2_1 : Int32} {m2 : zMS}   (n : Nat) : zf2 (fX12_findGroups_l2 Y) n x2_1 (mdl ν Y m2) = Option.map (mdl ν Y) (zf2 gX12_findGroups_l2 n x2_1 m2) := by
  refine zf2_m (fun F3 G3 hF3 x2_1 m2 => ?_) n x2_1 m2
  simp only [fX12_findGroups_l2, gX12_findGroups_l2, zgd_t, zmap_ite, zmap_some, zmap_none, zmap_zb0, zmap_zni, zq2_k, zq3_k, zq4_k, zq5_k, zzb1_q, zzb2_q, zzb3_q, zzb4_q, zzb5_q, zmap_zb1, zmap_zb2, zmap_zb3, zmap_zb4, zmap_zb5, zmap_zb6, zmap_zc1, zmap_zc2, zmap_zc3, zmap_zc4, md_ck, md_g45, md_a45, md_s45, eX12_fits, eX12_ruled, hF3]
set_option maxRecDepth 100000 in
theorem eX12_findGroups_l23 {ν : zM} {Y : Nat} {x1 : Int32} {x2_12 : Int32} {m13 : zMS}   (n : Nat) : zf2 (fX12_findGroups_l23 Y x1) n x2_12 (mdl ν Y m13) = Option.map (mdl ν Y) (zf2 (gX12_findGroups_l23 x1) n x2_12 m13) := by
  refine zf2_m (fun F14 G14 hF14 x2_12 m13 => ?_) n x2_12 m13
  simp only [fX12_findGroups_l23, gX12_findGroups_l23, zgd_t, zmap_ite, zmap_some, zmap_none, zmap_zb0, zmap_zni, zq2_k, zq3_k, zq4_k, zq5_k, zzb1_q, zzb2_q, zzb3_q, zzb4_q, zzb5_q, zmap_zb1, zmap_zb2, zmap_zb3, zmap_zb4, zmap_zb5, zmap_zb6, zmap_zc1, zmap_zc2, zmap_zc3, zmap_zc4, md_ck, md_g45, md_a45, md_s45, eX12_fits, eX12_ruled, eX12_findGroups_l2, hF14]
set_option maxRecDepth 100000 in
theorem eX12_findGroups {ν : zM} {Y : Nat} {M : zMS} {x1 : Int32}  : fX12_findGroups (mdl ν Y M) Y x1 = Option.map (mdl ν Y) (gX12_findGroups M x1) := by simp only [fX12_findGroups, gX12_findGroups, zgd_t, zmap_ite, zmap_some, zmap_none, zmap_zb0, zmap_zni, zq2_k, zq3_k, zq4_k, zq5_k, zzb1_q, zzb2_q, zzb3_q, zzb4_q, zzb5_q, zmap_zb1, zmap_zb2, zmap_zb3, zmap_zb4, zmap_zb5, zmap_zb6, zmap_zc1, zmap_zc2, zmap_zc3, zmap_zc4, md_ck, md_g45, md_a45, md_s45, eX12_fits, eX12_ruled, eX12_findGroups_l2, eX12_findGroups_l23]
noncomputable def gX12_largest_l9 (M2 : zMS) (F5 : Int32 → Int32 → Option (Int32)) (x2_3 : Int32) (x3_4 : Int32) : Option (Int32) :=
  if 8 ≤ x3_4 then (
  some x2_3)
  else (
  zb1 (zag 8 (M2.2.2 45) x3_4) fun v11 =>
  zb1 (gX12_greater x2_3 v11) fun v14 =>
  F5 v14 (x3_4 + 1))
noncomputable def gX12_largest (M : zMS) (x1 : Int32) : Option (Int32 × zMS) :=
  zb1 (gX12_findGroups M x1) fun M2 =>
  zb1 (zf2 (gX12_largest_l9 M2) zfu 0 0 : Option (Int32)) fun (x2_7 : Int32) =>
  some (x2_7, M2)
set_option maxRecDepth 100000 in
theorem eX12_largest_l9 {ν : zM} {Y : Nat} {m2 : zMS} {x2_3 : Int32} {x3_4 : Int32}   (n : Nat) : zf2 (fX12_largest_l9 (mdl ν Y m2) Y) n x2_3 x3_4 = zf2 (gX12_largest_l9 m2) n x2_3 x3_4 := by
  refine zf2_c (fun F5 G5 hF5 x2_3 x3_4 => ?_) n x2_3 x3_4
  simp only [fX12_largest_l9, gX12_largest_l9, zgd_t, zmap_ite, zmap_some, zmap_none, zmap_zb0, zmap_zni, zq2_k, zq3_k, zq4_k, zq5_k, zzb1_q, zzb2_q, zzb3_q, zzb4_q, zzb5_q, zmap_zb1, zmap_zb2, zmap_zb3, zmap_zb4, zmap_zb5, zmap_zb6, zmap_zc1, zmap_zc2, zmap_zc3, zmap_zc4, md_ck, md_g45, md_a45, md_s45, eX12_findGroups, eX12_greater, hF5]
set_option maxRecDepth 100000 in
theorem eX12_largest {ν : zM} {Y : Nat} {M : zMS} {x1 : Int32}  : fX12_largest (mdl ν Y M) Y x1 = Option.map (zq2 (mdl ν Y)) (gX12_largest M x1) := by simp only [fX12_largest, gX12_largest, zgd_t, zmap_ite, zmap_some, zmap_none, zmap_zb0, zmap_zni, zq2_k, zq3_k, zq4_k, zq5_k, zzb1_q, zzb2_q, zzb3_q, zzb4_q, zzb5_q, zmap_zb1, zmap_zb2, zmap_zb3, zmap_zb4, zmap_zb5, zmap_zb6, zmap_zc1, zmap_zc2, zmap_zc3, zmap_zc4, md_ck, md_g45, md_a45, md_s45, eX12_findGroups, eX12_greater, eX12_largest_l9]
noncomputable def gX12_comesOf_l7 (M2 : zMS) (x2 : Int32) (F4 : Int32 → Option (Int32 × zMS)) (x3_3 : Int32) : Option (Int32 × zMS) :=
  if 8 ≤ x3_3 then (
  some ((-1), M2))
  else (
  zb1 (zag 8 (M2.2.2 45) x3_3) fun v8 =>
  if v8 = x2 then (
  some (x3_3, M2))
  else (
  F4 (x3_3 + 1)))
noncomputable def gX12_comesOf (M : zMS) (x1 : Int32) (x2 : Int32) : Option (Int32 × zMS) :=
  zb1 (gX12_findGroups M x1) fun M2 =>
  zf1 (gX12_comesOf_l7 M2 x2) zfu 0
set_option maxRecDepth 100000 in
theorem eX12_comesOf_l7 {ν : zM} {Y : Nat} {m2 : zMS} {x2 : Int32} {x3_3 : Int32}   (n : Nat) : zf1 (fX12_comesOf_l7 (mdl ν Y m2) Y x2) n x3_3 = Option.map (zq2 (mdl ν Y)) (zf1 (gX12_comesOf_l7 m2 x2) n x3_3) := by
  refine zf1_p (fun F4 G4 hF4 x3_3 => ?_) n x3_3
  simp only [fX12_comesOf_l7, gX12_comesOf_l7, zgd_t, zmap_ite, zmap_some, zmap_none, zmap_zb0, zmap_zni, zq2_k, zq3_k, zq4_k, zq5_k, zzb1_q, zzb2_q, zzb3_q, zzb4_q, zzb5_q, zmap_zb1, zmap_zb2, zmap_zb3, zmap_zb4, zmap_zb5, zmap_zb6, zmap_zc1, zmap_zc2, zmap_zc3, zmap_zc4, md_ck, md_g45, md_a45, md_s45, eX12_findGroups, hF4]
set_option maxRecDepth 100000 in
theorem eX12_comesOf {ν : zM} {Y : Nat} {M : zMS} {x1 : Int32} {x2 : Int32}  : fX12_comesOf (mdl ν Y M) Y x1 x2 = Option.map (zq2 (mdl ν Y)) (gX12_comesOf M x1 x2) := by simp only [fX12_comesOf, gX12_comesOf, zgd_t, zmap_ite, zmap_some, zmap_none, zmap_zb0, zmap_zni, zq2_k, zq3_k, zq4_k, zq5_k, zzb1_q, zzb2_q, zzb3_q, zzb4_q, zzb5_q, zmap_zb1, zmap_zb2, zmap_zb3, zmap_zb4, zmap_zb5, zmap_zb6, zmap_zc1, zmap_zc2, zmap_zc3, zmap_zc4, md_ck, md_g45, md_a45, md_s45, eX12_findGroups, eX12_comesOf_l7]
noncomputable def gX12_rules_l44 (M4 : zMS) (F11 : Int32 → Int32 → Int32 → Option (Int32 × Int32)) (x3_8 : Int32) (x4_9 : Int32) (x5_10 : Int32) : Option (Int32 × Int32) :=
  if 64 ≤ x5_10 then (
  some (x3_8, x4_9))
  else (
  zb1 (gX12_fits M4 x5_10) fun v17 =>
  zb1 (if v17 = 0 then (
  some 0)
  else (
  some 1) : Option (Int32)) fun (s18 : Int32) =>
  zb1 (gX12_wrongs M4 x5_10) fun v21 =>
  zb1 (gX12_wrongs M4 x4_9) fun v23 =>
  zb1 (if v23 ≤ v21 then (
  some x4_9)
  else (
  some x5_10) : Option (Int32)) fun (s24 : Int32) =>
  F11 (x3_8 + s18) s24 (x5_10 + 1))
noncomputable def gX12_rules_l155  (F30 : Int32 → Int32 → zMS → Option (Int32 × zMS)) (x5_27 : Int32) (x6_28 : Int32) (m29 : zMS) : Option (Int32 × zMS) :=
  if 8 ≤ x6_28 then (
  some (x5_27, m29))
  else (
  zb2 (gX12_largest m29 x6_28) fun v37 M36 =>
  zb2 (gX12_largest M36 x5_27) fun v40 M39 =>
  zb1 (if v40 ≤ v37 then (
  some x5_27)
  else (
  some x6_28) : Option (Int32)) fun (s41 : Int32) =>
  F30 s41 (x6_28 + 1) M39)
noncomputable def gX12_rules_b36 (M4 : zMS) (x2 : Int32) : Option (Int32 × zMS) :=
  zb2 (zf3 (gX12_rules_l44 M4) zfu 0 0 0 : Option (Int32 × Int32)) fun (x3_13 : Int32) (x4_14 : Int32) =>
  if 3 ≤ x2 then (
  if x3_13 = 0 then (
  some ((-1), M4))
  else (
  if x2 ≤ 3 then (
  zb2 (zf3 gX12_rules_l155 zfu 0 1 M4 : Option (Int32 × zMS)) fun (x5_32 : Int32) (m33 : zMS) =>
  some (x5_32, m33))
  else (
  zb2 (gX12_comesOf M4 (x2 - 10) x3_13) fun v46 M45 =>
  some (v46, M45))))
  else (
  zb1 (if x2 = 0 then (
  some x3_13)
  else (
  if x2 = 1 then (
  zb1 (gX12_wrongs M4 x4_14) fun v50 =>
  some v50)
  else (
  some x4_14)) : Option (Int32)) fun (s47 : Int32) =>
  some (s47, M4))
noncomputable def gX12_rules (M : zMS) (x1 : Int32) (x2 : Int32) : Option (Int32 × zMS) :=
  zb1 (some (zsI M 0 0)) fun M1 =>
  zb2 (gX12_hasLesson M1 x1) fun v5 M4 =>
  if v5 = 0 then (
  some ((-2), M4))
  else (
  zb1 (gX12_in x2 0 3) fun v7 =>
  if v7 = 0 then (
  zb1 (gX12_in x2 10 17) fun v53 =>
  if v53 = 0 then (
  some ((-2), M4))
  else (
  gX12_rules_b36 M4 x2))
  else (
  gX12_rules_b36 M4 x2))
set_option maxRecDepth 100000 in
theorem eX12_rules_l44 {ν : zM} {Y : Nat} {m4 : zMS} {x3_8 : Int32} {x4_9 : Int32} {x5_10 : Int32}   (n : Nat) : zf3 (fX12_rules_l44 (mdl ν Y m4) Y) n x3_8 x4_9 x5_10 = zf3 (gX12_rules_l44 m4) n x3_8 x4_9 x5_10 := by
  refine zf3_c (fun F11 G11 hF11 x3_8 x4_9 x5_10 => ?_) n x3_8 x4_9 x5_10
  simp only [fX12_rules_l44, gX12_rules_l44, zgd_t, zmap_ite, zmap_some, zmap_none, zmap_zb0, zmap_zni, zq2_k, zq3_k, zq4_k, zq5_k, zzb1_q, zzb2_q, zzb3_q, zzb4_q, zzb5_q, zmap_zb1, zmap_zb2, zmap_zb3, zmap_zb4, zmap_zb5, zmap_zb6, zmap_zc1, zmap_zc2, zmap_zc3, zmap_zc4, md_ck, md_p0, eX12_comesOf, eX12_fits, eX12_hasLesson, eX12_in, eX12_largest, eX12_wrongs, hF11]
set_option maxRecDepth 100000 in
theorem eX12_rules_l155 {ν : zM} {Y : Nat} {x5_27 : Int32} {x6_28 : Int32} {m29 : zMS}   (n : Nat) : zf3 (fX12_rules_l155 Y) n x5_27 x6_28 (mdl ν Y m29) = Option.map (zq2 (mdl ν Y)) (zf3 gX12_rules_l155 n x5_27 x6_28 m29) := by
  refine zf3_m (fun F30 G30 hF30 x5_27 x6_28 m29 => ?_) n x5_27 x6_28 m29
  simp only [fX12_rules_l155, gX12_rules_l155, zgd_t, zmap_ite, zmap_some, zmap_none, zmap_zb0, zmap_zni, zq2_k, zq3_k, zq4_k, zq5_k, zzb1_q, zzb2_q, zzb3_q, zzb4_q, zzb5_q, zmap_zb1, zmap_zb2, zmap_zb3, zmap_zb4, zmap_zb5, zmap_zb6, zmap_zc1, zmap_zc2, zmap_zc3, zmap_zc4, md_ck, md_p0, eX12_comesOf, eX12_fits, eX12_hasLesson, eX12_in, eX12_largest, eX12_wrongs, eX12_rules_l44, hF30]
set_option maxRecDepth 100000 in
theorem eX12_rules_b36 {ν : zM} {Y : Nat} {m4 : zMS} {x2 : Int32}   : fX12_rules_b36 (mdl ν Y m4) Y x2  = Option.map (zq2 (mdl ν Y)) (gX12_rules_b36 m4 x2 ) := by simp only [fX12_rules_b36, gX12_rules_b36, zgd_t, zmap_ite, zmap_some, zmap_none, zmap_zb0, zmap_zni, zq2_k, zq3_k, zq4_k, zq5_k, zzb1_q, zzb2_q, zzb3_q, zzb4_q, zzb5_q, zmap_zb1, zmap_zb2, zmap_zb3, zmap_zb4, zmap_zb5, zmap_zb6, zmap_zc1, zmap_zc2, zmap_zc3, zmap_zc4, md_ck, md_p0, eX12_comesOf, eX12_fits, eX12_hasLesson, eX12_in, eX12_largest, eX12_wrongs, eX12_rules_l44, eX12_rules_l155]
set_option maxRecDepth 100000 in
theorem eX12_rules {ν : zM} {Y : Nat} {M : zMS} {x1 : Int32} {x2 : Int32}  : fX12_rules (mdl ν Y M) Y x1 x2 = Option.map (zq2 (mdl ν Y)) (gX12_rules M x1 x2) := by simp only [fX12_rules, gX12_rules, zgd_t, zmap_ite, zmap_some, zmap_none, zmap_zb0, zmap_zni, zq2_k, zq3_k, zq4_k, zq5_k, zzb1_q, zzb2_q, zzb3_q, zzb4_q, zzb5_q, zmap_zb1, zmap_zb2, zmap_zb3, zmap_zb4, zmap_zb5, zmap_zb6, zmap_zc1, zmap_zc2, zmap_zc3, zmap_zc4, md_ck, md_p0, eX12_comesOf, eX12_fits, eX12_hasLesson, eX12_in, eX12_largest, eX12_wrongs, eX12_rules_l44, eX12_rules_l155, eX12_rules_b36]
