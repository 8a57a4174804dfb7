noncomputable def gX12_ones_l4 (x0 : Int32) (F3 : Int32 → Int32 → Option (Int32)) (x1_1 : Int32) (x2_2 : Int32) : Option (Int32) :=
  if 6 ≤ x2_2 then (
  some x1_1)
  else (
  zb1 (gX12_has x0 x2_2) fun v8 =>
  zb1 (if v8 = 0 then (
  some 0)
  else (
  some 1) : Option (Int32)) fun (s9 : Int32) =>
  F3 (x1_1 + s9) (x2_2 + 1))
noncomputable def gX12_ones  (x0 : Int32) : Option (Int32) :=
  zb1 (zf2 (gX12_ones_l4 x0) zfu 0 0 : Option (Int32)) fun (x1_5 : Int32) =>
  some x1_5
set_option maxRecDepth 100000 in
theorem eX12_ones_l4  {μ : zM } {x0 : Int32} {x1_1 : Int32} {x2_2 : Int32}   (n : Nat) : zf2 (fX12_ones_l4 μ x0) n x1_1 x2_2 = zf2 (gX12_ones_l4 x0) n x1_1 x2_2 := by
  refine zf2_c (fun F3 G3 hF3 x1_1 x2_2 => ?_) n x1_1 x2_2
  simp only [fX12_ones_l4, gX12_ones_l4, zgd_t, zmap_ite, zmap_some, zmap_none, zmap_zb0, zmap_zni, zq2_k, zq3_k, zq4_k, zq5_k, zzb1_q, zzb2_q, zzb3_q, zzb4_q, zzb5_q, zmap_zb1, zmap_zb2, zmap_zb3, zmap_zb4, zmap_zb5, zmap_zb6, zmap_zc1, zmap_zc2, zmap_zc3, zmap_zc4, md_ck, eX12_has, hF3]
set_option maxRecDepth 100000 in
theorem eX12_ones {μ : zM} {x0 : Int32} : fX12_ones μ x0 = gX12_ones x0 := by simp only [fX12_ones, gX12_ones, zgd_t, zmap_ite, zmap_some, zmap_none, zmap_zb0, zmap_zni, zq2_k, zq3_k, zq4_k, zq5_k, zzb1_q, zzb2_q, zzb3_q, zzb4_q, zzb5_q, zmap_zb1, zmap_zb2, zmap_zb3, zmap_zb4, zmap_zb5, zmap_zb6, zmap_zc1, zmap_zc2, zmap_zc3, zmap_zc4, md_ck, eX12_has, eX12_ones_l4]
noncomputable def gX12_guards_l29 (M4 : zMS) (x2 : Int32) (F10 : Int32 → Int32 → Option (Int32)) (x3_8 : Int32) (x4_9 : Int32) : Option (Int32) :=
  if (1 <<< ((M4.1 25) &&& 31)) ≤ x4_9 then (
  some x3_8)
  else (
  zb1 (gX12_areGuarded M4 x4_9 x2) fun v17 =>
  zb1 (if v17 = 0 then (
  some x3_8)
  else (
  if x3_8 = (-1) then (
  some x4_9)
  else (
  zb1 (gX12_ones x4_9) fun v21 =>
  zb1 (gX12_ones x3_8) fun v23 =>
  if v23 ≤ v21 then (
  some x3_8)
  else (
  some x4_9))) : Option (Int32)) fun (s18 : Int32) =>
  F10 s18 (x4_9 + 1))
noncomputable def gX12_guards (M : zMS) (x1 : Int32) (x2 : Int32) : Option (Int32 × zMS) :=
  zb1 (some (zsI M 0 0)) fun M1 =>
  zb2 (gX12_hand M1 x1) fun v5 M4 =>
  if v5 = 0 then (
  some ((-1), M4))
  else (
  zb1 (gX12_in x2 0 2) fun v7 =>
  if v7 = 0 then (
  some ((-1), M4))
  else (
  zb1 (zf2 (gX12_guards_l29 M4 x2) zfu (-1) 0 : Option (Int32)) fun (x3_12 : Int32) =>
  some (x3_12, M4)))
set_option maxRecDepth 100000 in
theorem eX12_guards_l29 {ν : zM} {Y : Nat} {m4 : zMS} {x2 : Int32} {x3_8 : Int32} {x4_9 : Int32}   (n : Nat) : zf2 (fX12_guards_l29 (mdl ν Y m4) Y x2) n x3_8 x4_9 = zf2 (gX12_guards_l29 m4 x2) n x3_8 x4_9 := by
  refine zf2_c (fun F10 G10 hF10 x3_8 x4_9 => ?_) n x3_8 x4_9
  simp only [fX12_guards_l29, gX12_guards_l29, zgd_t, zmap_ite, zmap_some, zmap_none, zmap_zb0, zmap_zni, zq2_k, zq3_k, zq4_k, zq5_k, zzb1_q, zzb2_q, zzb3_q, zzb4_q, zzb5_q, zmap_zb1, zmap_zb2, zmap_zb3, zmap_zb4, zmap_zb5, zmap_zb6, zmap_zc1, zmap_zc2, zmap_zc3, zmap_zc4, md_ck, md_g25, md_p0, eX12_areGuarded, eX12_hand, eX12_in, eX12_ones, hF10]
set_option maxRecDepth 100000 in
theorem eX12_guards {ν : zM} {Y : Nat} {M : zMS} {x1 : Int32} {x2 : Int32}  : fX12_guards (mdl ν Y M) Y x1 x2 = Option.map (zq2 (mdl ν Y)) (gX12_guards M x1 x2) := by simp only [fX12_guards, gX12_guards, zgd_t, zmap_ite, zmap_some, zmap_none, zmap_zb0, zmap_zni, zq2_k, zq3_k, zq4_k, zq5_k, zzb1_q, zzb2_q, zzb3_q, zzb4_q, zzb5_q, zmap_zb1, zmap_zb2, zmap_zb3, zmap_zb4, zmap_zb5, zmap_zb6, zmap_zc1, zmap_zc2, zmap_zc3, zmap_zc4, md_ck, md_g25, md_p0, eX12_areGuarded, eX12_hand, eX12_in, eX12_ones, eX12_guards_l29]
noncomputable def gX12_together_l4 (M : zMS) (x1 : Int32) (F3 : Int32 → Int32 → Option (Int32)) (x2_1 : Int32) (x3_2 : Int32) : Option (Int32) :=
  if (M.1 25) ≤ x3_2 then (
  some x2_1)
  else (
  zb1 (gX12_of M (33 + x3_2)) fun v10 =>
  zb1 (gX12_apart x1 v10) fun v12 =>
  F3 (x2_1 + v12) (x3_2 + 1))
noncomputable def gX12_together (M : zMS) (x1 : Int32) : Option (Int32) :=
  zb1 (zf2 (gX12_together_l4 M x1) zfu 0 0 : Option (Int32)) fun (x2_5 : Int32) =>
  some x2_5
set_option maxRecDepth 100000 in
theorem eX12_together_l4 {ν : zM} {Y : Nat} {M : zMS} {x1 : Int32} {x2_1 : Int32} {x3_2 : Int32}   (n : Nat) : zf2 (fX12_together_l4 (mdl ν Y M) Y x1) n x2_1 x3_2 = zf2 (gX12_together_l4 M x1) n x2_1 x3_2 := by
  refine zf2_c (fun F3 G3 hF3 x2_1 x3_2 => ?_) n x2_1 x3_2
  simp only [fX12_together_l4, gX12_together_l4, zgd_t, zmap_ite, zmap_some, zmap_none, zmap_zb0, zmap_zni, zq2_k, zq3_k, zq4_k, zq5_k, zzb1_q, zzb2_q, zzb3_q, zzb4_q, zzb5_q, zmap_zb1, zmap_zb2, zmap_zb3, zmap_zb4, zmap_zb5, zmap_zb6, zmap_zc1, zmap_zc2, zmap_zc3, zmap_zc4, md_ck, md_g25, eX12_apart, eX12_of, hF3]
set_option maxRecDepth 100000 in
theorem eX12_together {ν : zM} {Y : Nat} {M : zMS} {x1 : Int32}  : fX12_together (mdl ν Y M) Y x1 = gX12_together M x1 := by simp only [fX12_together, gX12_together, zgd_t, zmap_ite, zmap_some, zmap_none, zmap_zb0, zmap_zni, zq2_k, zq3_k, zq4_k, zq5_k, zzb1_q, zzb2_q, zzb3_q, zzb4_q, zzb5_q, zmap_zb1, zmap_zb2, zmap_zb3, zmap_zb4, zmap_zb5, zmap_zb6, zmap_zc1, zmap_zc2, zmap_zc3, zmap_zc4, md_ck, md_g25, eX12_apart, eX12_of, eX12_together_l4]
noncomputable def gX12_furthest_l4 (M : zMS) (x1 : Int32) (F3 : Int32 → Int32 → Option (Int32)) (x2_1 : Int32) (x3_2 : Int32) : Option (Int32) :=
  if (M.1 25) ≤ x3_2 then (
  some x2_1)
  else (
  zb1 (gX12_of M (33 + x3_2)) fun v10 =>
  zb1 (gX12_apart x1 v10) fun v12 =>
  zb1 (gX12_greater x2_1 v12) fun v14 =>
  F3 v14 (x3_2 + 1))
noncomputable def gX12_furthest (M : zMS) (x1 : Int32) : Option (Int32) :=
  zb1 (zf2 (gX12_furthest_l4 M x1) zfu 0 0 : Option (Int32)) fun (x2_5 : Int32) =>
  some x2_5
set_option maxRecDepth 100000 in
theorem eX12_furthest_l4 {ν : zM} {Y : Nat} {M : zMS} {x1 : Int32} {x2_1 : Int32} {x3_2 : Int32}   (n : Nat) : zf2 (fX12_furthest_l4 (mdl ν Y M) Y x1) n x2_1 x3_2 = zf2 (gX12_furthest_l4 M x1) n x2_1 x3_2 := by
  refine zf2_c (fun F3 G3 hF3 x2_1 x3_2 => ?_) n x2_1 x3_2
  simp only [fX12_furthest_l4, gX12_furthest_l4, zgd_t, zmap_ite, zmap_some, zmap_none, zmap_zb0, zmap_zni, zq2_k, zq3_k, zq4_k, zq5_k, zzb1_q, zzb2_q, zzb3_q, zzb4_q, zzb5_q, zmap_zb1, zmap_zb2, zmap_zb3, zmap_zb4, zmap_zb5, zmap_zb6, zmap_zc1, zmap_zc2, zmap_zc3, zmap_zc4, md_ck, md_g25, eX12_apart, eX12_greater, eX12_of, hF3]
set_option maxRecDepth 100000 in
theorem eX12_furthest {ν : zM} {Y : Nat} {M : zMS} {x1 : Int32}  : fX12_furthest (mdl ν Y M) Y x1 = gX12_furthest M x1 := by simp only [fX12_furthest, gX12_furthest, zgd_t, zmap_ite, zmap_some, zmap_none, zmap_zb0, zmap_zni, zq2_k, zq3_k, zq4_k, zq5_k, zzb1_q, zzb2_q, zzb3_q, zzb4_q, zzb5_q, zmap_zb1, zmap_zb2, zmap_zb3, zmap_zb4, zmap_zb5, zmap_zb6, zmap_zc1, zmap_zc2, zmap_zc3, zmap_zc4, md_ck, md_g25, eX12_apart, eX12_greater, eX12_of, eX12_furthest_l4]
noncomputable def gX12_middle_l32 (M4 : zMS) (F11 : Int32 → Int32 → Int32 → Option (Int32 × Int32)) (x3_8 : Int32) (x4_9 : Int32) (x5_10 : Int32) : Option (Int32 × Int32) :=
  if (M4.1 24) < x5_10 then (
  some (x3_8, x4_9))
  else (
  zb1 (gX12_together M4 x5_10) fun v19 =>
  zb1 (gX12_together M4 x3_8) fun v21 =>
  zb1 (if v21 ≤ v19 then (
  some x3_8)
  else (
  some x5_10) : Option (Int32)) fun (s22 : Int32) =>
  zb1 (gX12_furthest M4 x5_10) fun v25 =>
  zb1 (gX12_furthest M4 x4_9) fun v27 =>
  zb1 (if v27 ≤ v25 then (
  some x4_9)
  else (
  some x5_10) : Option (Int32)) fun (s28 : Int32) =>
  F11 s22 s28 (x5_10 + 1))
noncomputable def gX12_middle (M : zMS) (x1 : Int32) (x2 : Int32) : Option (Int32 × zMS) :=
  zb1 (some (zsI M 0 0)) fun M1 =>
  zb2 (gX12_hand M1 x1) fun v5 M4 =>
  if v5 = 0 then (
  some ((-1), M4))
  else (
  zb1 (gX12_in x2 0 3) fun v7 =>
  if v7 = 0 then (
  some ((-1), M4))
  else (
  zb2 (zf3 (gX12_middle_l32 M4) zfu 0 0 1 : Option (Int32 × Int32)) fun (x3_13 : Int32) (x4_14 : Int32) =>
  zb1 (if x2 = 0 then (
  some x3_13)
  else (
  if x2 = 1 then (
  zb1 (gX12_together M4 x3_13) fun v36 =>
  some v36)
  else (
  if x2 = 2 then (
  some x4_14)
  else (
  zb1 (gX12_furthest M4 x4_14) fun v34 =>
  some v34))) : Option (Int32)) fun (s31 : Int32) =>
  some (s31, M4)))
set_option maxRecDepth 100000 in
theorem eX12_middle_l32 {ν : zM} {Y : Nat} {m4 : zMS} {x3_8 : Int32} {x4_9 : Int32} {x5_10 : Int32}   (n : Nat) : zf3 (fX12_middle_l32 (mdl ν Y m4) Y) n x3_8 x4_9 x5_10 = zf3 (gX12_middle_l32 m4) n x3_8 x4_9 x5_10 := by
  refine zf3_c (fun F11 G11 hF11 x3_8 x4_9 x5_10 => ?_) n x3_8 x4_9 x5_10
  simp only [fX12_middle_l32, gX12_middle_l32, zgd_t, zmap_ite, zmap_some, zmap_none, zmap_zb0, zmap_zni, zq2_k, zq3_k, zq4_k, zq5_k, zzb1_q, zzb2_q, zzb3_q, zzb4_q, zzb5_q, zmap_zb1, zmap_zb2, zmap_zb3, zmap_zb4, zmap_zb5, zmap_zb6, zmap_zc1, zmap_zc2, zmap_zc3, zmap_zc4, md_ck, md_g24, md_p0, eX12_furthest, eX12_hand, eX12_in, eX12_together, hF11]
set_option maxRecDepth 100000 in
theorem eX12_middle {ν : zM} {Y : Nat} {M : zMS} {x1 : Int32} {x2 : Int32}  : fX12_middle (mdl ν Y M) Y x1 x2 = Option.map (zq2 (mdl ν Y)) (gX12_middle M x1 x2) := by simp only [fX12_middle, gX12_middle, zgd_t, zmap_ite, zmap_some, zmap_none, zmap_zb0, zmap_zni, zq2_k, zq3_k, zq4_k, zq5_k, zzb1_q, zzb2_q, zzb3_q, zzb4_q, zzb5_q, zmap_zb1, zmap_zb2, zmap_zb3, zmap_zb4, zmap_zb5, zmap_zb6, zmap_zc1, zmap_zc2, zmap_zc3, zmap_zc4, md_ck, md_g24, md_p0, eX12_furthest, eX12_hand, eX12_in, eX12_together, eX12_middle_l32]
noncomputable def gX12_auction_l30 (M4 : zMS) (F10 : Int32 → Int32 → Option (Int32)) (x4_8 : Int32) (x5_9 : Int32) : Option (Int32) :=
  if (M4.1 25) ≤ x5_9 then (
  some x4_8)
  else (
  zb1 (gX12_isKind M4 x5_9 1) fun v17 =>
  zb1 (if v17 = 0 then (
  some x4_8)
  else (
  if x4_8 = (-1) then (
  some x5_9)
  else (
  zb1 (gX12_of M4 (39 + x5_9)) fun v21 =>
  zb1 (gX12_of M4 (39 + x4_8)) fun v23 =>
  if v21 ≤ v23 then (
  some x4_8)
  else (
  some x5_9))) : Option (Int32)) fun (s18 : Int32) =>
  F10 s18 (x5_9 + 1))
noncomputable def gX12_auction_l132 (M4 : zMS) (x4_12 : Int32) (F33 : Int32 → Int32 → Option (Int32)) (x5_31 : Int32) (x6_32 : Int32) : Option (Int32) :=
  if (M4.1 25) ≤ x6_32 then (
  some x5_31)
  else (
  zb1 (gX12_isKind M4 x6_32 1) fun v40 =>
  zb1 (if v40 = 0 then (
  some x5_31)
  else (
  if x6_32 = x4_12 then (
  some x5_31)
  else (
  zb1 (gX12_of M4 (39 + x6_32)) fun v44 =>
  zb1 (gX12_greater x5_31 v44) fun v46 =>
  some v46)) : Option (Int32)) fun (s41 : Int32) =>
  F33 s41 (x6_32 + 1))
noncomputable def gX12_auction (M : zMS) (x1 : Int32) (x2 : Int32) (x3 : Int32) : Option (Int32 × zMS) :=
  zb1 (some (zsI M 0 0)) fun M1 =>
  zb2 (gX12_hand M1 x1) fun v5 M4 =>
  if v5 = 0 then (
  some ((-1), M4))
  else (
  zb1 (gX12_isKind M4 x2 0) fun v7 =>
  if v7 = 0 then (
  some ((-1), M4))
  else (
  zb1 (zf2 (gX12_auction_l30 M4) zfu (-1) 0 : Option (Int32)) fun (x4_12 : Int32) =>
  if x4_12 = (-1) then (
  some ((-1), M4))
  else (
  zb1 (gX12_of M4 (39 + x4_12)) fun v26 =>
  zb1 (gX12_of M4 (39 + x2)) fun v28 =>
  if v28 ≤ v26 then (
  zb1 (gX12_of M4 (39 + x2)) fun v30 =>
  zb1 (zf2 (gX12_auction_l132 M4 x4_12) zfu v30 0 : Option (Int32)) fun (x5_35 : Int32) =>
  zb1 (if x3 = 0 then (
  some x4_12)
  else (
  some x5_35) : Option (Int32)) fun (s48 : Int32) =>
  some (s48, M4))
  else (
  some ((-1), M4)))))
set_option maxRecDepth 100000 in
theorem eX12_auction_l30 {ν : zM} {Y : Nat} {m4 : zMS} {x4_8 : Int32} {x5_9 : Int32}   (n : Nat) : zf2 (fX12_auction_l30 (mdl ν Y m4) Y) n x4_8 x5_9 = zf2 (gX12_auction_l30 m4) n x4_8 x5_9 := by
  refine zf2_c (fun F10 G10 hF10 x4_8 x5_9 => ?_) n x4_8 x5_9
  simp only [fX12_auction_l30, gX12_auction_l30, zgd_t, zmap_ite, zmap_some, zmap_none, zmap_zb0, zmap_zni, zq2_k, zq3_k, zq4_k, zq5_k, zzb1_q, zzb2_q, zzb3_q, zzb4_q, zzb5_q, zmap_zb1, zmap_zb2, zmap_zb3, zmap_zb4, zmap_zb5, zmap_zb6, zmap_zc1, zmap_zc2, zmap_zc3, zmap_zc4, md_ck, md_g25, md_p0, eX12_greater, eX12_hand, eX12_isKind, eX12_of, hF10]
set_option maxRecDepth 100000 in
theorem eX12_auction_l132 {ν : zM} {Y : Nat} {m4 : zMS} {x4_12 : Int32} {x5_31 : Int32} {x6_32 : Int32}   (n : Nat) : zf2 (fX12_auction_l132 (mdl ν Y m4) Y x4_12) n x5_31 x6_32 = zf2 (gX12_auction_l132 m4 x4_12) n x5_31 x6_32 := by
  refine zf2_c (fun F33 G33 hF33 x5_31 x6_32 => ?_) n x5_31 x6_32
  simp only [fX12_auction_l132, gX12_auction_l132, zgd_t, zmap_ite, zmap_some, zmap_none, zmap_zb0, zmap_zni, zq2_k, zq3_k, zq4_k, zq5_k, zzb1_q, zzb2_q, zzb3_q, zzb4_q, zzb5_q, zmap_zb1, zmap_zb2, zmap_zb3, zmap_zb4, zmap_zb5, zmap_zb6, zmap_zc1, zmap_zc2, zmap_zc3, zmap_zc4, md_ck, md_g25, md_p0, eX12_greater, eX12_hand, eX12_isKind, eX12_of, eX12_auction_l30, hF33]
set_option maxRecDepth 100000 in
theorem eX12_auction {ν : zM} {Y : Nat} {M : zMS} {x1 : Int32} {x2 : Int32} {x3 : Int32}  : fX12_auction (mdl ν Y M) Y x1 x2 x3 = Option.map (zq2 (mdl ν Y)) (gX12_auction M x1 x2 x3) := by simp only [fX12_auction, gX12_auction, zgd_t, zmap_ite, zmap_some, zmap_none, zmap_zb0, zmap_zni, zq2_k, zq3_k, zq4_k, zq5_k, zzb1_q, zzb2_q, zzb3_q, zzb4_q, zzb5_q, zmap_zb1, zmap_zb2, zmap_zb3, zmap_zb4, zmap_zb5, zmap_zb6, zmap_zc1, zmap_zc2, zmap_zc3, zmap_zc4, md_ck, md_g25, md_p0, eX12_greater, eX12_hand, eX12_isKind, eX12_of, eX12_auction_l30, eX12_auction_l132]
noncomputable def gX12_relayed (M : zMS) (x1 : Int32) (x2 : Int32) (x3 : Int32) (x4 : Int32) : Option (Int32 × zMS) :=
  zb1 (some (zsI M 0 0)) fun M1 =>
  zb2 (gX12_hand M1 x1) fun v5 M4 =>
  if v5 = 0 then (
  some ((-1), M4))
  else (
  zb1 (gX12_isPerson M4 x2) fun v7 =>
  if v7 = 0 then (
  some ((-1), M4))
  else (
  zb1 (gX12_isPerson M4 x3) fun v9 =>
  if v9 = 0 then (
  some ((-1), M4))
  else (
  zb1 (gX12_in x4 0 2) fun v11 =>
  if v11 = 0 then (
  some ((-1), M4))
  else (
  zb1 (gX12_findSoon M4 x2 x4 1) fun M13 =>
  zb1 (zag 6 (M13.2.2 50) x3) fun v16 =>
  zb1 (if v16 < 1000000 then (
  zb1 (zag 6 (M13.2.2 50) x3) fun v22 =>
  some v22)
  else (
  some (-1)) : Option (Int32)) fun (s18 : Int32) =>
  some (s18, M13)))))
set_option maxRecDepth 100000 in
theorem eX12_relayed {ν : zM} {Y : Nat} {M : zMS} {x1 : Int32} {x2 : Int32} {x3 : Int32} {x4 : Int32}  : fX12_relayed (mdl ν Y M) Y x1 x2 x3 x4 = Option.map (zq2 (mdl ν Y)) (gX12_relayed M x1 x2 x3 x4) := by simp only [fX12_relayed, gX12_relayed, zgd_t, zmap_ite, zmap_some, zmap_none, zmap_zb0, zmap_zni, zq2_k, zq3_k, zq4_k, zq5_k, zzb1_q, zzb2_q, zzb3_q, zzb4_q, zzb5_q, zmap_zb1, zmap_zb2, zmap_zb3, zmap_zb4, zmap_zb5, zmap_zb6, zmap_zc1, zmap_zc2, zmap_zc3, zmap_zc4, md_ck, md_g50, md_p0, md_a50, md_s50, eX12_findSoon, eX12_hand, eX12_in, eX12_isPerson]
noncomputable def gX12_weather_b95  : Option (Int32) :=
  some 0
noncomputable def gX12_weather_l68 (M6 : zMS) (F11 : Int32 → Int32 → Int32 → Option (Int32)) (x3_8 : Int32) (x4_9 : Int32) (x5_10 : Int32) : Option (Int32) :=
  if 99 < x5_10 then (
  some x3_8)
  else (
  zb1 (gX12_isSky M6 0 x5_10) fun v16 =>
  zb1 (if v16 = 0 then (
  zb1 (gX12_isSky M6 1 x5_10) fun v23 =>
  if v23 = 0 then (
  some (x4_9 + 1))
  else (
  gX12_weather_b95))
  else (
  gX12_weather_b95) : Option (Int32)) fun (s17 : Int32) =>
  zb1 (gX12_greater x3_8 s17) fun v21 =>
  F11 v21 s17 (x5_10 + 1))
noncomputable def gX12_weather (M : zMS) (x1 : Int32) (x2 : Int32) : Option (Int32 × zMS) :=
  zb1 (some (zsI M 0 0)) fun M1 =>
  zb1 (gX12_in x2 (-1) 99) fun v4 =>
  if v4 = 0 then (
  some ((-1), M1))
  else (
  zb2 (gX12_hand M1 x1) fun v7 M6 =>
  if v7 = 0 then (
  some ((-1), M6))
  else (
  if x2 = (-1) then (
  zb1 (zf3 (gX12_weather_l68 M6) zfu 0 0 0 : Option (Int32)) fun (x3_13 : Int32) =>
  some (x3_13, M6))
  else (
  zb1 (gX12_isSky M6 0 x2) fun v26 =>
  zb1 (if v26 = 0 then (
  some 0)
  else (
  some 1) : Option (Int32)) fun (s27 : Int32) =>
  zb1 (gX12_isSky M6 1 x2) fun v30 =>
  zb1 (if v30 = 0 then (
  some 0)
  else (
  some 2) : Option (Int32)) fun (s31 : Int32) =>
  some (s27 + s31, M6))))
set_option maxRecDepth 100000 in
theorem eX12_weather_b95     : fX12_weather_b95  = gX12_weather_b95  := by simp only [fX12_weather_b95, gX12_weather_b95, zgd_t, zmap_ite, zmap_some, zmap_none, zmap_zb0, zmap_zni, zq2_k, zq3_k, zq4_k, zq5_k, zzb1_q, zzb2_q, zzb3_q, zzb4_q, zzb5_q, zmap_zb1, zmap_zb2, zmap_zb3, zmap_zb4, zmap_zb5, zmap_zb6, zmap_zc1, zmap_zc2, zmap_zc3, zmap_zc4, md_ck, md_p0, eX12_greater, eX12_hand, eX12_in, eX12_isSky]
set_option maxRecDepth 100000 in
theorem eX12_weather_l68 {ν : zM} {Y : Nat} {m6 : zMS} {x3_8 : Int32} {x4_9 : Int32} {x5_10 : Int32}   (n : Nat) : zf3 (fX12_weather_l68 (mdl ν Y m6) Y) n x3_8 x4_9 x5_10 = zf3 (gX12_weather_l68 m6) n x3_8 x4_9 x5_10 := by
  refine zf3_c (fun F11 G11 hF11 x3_8 x4_9 x5_10 => ?_) n x3_8 x4_9 x5_10
  simp only [fX12_weather_l68, gX12_weather_l68, zgd_t, zmap_ite, zmap_some, zmap_none, zmap_zb0, zmap_zni, zq2_k, zq3_k, zq4_k, zq5_k, zzb1_q, zzb2_q, zzb3_q, zzb4_q, zzb5_q, zmap_zb1, zmap_zb2, zmap_zb3, zmap_zb4, zmap_zb5, zmap_zb6, zmap_zc1, zmap_zc2, zmap_zc3, zmap_zc4, md_ck, md_p0, eX12_greater, eX12_hand, eX12_in, eX12_isSky, eX12_weather_b95, hF11]
set_option maxRecDepth 100000 in
theorem eX12_weather {ν : zM} {Y : Nat} {M : zMS} {x1 : Int32} {x2 : Int32}  : fX12_weather (mdl ν Y M) Y x1 x2 = Option.map (zq2 (mdl ν Y)) (gX12_weather M x1 x2) := by simp only [fX12_weather, gX12_weather, zgd_t, zmap_ite, zmap_some, zmap_none, zmap_zb0, zmap_zni, zq2_k, zq3_k, zq4_k, zq5_k, zzb1_q, zzb2_q, zzb3_q, zzb4_q, zzb5_q, zmap_zb1, zmap_zb2, zmap_zb3, zmap_zb4, zmap_zb5, zmap_zb6, zmap_zc1, zmap_zc2, zmap_zc3, zmap_zc4, md_ck, md_p0, eX12_greater, eX12_hand, eX12_in, eX12_isSky, eX12_weather_b95, eX12_weather_l68]
noncomputable def gX12_isNearer (M : zMS) (x1 : Int32) (x2 : Int32) (x3 : Int32) : Option (Int32) :=
  zb1 (gX12_of M (33 + x1)) fun v2 =>
  zb1 (gX12_of M (33 + x2)) fun v4 =>
  zb1 (gX12_apart v2 v4) fun v6 =>
  zb1 (if x3 = (-1) then (
  some 1000000)
  else (
  zb1 (gX12_of M (33 + x1)) fun v14 =>
  zb1 (gX12_of M (33 + x3)) fun v16 =>
  zb1 (gX12_apart v14 v16) fun v18 =>
  some v18) : Option (Int32)) fun (s7 : Int32) =>
  zb1 (if v6 < s7 then (
  some 1)
  else (
  if v6 = s7 then (
  if x3 ≤ x2 then (
  some 0)
  else (
  some 1))
  else (
  some 0)) : Option (Int32)) fun (s9 : Int32) =>
  zb1 (zbz s9) fun v11 =>
  some v11
set_option maxRecDepth 100000 in
theorem eX12_isNearer {ν : zM} {Y : Nat} {M : zMS} {x1 : Int32} {x2 : Int32} {x3 : Int32}  : fX12_isNearer (mdl ν Y M) Y x1 x2 x3 = gX12_isNearer M x1 x2 x3 := by simp only [fX12_isNearer, gX12_isNearer, zgd_t, zmap_ite, zmap_some, zmap_none, zmap_zb0, zmap_zni, zq2_k, zq3_k, zq4_k, zq5_k, zzb1_q, zzb2_q, zzb3_q, zzb4_q, zzb5_q, zmap_zb1, zmap_zb2, zmap_zb3, zmap_zb4, zmap_zb5, zmap_zb6, zmap_zc1, zmap_zc2, zmap_zc3, zmap_zc4, md_ck, eX12_apart, eX12_of]
noncomputable def gX12_nextFor_l4 (M : zMS) (x1 : Int32) (F3 : Int32 → Int32 → Option (Int32)) (x2_1 : Int32) (x3_2 : Int32) : Option (Int32) :=
  if (M.1 25) ≤ x3_2 then (
  some x2_1)
  else (
  zb1 (gX12_isKind M x3_2 1) fun v10 =>
  zb1 (if v10 = 0 then (
  some x2_1)
  else (
  zb1 (zag 6 (M.2.2 52) x1) fun v15 =>
  zb1 (gX12_has v15 x3_2) fun v18 =>
  if v18 = 0 then (
  zb1 (gX12_isNearer M x1 x3_2 x2_1) fun v20 =>
  if v20 = 0 then (
  some x2_1)
  else (
  some x3_2))
  else (
  some x2_1)) : Option (Int32)) fun (s11 : Int32) =>
  F3 s11 (x3_2 + 1))
noncomputable def gX12_nextFor (M : zMS) (x1 : Int32) : Option (Int32) :=
  zb1 (zf2 (gX12_nextFor_l4 M x1) zfu (-1) 0 : Option (Int32)) fun (x2_5 : Int32) =>
  some x2_5
set_option maxRecDepth 100000 in
theorem eX12_nextFor_l4 {ν : zM} {Y : Nat} {M : zMS} {x1 : Int32} {x2_1 : Int32} {x3_2 : Int32}   (n : Nat) : zf2 (fX12_nextFor_l4 (mdl ν Y M) Y x1) n x2_1 x3_2 = zf2 (gX12_nextFor_l4 M x1) n x2_1 x3_2 := by
  refine zf2_c (fun F3 G3 hF3 x2_1 x3_2 => ?_) n x2_1 x3_2
  simp only [fX12_nextFor_l4, gX12_nextFor_l4, zgd_t, zmap_ite, zmap_some, zmap_none, zmap_zb0, zmap_zni, zq2_k, zq3_k, zq4_k, zq5_k, zzb1_q, zzb2_q, zzb3_q, zzb4_q, zzb5_q, zmap_zb1, zmap_zb2, zmap_zb3, zmap_zb4, zmap_zb5, zmap_zb6, zmap_zc1, zmap_zc2, zmap_zc3, zmap_zc4, md_ck, md_g25, md_g52, md_a52, md_s52, eX12_has, eX12_isKind, eX12_isNearer, hF3]
set_option maxRecDepth 100000 in
theorem eX12_nextFor {ν : zM} {Y : Nat} {M : zMS} {x1 : Int32}  : fX12_nextFor (mdl ν Y M) Y x1 = gX12_nextFor M x1 := by simp only [fX12_nextFor, gX12_nextFor, zgd_t, zmap_ite, zmap_some, zmap_none, zmap_zb0, zmap_zni, zq2_k, zq3_k, zq4_k, zq5_k, zzb1_q, zzb2_q, zzb3_q, zzb4_q, zzb5_q, zmap_zb1, zmap_zb2, zmap_zb3, zmap_zb4, zmap_zb5, zmap_zb6, zmap_zc1, zmap_zc2, zmap_zc3, zmap_zc4, md_ck, md_g25, md_g52, md_a52, md_s52, eX12_has, eX12_isKind, eX12_isNearer, eX12_nextFor_l4]
