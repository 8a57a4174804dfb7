noncomputable def gX12_in  (x0 : Int32) (x1 : Int32) (x2 : Int32) : Option (Int32) :=
  zb1 (if x0 < x1 then (
  some 0)
  else (
  if x2 < x0 then (
  some 0)
  else (
  some 1)) : Option (Int32)) fun (s1 : Int32) =>
  zb1 (zbz s1) fun v3 =>
  some v3
set_option maxRecDepth 100000 in
theorem eX12_in {μ : zM} {x0 : Int32} {x1 : Int32} {x2 : Int32} : fX12_in μ x0 x1 x2 = gX12_in x0 x1 x2 := by simp only [fX12_in, gX12_in, zgd_t, zmap_ite, zmap_some, zmap_none, zmap_zb0, zmap_zni, zq2_k, zq3_k, zq4_k, zq5_k, zzb1_q, zzb2_q, zzb3_q, zzb4_q, zzb5_q, zmap_zb1, zmap_zb2, zmap_zb3, zmap_zb4, zmap_zb5, zmap_zb6, zmap_zc1, zmap_zc2, zmap_zc3, zmap_zc4, md_ck]
noncomputable def gX12_has  (x0 : Int32) (x1 : Int32) : Option (Int32) :=
  zb1 (if ((x0 >>> (x1 &&& 31)) &&& 1) = 1 then (
  some 1)
  else (
  some 0) : Option (Int32)) fun (s1 : Int32) =>
  zb1 (zbz s1) fun v3 =>
  some v3
set_option maxRecDepth 100000 in
theorem eX12_has {μ : zM} {x0 : Int32} {x1 : Int32} : fX12_has μ x0 x1 = gX12_has x0 x1 := by simp only [fX12_has, gX12_has, zgd_t, zmap_ite, zmap_some, zmap_none, zmap_zb0, zmap_zni, zq2_k, zq3_k, zq4_k, zq5_k, zzb1_q, zzb2_q, zzb3_q, zzb4_q, zzb5_q, zmap_zb1, zmap_zb2, zmap_zb3, zmap_zb4, zmap_zb5, zmap_zb6, zmap_zc1, zmap_zc2, zmap_zc3, zmap_zc4, md_ck]
noncomputable def gX12_greater  (x0 : Int32) (x1 : Int32) : Option (Int32) :=
  zb1 (if x0 ≤ x1 then (
  some x1)
  else (
  some x0) : Option (Int32)) fun (s1 : Int32) =>
  some s1
set_option maxRecDepth 100000 in
theorem eX12_greater {μ : zM} {x0 : Int32} {x1 : Int32} : fX12_greater μ x0 x1 = gX12_greater x0 x1 := by simp only [fX12_greater, gX12_greater, zgd_t, zmap_ite, zmap_some, zmap_none, zmap_zb0, zmap_zni, zq2_k, zq3_k, zq4_k, zq5_k, zzb1_q, zzb2_q, zzb3_q, zzb4_q, zzb5_q, zmap_zb1, zmap_zb2, zmap_zb3, zmap_zb4, zmap_zb5, zmap_zb6, zmap_zc1, zmap_zc2, zmap_zc3, zmap_zc4, md_ck]
noncomputable def gX12_lesser  (x0 : Int32) (x1 : Int32) : Option (Int32) :=
  zb1 (if x1 ≤ x0 then (
  some x1)
  else (
  some x0) : Option (Int32)) fun (s1 : Int32) =>
  some s1
set_option maxRecDepth 100000 in
theorem eX12_lesser {μ : zM} {x0 : Int32} {x1 : Int32} : fX12_lesser μ x0 x1 = gX12_lesser x0 x1 := by simp only [fX12_lesser, gX12_lesser, zgd_t, zmap_ite, zmap_some, zmap_none, zmap_zb0, zmap_zni, zq2_k, zq3_k, zq4_k, zq5_k, zzb1_q, zzb2_q, zzb3_q, zzb4_q, zzb5_q, zmap_zb1, zmap_zb2, zmap_zb3, zmap_zb4, zmap_zb5, zmap_zb6, zmap_zc1, zmap_zc2, zmap_zc3, zmap_zc4, md_ck]
noncomputable def gX12_apart  (x0 : Int32) (x1 : Int32) : Option (Int32) :=
  zb1 (if x1 ≤ x0 then (
  some (x0 - x1))
  else (
  some (x1 - x0)) : Option (Int32)) fun (s1 : Int32) =>
  some s1
set_option maxRecDepth 100000 in
theorem eX12_apart {μ : zM} {x0 : Int32} {x1 : Int32} : fX12_apart μ x0 x1 = gX12_apart x0 x1 := by simp only [fX12_apart, gX12_apart, zgd_t, zmap_ite, zmap_some, zmap_none, zmap_zb0, zmap_zni, zq2_k, zq3_k, zq4_k, zq5_k, zzb1_q, zzb2_q, zzb3_q, zzb4_q, zzb5_q, zmap_zb1, zmap_zb2, zmap_zb3, zmap_zb4, zmap_zb5, zmap_zb6, zmap_zc1, zmap_zc2, zmap_zc3, zmap_zc4, md_ck]
noncomputable def gX12_copyRow_l3 (x1 : Int32) (x0 : Nat) (x2 : Int32) (x3 : Int32) (F3 : Int32 → zMS → Option (zMS)) (x4_1 : Int32) (m2 : zMS) : Option (zMS) :=
  if x1 ≤ x4_1 then (
  some m2)
  else (
  zb1 (zag (mln x0) (m2.2.2 x0) ((x1 * x2) + x4_1)) fun v7 =>
  zb1 (zas (mln x0) (m2.2.2 x0) ((x1 * x3) + x4_1) v7) fun f9 =>
  zb1 (some (zsA m2 x0 f9)) fun M9 =>
  F3 (x4_1 + 1) M9)
noncomputable def gX12_copyRow (M : zMS) (x0 : Nat) (x1 : Int32) (x2 : Int32) (x3 : Int32) : Option (zMS) :=
  zb1 (zf2 (gX12_copyRow_l3 x1 x0 x2 x3) zfu 0 M : Option (zMS)) fun (m5 : zMS) =>
  some m5
set_option maxRecDepth 100000 in
theorem eX12_copyRow_l3 {ν : zM} {Y : Nat} {x1 : Int32} {x0 : Nat} {x2 : Int32} {x3 : Int32} {x4_1 : Int32} {m2 : zMS}  (hkx0 : mia x0 = true) (n : Nat) : zf2 (fX12_copyRow_l3 x1 (Y + mof x0) x2 x3) n x4_1 (mdl ν Y m2) = Option.map (mdl ν Y) (zf2 (gX12_copyRow_l3 x1 x0 x2 x3) n x4_1 m2) := by
  refine zf2_m (fun F3 G3 hF3 x4_1 m2 => ?_) n x4_1 m2
  simp only [fX12_copyRow_l3, gX12_copyRow_l3, zgd_t, zmap_ite, zmap_some, zmap_none, zmap_zb0, zmap_zni, zq2_k, zq3_k, zq4_k, zq5_k, zzb1_q, zzb2_q, zzb3_q, zzb4_q, zzb5_q, zmap_zb1, zmap_zb2, zmap_zb3, zmap_zb4, zmap_zb5, zmap_zb6, zmap_zc1, zmap_zc2, zmap_zc3, zmap_zc4, md_ck, md_aG hkx0, md_sG hkx0, hF3]
set_option maxRecDepth 100000 in
theorem eX12_copyRow {ν : zM} {Y : Nat} {M : zMS} {x0 : Nat} {x1 : Int32} {x2 : Int32} {x3 : Int32} (hkx0 : mia x0 = true) : fX12_copyRow (mdl ν Y M) (Y + mof x0) x1 x2 x3 = Option.map (mdl ν Y) (gX12_copyRow M x0 x1 x2 x3) := by simp only [fX12_copyRow, gX12_copyRow, zgd_t, zmap_ite, zmap_some, zmap_none, zmap_zb0, zmap_zni, zq2_k, zq3_k, zq4_k, zq5_k, zzb1_q, zzb2_q, zzb3_q, zzb4_q, zzb5_q, zmap_zb1, zmap_zb2, zmap_zb3, zmap_zb4, zmap_zb5, zmap_zb6, zmap_zc1, zmap_zc2, zmap_zc3, zmap_zc4, md_ck, (eX12_copyRow_l3 hkx0), md_aG hkx0, md_sG hkx0]
set_option maxRecDepth 100000 in
theorem eX12_copyRow_2 {ν : zM} {Y : Nat} {M : zMS} {x1 x2 x3 : Int32} : fX12_copyRow (mdl ν Y M) (Y + 2) x1 x2 x3 = Option.map (mdl ν Y) (gX12_copyRow M 2 x1 x2 x3) := eX12_copyRow (x0 := 2) rfl
set_option maxRecDepth 100000 in
theorem eX12_copyRow_3 {ν : zM} {Y : Nat} {M : zMS} {x1 x2 x3 : Int32} : fX12_copyRow (mdl ν Y M) (Y + 3) x1 x2 x3 = Option.map (mdl ν Y) (gX12_copyRow M 3 x1 x2 x3) := eX12_copyRow (x0 := 3) rfl
set_option maxRecDepth 100000 in
theorem eX12_copyRow_4 {ν : zM} {Y : Nat} {M : zMS} {x1 x2 x3 : Int32} : fX12_copyRow (mdl ν Y M) (Y + 4) x1 x2 x3 = Option.map (mdl ν Y) (gX12_copyRow M 4 x1 x2 x3) := eX12_copyRow (x0 := 4) rfl
set_option maxRecDepth 100000 in
theorem eX12_copyRow_5 {ν : zM} {Y : Nat} {M : zMS} {x1 x2 x3 : Int32} : fX12_copyRow (mdl ν Y M) (Y + 5) x1 x2 x3 = Option.map (mdl ν Y) (gX12_copyRow M 5 x1 x2 x3) := eX12_copyRow (x0 := 5) rfl
set_option maxRecDepth 100000 in
theorem eX12_copyRow_6 {ν : zM} {Y : Nat} {M : zMS} {x1 x2 x3 : Int32} : fX12_copyRow (mdl ν Y M) (Y + 6) x1 x2 x3 = Option.map (mdl ν Y) (gX12_copyRow M 6 x1 x2 x3) := eX12_copyRow (x0 := 6) rfl
set_option maxRecDepth 100000 in
theorem eX12_copyRow_7 {ν : zM} {Y : Nat} {M : zMS} {x1 x2 x3 : Int32} : fX12_copyRow (mdl ν Y M) (Y + 7) x1 x2 x3 = Option.map (mdl ν Y) (gX12_copyRow M 7 x1 x2 x3) := eX12_copyRow (x0 := 7) rfl
set_option maxRecDepth 100000 in
theorem eX12_copyRow_8 {ν : zM} {Y : Nat} {M : zMS} {x1 x2 x3 : Int32} : fX12_copyRow (mdl ν Y M) (Y + 8) x1 x2 x3 = Option.map (mdl ν Y) (gX12_copyRow M 8 x1 x2 x3) := eX12_copyRow (x0 := 8) rfl
set_option maxRecDepth 100000 in
theorem eX12_copyRow_9 {ν : zM} {Y : Nat} {M : zMS} {x1 x2 x3 : Int32} : fX12_copyRow (mdl ν Y M) (Y + 9) x1 x2 x3 = Option.map (mdl ν Y) (gX12_copyRow M 9 x1 x2 x3) := eX12_copyRow (x0 := 9) rfl
noncomputable def gX12_copyAll_l2 (x1 : Int32) (x2 : Int32) (F3 : Int32 → zMS → Option (zMS)) (x3_1 : Int32) (m2 : zMS) : Option (zMS) :=
  if 600 ≤ x3_1 then (
  some m2)
  else (
  zb1 (zag 2400 (m2.2.2 1) ((600 * x1) + x3_1)) fun v11 =>
  zb1 (zas 2400 (m2.2.2 1) ((600 * x2) + x3_1) (vp_nar .byte v11)) fun f13 =>
  zb1 (some (zsA m2 1 f13)) fun M13 =>
  F3 (x3_1 + 1) M13)
noncomputable def gX12_copyAll (M : zMS) (x1 : Int32) (x2 : Int32) : Option (zMS) :=
  zb1 (zf2 (gX12_copyAll_l2 x1 x2) zfu 0 M : Option (zMS)) fun (m5 : zMS) =>
  zb1 (gX12_copyRow m5 2 1 x1 x2) fun M19 =>
  zb1 (gX12_copyRow M19 3 1 x1 x2) fun M23 =>
  zb1 (gX12_copyRow M23 4 1 x1 x2) fun M27 =>
  zb1 (gX12_copyRow M27 5 4 x1 x2) fun M31 =>
  zb1 (gX12_copyRow M31 6 114 x1 x2) fun M35 =>
  zb1 (gX12_copyRow M35 7 242 x1 x2) fun M39 =>
  zb1 (gX12_copyRow M39 8 44 x1 x2) fun M43 =>
  zb1 (gX12_copyRow M43 9 66 x1 x2) fun M47 =>
  some M47
set_option maxRecDepth 100000 in
theorem eX12_copyAll_l2 {ν : zM} {Y : Nat} {x1 : Int32} {x2 : Int32} {x3_1 : Int32} {m2 : zMS}   (n : Nat) : zf2 (fX12_copyAll_l2 Y x1 x2) n x3_1 (mdl ν Y m2) = Option.map (mdl ν Y) (zf2 (gX12_copyAll_l2 x1 x2) n x3_1 m2) := by
  refine zf2_m (fun F3 G3 hF3 x3_1 m2 => ?_) n x3_1 m2
  simp only [fX12_copyAll_l2, gX12_copyAll_l2, zgd_t, zmap_ite, zmap_some, zmap_none, zmap_zb0, zmap_zni, zq2_k, zq3_k, zq4_k, zq5_k, zzb1_q, zzb2_q, zzb3_q, zzb4_q, zzb5_q, zmap_zb1, zmap_zb2, zmap_zb3, zmap_zb4, zmap_zb5, zmap_zb6, zmap_zc1, zmap_zc2, zmap_zc3, zmap_zc4, md_ck, md_g1, md_g2, md_g3, md_g4, md_g5, md_g6, md_g7, md_g8, md_g9, md_a1, md_s1, md_a2, md_s2, md_a3, md_s3, md_a4, md_s4, md_a5, md_s5, md_a6, md_s6, md_a7, md_s7, md_a8, md_s8, md_a9, md_s9, eX12_copyRow_2, eX12_copyRow_3, eX12_copyRow_4, eX12_copyRow_5, eX12_copyRow_6, eX12_copyRow_7, eX12_copyRow_8, eX12_copyRow_9, hF3]
set_option maxRecDepth 100000 in
theorem eX12_copyAll {ν : zM} {Y : Nat} {M : zMS} {x1 : Int32} {x2 : Int32}  : fX12_copyAll (mdl ν Y M) Y x1 x2 = Option.map (mdl ν Y) (gX12_copyAll M x1 x2) := by simp only [fX12_copyAll, gX12_copyAll, zgd_t, zmap_ite, zmap_some, zmap_none, zmap_zb0, zmap_zni, zq2_k, zq3_k, zq4_k, zq5_k, zzb1_q, zzb2_q, zzb3_q, zzb4_q, zzb5_q, zmap_zb1, zmap_zb2, zmap_zb3, zmap_zb4, zmap_zb5, zmap_zb6, zmap_zc1, zmap_zc2, zmap_zc3, zmap_zc4, md_ck, md_g1, md_g2, md_g3, md_g4, md_g5, md_g6, md_g7, md_g8, md_g9, md_a1, md_s1, md_a2, md_s2, md_a3, md_s3, md_a4, md_s4, md_a5, md_s5, md_a6, md_s6, md_a7, md_s7, md_a8, md_s8, md_a9, md_s9, eX12_copyRow_2, eX12_copyRow_3, eX12_copyRow_4, eX12_copyRow_5, eX12_copyRow_6, eX12_copyRow_7, eX12_copyRow_8, eX12_copyRow_9, eX12_copyAll_l2]
noncomputable def gX12_is (M : zMS) (x1 : Int32) (x2 : Int32) : Option (Int32) :=
  zb1 (zag 16 (M.2.2 5) x1) fun v3 =>
  zb1 (gX12_in x2 0 (v3 - 1)) fun v6 =>
  zb1 (zbz v6) fun v7 =>
  some v7
set_option maxRecDepth 100000 in
theorem eX12_is {ν : zM} {Y : Nat} {M : zMS} {x1 : Int32} {x2 : Int32}  : fX12_is (mdl ν Y M) Y x1 x2 = gX12_is M x1 x2 := by simp only [fX12_is, gX12_is, zgd_t, zmap_ite, zmap_some, zmap_none, zmap_zb0, zmap_zni, zq2_k, zq3_k, zq4_k, zq5_k, zzb1_q, zzb2_q, zzb3_q, zzb4_q, zzb5_q, zmap_zb1, zmap_zb2, zmap_zb3, zmap_zb4, zmap_zb5, zmap_zb6, zmap_zc1, zmap_zc2, zmap_zc3, zmap_zc4, md_ck, md_g5, md_a5, md_s5, eX12_in]
noncomputable def gX12_four_l3 (x1 : Int32) (F3 : Int32 → zMS → Option (zMS)) (x2_1 : Int32) (m2 : zMS) : Option (zMS) :=
  if x2_1 < 0 then (
  some m2)
  else (
  zb1 (zag 4 (m2.2.2 2) 0) fun v11 =>
  zb1 (zas 2400 (m2.2.2 1) v11 (vp_nar .byte ((x1 >>> (x2_1 &&& 31) : Int32).toInt8.toInt32))) fun f13 =>
  zb1 (some (zsA m2 1 f13)) fun M13 =>
  zb1 (zag 4 (M13.2.2 2) 0) fun v17 =>
  zb1 (zas 4 (M13.2.2 2) 0 (v17 + 1)) fun f19 =>
  zb1 (some (zsA M13 2 f19)) fun M19 =>
  F3 (x2_1 + (-8)) M19)
noncomputable def gX12_four (M : zMS) (x1 : Int32) : Option (zMS) :=
  zb1 (zf2 (gX12_four_l3 x1) zfu 24 M : Option (zMS)) fun (m5 : zMS) =>
  some m5
set_option maxRecDepth 100000 in
theorem eX12_four_l3 {ν : zM} {Y : Nat} {x1 : Int32} {x2_1 : Int32} {m2 : zMS}   (n : Nat) : zf2 (fX12_four_l3 Y x1) n x2_1 (mdl ν Y m2) = Option.map (mdl ν Y) (zf2 (gX12_four_l3 x1) n x2_1 m2) := by
  refine zf2_m (fun F3 G3 hF3 x2_1 m2 => ?_) n x2_1 m2
  simp only [fX12_four_l3, gX12_four_l3, zgd_t, zmap_ite, zmap_some, zmap_none, zmap_zb0, zmap_zni, zq2_k, zq3_k, zq4_k, zq5_k, zzb1_q, zzb2_q, zzb3_q, zzb4_q, zzb5_q, zmap_zb1, zmap_zb2, zmap_zb3, zmap_zb4, zmap_zb5, zmap_zb6, zmap_zc1, zmap_zc2, zmap_zc3, zmap_zc4, md_ck, md_g1, md_g2, md_a1, md_s1, md_a2, md_s2, hF3]
set_option maxRecDepth 100000 in
theorem eX12_four {ν : zM} {Y : Nat} {M : zMS} {x1 : Int32}  : fX12_four (mdl ν Y M) Y x1 = Option.map (mdl ν Y) (gX12_four M x1) := by simp only [fX12_four, gX12_four, zgd_t, zmap_ite, zmap_some, zmap_none, zmap_zb0, zmap_zni, zq2_k, zq3_k, zq4_k, zq5_k, zzb1_q, zzb2_q, zzb3_q, zzb4_q, zzb5_q, zmap_zb1, zmap_zb2, zmap_zb3, zmap_zb4, zmap_zb5, zmap_zb6, zmap_zc1, zmap_zc2, zmap_zc3, zmap_zc4, md_ck, md_g1, md_g2, md_a1, md_s1, md_a2, md_s2, eX12_four_l3]
noncomputable def gX12_feed (M : zMS) (x1 : Int32) (x2 : Int32) (x3 : Int32) (x4 : Int32) (x5 : Int32) : Option (Int32 × zMS) :=
  zb1 (some (zsI M 0 0)) fun M1 =>
  zb1 (zag 4 (M1.2.2 2) 0) fun v5 =>
  if (v5 + 20) ≤ 600 then (
  zb1 (gX12_four M1 x1) fun M8 =>
  zb1 (gX12_four M8 x2) fun M10 =>
  zb1 (gX12_four M10 x3) fun M12 =>
  zb1 (gX12_four M12 x4) fun M14 =>
  zb1 (gX12_four M14 x5) fun M16 =>
  zb1 (zag 4 (M16.2.2 2) 0) fun v19 =>
  some (v19, M16))
  else (
  some ((-1), M1))
set_option maxRecDepth 100000 in
theorem eX12_feed {ν : zM} {Y : Nat} {M : zMS} {x1 : Int32} {x2 : Int32} {x3 : Int32} {x4 : Int32} {x5 : Int32}  : fX12_feed (mdl ν Y M) Y x1 x2 x3 x4 x5 = Option.map (zq2 (mdl ν Y)) (gX12_feed M x1 x2 x3 x4 x5) := by simp only [fX12_feed, gX12_feed, zgd_t, zmap_ite, zmap_some, zmap_none, zmap_zb0, zmap_zni, zq2_k, zq3_k, zq4_k, zq5_k, zzb1_q, zzb2_q, zzb3_q, zzb4_q, zzb5_q, zmap_zb1, zmap_zb2, zmap_zb3, zmap_zb4, zmap_zb5, zmap_zb6, zmap_zc1, zmap_zc2, zmap_zc3, zmap_zc4, md_ck, md_g2, md_p0, md_a2, md_s2, eX12_four]
noncomputable def gX12_end (M : zMS) (x1 : Int32) : Option (Int32 × zMS) :=
  zb1 (some (zsI M 0 0)) fun M1 =>
  zb1 (zag 4 (M1.2.2 2) 0) fun v5 =>
  zb1 (gX12_in x1 0 v5) fun v8 =>
  if v8 = 0 then (
  some ((-1), M1))
  else (
  zb1 (zas 4 (M1.2.2 2) 0 x1) fun f11 =>
  zb1 (some (zsA M1 2 f11)) fun M11 =>
  some (x1, M11))
set_option maxRecDepth 100000 in
theorem eX12_end {ν : zM} {Y : Nat} {M : zMS} {x1 : Int32}  : fX12_end (mdl ν Y M) Y x1 = Option.map (zq2 (mdl ν Y)) (gX12_end M x1) := by simp only [fX12_end, gX12_end, zgd_t, zmap_ite, zmap_some, zmap_none, zmap_zb0, zmap_zni, zq2_k, zq3_k, zq4_k, zq5_k, zzb1_q, zzb2_q, zzb3_q, zzb4_q, zzb5_q, zmap_zb1, zmap_zb2, zmap_zb3, zmap_zb4, zmap_zb5, zmap_zb6, zmap_zc1, zmap_zc2, zmap_zc3, zmap_zc4, md_ck, md_g2, md_p0, md_a2, md_s2, eX12_in]
noncomputable def gX12_see (M : zMS)  : Option (Int32) :=
  zb1 (if (M.1 11) ≤ (M.1 10) then (
  some (-1))
  else (
  zb1 (zag 2400 (M.2.2 1) (M.1 10)) fun v11 =>
  some (v11 &&& 255)) : Option (Int32)) fun (s5 : Int32) =>
  some s5
set_option maxRecDepth 100000 in
theorem eX12_see {ν : zM} {Y : Nat} {M : zMS}   : fX12_see (mdl ν Y M) Y = gX12_see M  := by simp only [fX12_see, gX12_see, zgd_t, zmap_ite, zmap_some, zmap_none, zmap_zb0, zmap_zni, zq2_k, zq3_k, zq4_k, zq5_k, zzb1_q, zzb2_q, zzb3_q, zzb4_q, zzb5_q, zmap_zb1, zmap_zb2, zmap_zb3, zmap_zb4, zmap_zb5, zmap_zb6, zmap_zc1, zmap_zc2, zmap_zc3, zmap_zc4, md_ck, md_g1, md_g10, md_g11, md_a1, md_s1]
noncomputable def gX12_token_b18 (m1 : zMS) (F2 : zMS → Option (zMS)) : Option (zMS) :=
  zb1 (some (zsI m1 10 ((m1.1 10) + 1))) fun M10 =>
  F2 M10
noncomputable def gX12_token_l0  (F2 : zMS → Option (zMS)) (m1 : zMS) : Option (zMS) :=
  zb1 (gX12_see m1) fun v7 =>
  if v7 = 10 then (
  gX12_token_b18 m1 F2)
  else (
  zb1 (gX12_see m1) fun v14 =>
  if v14 = 32 then (
  gX12_token_b18 m1 F2)
  else (
  some m1))
noncomputable def gX12_token_l163  (F42 : Int32 → zMS → Option (Int32 × zMS)) (x2_40 : Int32) (m41 : zMS) : Option (Int32 × zMS) :=
  zb1 (gX12_see m41) fun v48 =>
  zb1 (gX12_in v48 48 57) fun v50 =>
  if v50 = 0 then (
  some (x2_40, m41))
  else (
  zb1 (if 2 ≤ x2_40 then (
  some (m41.1 14))
  else (
  zb1 (gX12_see m41) fun v64 =>
  some (((10 * (m41.1 14)) + v64) - 48)) : Option (Int32)) fun (s51 : Int32) =>
  zb1 (some (zsI m41 14 s51)) fun M53 =>
  zb1 (some (zsI M53 10 ((M53.1 10) + 1))) fun M57 =>
  F42 (x2_40 + 1) M57)
noncomputable def gX12_token_l74  (F72 : Int32 → zMS → Option (Int32 × zMS)) (x2_70 : Int32) (m71 : zMS) : Option (Int32 × zMS) :=
  zb1 (gX12_see m71) fun v78 =>
  zb1 (gX12_in v78 97 122) fun v80 =>
  if v80 = 0 then (
  some (x2_70, m71))
  else (
  zb1 (gX12_see m71) fun v84 =>
  zb1 (some (zsL m71 15 (((m71.2.1 15) <<< ((8 : Int32).toInt64 &&& 63)) ||| ((v84 : Int32).toInt64)))) fun M85 =>
  zb1 (some (zsI M85 10 ((M85.1 10) + 1))) fun M89 =>
  F72 (x2_70 + 1) M89)
noncomputable def gX12_token (M : zMS)  : Option (zMS) :=
  zb1 (zf1 gX12_token_l0 zfu M : Option (zMS)) fun (m4 : zMS) =>
  zb1 (some (zsI m4 12 (m4.1 10))) fun M18 =>
  zb1 (gX12_see M18) fun v21 =>
  zb1 (some (zsL M18 15 0)) fun M22 =>
  zc1 (if 0 ≤ v21 then (
  zb1 (gX12_in v21 97 122) fun v27 =>
  if v27 = 0 then (
  zb1 (gX12_in v21 48 57) fun v29 =>
  if v29 = 0 then (
  zb1 (some (zsI M22 10 ((M22.1 10) + 1))) fun M32 =>
  zb1 (if v21 = 59 then (
  some 4)
  else (
  some 1) : Option (Int32)) fun (s34 : Int32) =>
  zb1 (some (zsI M32 13 s34)) fun M36 =>
  some M36)
  else (
  zb1 (some (zsI M22 14 0)) fun M38 =>
  zb2 (zf2 gX12_token_l163 zfu 0 M38 : Option (Int32 × zMS)) fun (x2_44 : Int32) (m45 : zMS) =>
  zb1 (if x2_44 ≤ 2 then (
  some 3)
  else (
  some 1) : Option (Int32)) fun (s66 : Int32) =>
  zb1 (some (zsI m45 13 s66)) fun M68 =>
  some M68))
  else (
  zb2 (zf2 gX12_token_l74 zfu 0 M22 : Option (Int32 × zMS)) fun (x2_74 : Int32) (m75 : zMS) =>
  zb1 (if x2_74 ≤ 8 then (
  some (m75.2.1 15))
  else (
  some 0) : Option (Int64)) fun (s92 : Int64) =>
  zb1 (some (zsL m75 15 s92)) fun M94 =>
  zb1 (some (zsI M94 13 2)) fun M96 =>
  some M96))
  else (
  zb1 (some (zsI M22 13 0)) fun M100 =>
  some M100) : Option (zMS)) fun (m24 : zMS) =>
  some m24
set_option maxRecDepth 100000 in
theorem eX12_token_b18 {ν : zM} {Y : Nat} {m1 : zMS} {F2 : zM → Option (zM)} {G2 : zMS → Option (zMS)} (hF2 : ∀ (m1 : zMS), F2 (mdl ν Y m1) = Option.map (mdl ν Y) (G2 m1))  : fX12_token_b18 (mdl ν Y m1) Y F2  = Option.map (mdl ν Y) (gX12_token_b18 m1 G2 ) := by simp only [fX12_token_b18, gX12_token_b18, zgd_t, zmap_ite, zmap_some, zmap_none, zmap_zb0, zmap_zni, zq2_k, zq3_k, zq4_k, zq5_k, zzc1_some, zzc2_some, zzc3_some, zzc4_some, zzc5_some, zzc6_some, zzb1_q, zzb2_q, zzb3_q, zzb4_q, zzb5_q, zzc1_q, zzc2_q, zzc3_q, zzc4_q, zzc5_q, zmap_zb1, zmap_zb2, zmap_zb3, zmap_zb4, zmap_zb5, zmap_zb6, zzc1_ite, zzc2_ite, zzc3_ite, zzc4_ite, zmap_zc1, zmap_zc2, zmap_zc3, zmap_zc4, zzc1_zb0, zzc1_zb1, zzc1_zb2, zzc1_zb3, zzc1_zb4, zzc2_zb0, zzc2_zb1, zzc2_zb2, zzc2_zb3, zzc2_zb4, zzc3_zb0, zzc3_zb1, zzc3_zb2, zzc3_zb3, zzc3_zb4, zzc4_zb0, zzc4_zb1, zzc4_zb2, zzc4_zb3, zzc4_zb4, md_ck, md_g10, md_g14, md_g15, md_p10, md_p12, md_p13, md_p14, md_p15, eX12_in, eX12_see, hF2]
set_option maxRecDepth 100000 in
theorem eX12_token_l0 {ν : zM} {Y : Nat} {m1 : zMS}   (n : Nat) : zf1 (fX12_token_l0 Y) n (mdl ν Y m1) = Option.map (mdl ν Y) (zf1 gX12_token_l0 n m1) := by
  refine zf1_m (fun F2 G2 hF2 m1 => ?_) n m1
  simp only [fX12_token_l0, gX12_token_l0, zgd_t, zmap_ite, zmap_some, zmap_none, zmap_zb0, zmap_zni, zq2_k, zq3_k, zq4_k, zq5_k, zzc1_some, zzc2_some, zzc3_some, zzc4_some, zzc5_some, zzc6_some, zzb1_q, zzb2_q, zzb3_q, zzb4_q, zzb5_q, zzc1_q, zzc2_q, zzc3_q, zzc4_q, zzc5_q, zmap_zb1, zmap_zb2, zmap_zb3, zmap_zb4, zmap_zb5, zmap_zb6, zzc1_ite, zzc2_ite, zzc3_ite, zzc4_ite, zmap_zc1, zmap_zc2, zmap_zc3, zmap_zc4, zzc1_zb0, zzc1_zb1, zzc1_zb2, zzc1_zb3, zzc1_zb4, zzc2_zb0, zzc2_zb1, zzc2_zb2, zzc2_zb3, zzc2_zb4, zzc3_zb0, zzc3_zb1, zzc3_zb2, zzc3_zb3, zzc3_zb4, zzc4_zb0, zzc4_zb1, zzc4_zb2, zzc4_zb3, zzc4_zb4, md_ck, md_g10, md_g14, md_g15, md_p10, md_p12, md_p13, md_p14, md_p15, eX12_in, eX12_see, (eX12_token_b18 (hF2 := hF2)), hF2]
set_option maxRecDepth 100000 in
theorem eX12_token_l163 {ν : zM} {Y : Nat} {x2_40 : Int32} {m41 : zMS}   (n : Nat) : zf2 (fX12_token_l163 Y) n x2_40 (mdl ν Y m41) = Option.map (zq2 (mdl ν Y)) (zf2 gX12_token_l163 n x2_40 m41) := by
  refine zf2_m (fun F42 G42 hF42 x2_40 m41 => ?_) n x2_40 m41
  simp only [fX12_token_l163, gX12_token_l163, zgd_t, zmap_ite, zmap_some, zmap_none, zmap_zb0, zmap_zni, zq2_k, zq3_k, zq4_k, zq5_k, zzc1_some, zzc2_some, zzc3_some, zzc4_some, zzc5_some, zzc6_some, zzb1_q, zzb2_q, zzb3_q, zzb4_q, zzb5_q, zzc1_q, zzc2_q, zzc3_q, zzc4_q, zzc5_q, zmap_zb1, zmap_zb2, zmap_zb3, zmap_zb4, zmap_zb5, zmap_zb6, zzc1_ite, zzc2_ite, zzc3_ite, zzc4_ite, zmap_zc1, zmap_zc2, zmap_zc3, zmap_zc4, zzc1_zb0, zzc1_zb1, zzc1_zb2, zzc1_zb3, zzc1_zb4, zzc2_zb0, zzc2_zb1, zzc2_zb2, zzc2_zb3, zzc2_zb4, zzc3_zb0, zzc3_zb1, zzc3_zb2, zzc3_zb3, zzc3_zb4, zzc4_zb0, zzc4_zb1, zzc4_zb2, zzc4_zb3, zzc4_zb4, md_ck, md_g10, md_g14, md_g15, md_p10, md_p12, md_p13, md_p14, md_p15, eX12_in, eX12_see, eX12_token_l0, hF42]
set_option maxRecDepth 100000 in
theorem eX12_token_l74 {ν : zM} {Y : Nat} {x2_70 : Int32} {m71 : zMS}   (n : Nat) : zf2 (fX12_token_l74 Y) n x2_70 (mdl ν Y m71) = Option.map (zq2 (mdl ν Y)) (zf2 gX12_token_l74 n x2_70 m71) := by
  refine zf2_m (fun F72 G72 hF72 x2_70 m71 => ?_) n x2_70 m71
  simp only [fX12_token_l74, gX12_token_l74, zgd_t, zmap_ite, zmap_some, zmap_none, zmap_zb0, zmap_zni, zq2_k, zq3_k, zq4_k, zq5_k, zzc1_some, zzc2_some, zzc3_some, zzc4_some, zzc5_some, zzc6_some, zzb1_q, zzb2_q, zzb3_q, zzb4_q, zzb5_q, zzc1_q, zzc2_q, zzc3_q, zzc4_q, zzc5_q, zmap_zb1, zmap_zb2, zmap_zb3, zmap_zb4, zmap_zb5, zmap_zb6, zzc1_ite, zzc2_ite, zzc3_ite, zzc4_ite, zmap_zc1, zmap_zc2, zmap_zc3, zmap_zc4, zzc1_zb0, zzc1_zb1, zzc1_zb2, zzc1_zb3, zzc1_zb4, zzc2_zb0, zzc2_zb1, zzc2_zb2, zzc2_zb3, zzc2_zb4, zzc3_zb0, zzc3_zb1, zzc3_zb2, zzc3_zb3, zzc3_zb4, zzc4_zb0, zzc4_zb1, zzc4_zb2, zzc4_zb3, zzc4_zb4, md_ck, md_g10, md_g14, md_g15, md_p10, md_p12, md_p13, md_p14, md_p15, eX12_in, eX12_see, eX12_token_l0, eX12_token_l163, hF72]
set_option maxRecDepth 100000 in
theorem eX12_token {ν : zM} {Y : Nat} {M : zMS}   : fX12_token (mdl ν Y M) Y = Option.map (mdl ν Y) (gX12_token M ) := by simp only [fX12_token, gX12_token, zgd_t, zmap_ite, zmap_some, zmap_none, zmap_zb0, zmap_zni, zq2_k, zq3_k, zq4_k, zq5_k, zzc1_some, zzc2_some, zzc3_some, zzc4_some, zzc5_some, zzc6_some, zzb1_q, zzb2_q, zzb3_q, zzb4_q, zzb5_q, zzc1_q, zzc2_q, zzc3_q, zzc4_q, zzc5_q, zmap_zb1, zmap_zb2, zmap_zb3, zmap_zb4, zmap_zb5, zmap_zb6, zzc1_ite, zzc2_ite, zzc3_ite, zzc4_ite, zmap_zc1, zmap_zc2, zmap_zc3, zmap_zc4, zzc1_zb0, zzc1_zb1, zzc1_zb2, zzc1_zb3, zzc1_zb4, zzc2_zb0, zzc2_zb1, zzc2_zb2, zzc2_zb3, zzc2_zb4, zzc3_zb0, zzc3_zb1, zzc3_zb2, zzc3_zb3, zzc3_zb4, zzc4_zb0, zzc4_zb1, zzc4_zb2, zzc4_zb3, zzc4_zb4, md_ck, md_g10, md_g14, md_g15, md_p10, md_p12, md_p13, md_p14, md_p15, eX12_in, eX12_see, eX12_token_l0, eX12_token_l163, eX12_token_l74]
noncomputable def gX12_fails (M : zMS)  : Option (Int32 × zMS) :=
  zb1 (some (zsI M 16 (M.1 12))) fun M3 =>
  some (0, M3)
set_option maxRecDepth 100000 in
theorem eX12_fails {ν : zM} {Y : Nat} {M : zMS}   : fX12_fails (mdl ν Y M) Y = Option.map (zq2 (mdl ν Y)) (gX12_fails M ) := by simp only [fX12_fails, gX12_fails, zgd_t, zmap_ite, zmap_some, zmap_none, zmap_zb0, zmap_zni, zq2_k, zq3_k, zq4_k, zq5_k, zzb1_q, zzb2_q, zzb3_q, zzb4_q, zzb5_q, zmap_zb1, zmap_zb2, zmap_zb3, zmap_zb4, zmap_zb5, zmap_zb6, zmap_zc1, zmap_zc2, zmap_zc3, zmap_zc4, md_ck, md_g12, md_p16]
noncomputable def gX12_later (M : zMS) (x1 : Int32) (x2 : Int32) : Option (zMS) :=
  zc1 (if (M.1 17) = 0 then (
  zb1 (some (zsI M 17 x1)) fun M5 =>
  zb1 (some (zsI M5 18 x2)) fun M7 =>
  some M7)
  else (
  if x2 < (M.1 18) then (
  zb1 (some (zsI M 17 x1)) fun M11 =>
  zb1 (some (zsI M11 18 x2)) fun M13 =>
  some M13)
  else (
  if x2 = (M.1 18) then (
  if (M.1 17) ≤ x1 then (
  some M)
  else (
  zb1 (some (zsI M 17 x1)) fun M19 =>
  zb1 (some (zsI M19 18 x2)) fun M21 =>
  some M21))
  else (
  some M))) : Option (zMS)) fun (m3 : zMS) =>
  some m3
set_option maxRecDepth 100000 in
theorem eX12_later {ν : zM} {Y : Nat} {M : zMS} {x1 : Int32} {x2 : Int32}  : fX12_later (mdl ν Y M) Y x1 x2 = Option.map (mdl ν Y) (gX12_later M x1 x2) := by simp only [fX12_later, gX12_later, zgd_t, zmap_ite, zmap_some, zmap_none, zmap_zb0, zmap_zni, zq2_k, zq3_k, zq4_k, zq5_k, zzc1_some, zzc2_some, zzc3_some, zzc4_some, zzc5_some, zzc6_some, zzb1_q, zzb2_q, zzb3_q, zzb4_q, zzb5_q, zzc1_q, zzc2_q, zzc3_q, zzc4_q, zzc5_q, zmap_zb1, zmap_zb2, zmap_zb3, zmap_zb4, zmap_zb5, zmap_zb6, zzc1_ite, zzc2_ite, zzc3_ite, zzc4_ite, zmap_zc1, zmap_zc2, zmap_zc3, zmap_zc4, zzc1_zb0, zzc1_zb1, zzc1_zb2, zzc1_zb3, zzc1_zb4, zzc2_zb0, zzc2_zb1, zzc2_zb2, zzc2_zb3, zzc2_zb4, zzc3_zb0, zzc3_zb1, zzc3_zb2, zzc3_zb3, zzc3_zb4, zzc4_zb0, zzc4_zb1, zzc4_zb2, zzc4_zb3, zzc4_zb4, md_ck, md_g17, md_g18, md_p17, md_p18]
noncomputable def gX12_take (M : zMS) (x1 : Int32) (x2 : Int32) (x3 : Int32) : Option (Int32 × zMS) :=
  if (M.1 13) = 3 then (
  zb1 (zas 4 (M.2.2 20) x1 (M.1 14)) fun f7 =>
  zb1 (some (zsA M 20 f7)) fun M7 =>
  zb1 (gX12_in (M7.1 14) x2 x3) fun v12 =>
  zc1 (if v12 = 0 then (
  zb1 (gX12_later M7 2 (M7.1 12)) fun M20 =>
  zb1 (some (zsI M20 22 0)) fun M21 =>
  some M21)
  else (
  some M7) : Option (zMS)) fun (m13 : zMS) =>
  zb1 (gX12_token m13) fun M16 =>
  some (1, M16))
  else (
  zb2 (gX12_fails M) fun v25 M24 =>
  zb1 (zbz v25) fun v26 =>
  some (v26, M24))
set_option maxRecDepth 100000 in
theorem eX12_take {ν : zM} {Y : Nat} {M : zMS} {x1 : Int32} {x2 : Int32} {x3 : Int32}  : fX12_take (mdl ν Y M) Y x1 x2 x3 = Option.map (zq2 (mdl ν Y)) (gX12_take M x1 x2 x3) := by simp only [fX12_take, gX12_take, zgd_t, zmap_ite, zmap_some, zmap_none, zmap_zb0, zmap_zni, zq2_k, zq3_k, zq4_k, zq5_k, zzc1_some, zzc2_some, zzc3_some, zzc4_some, zzc5_some, zzc6_some, zzb1_q, zzb2_q, zzb3_q, zzb4_q, zzb5_q, zzc1_q, zzc2_q, zzc3_q, zzc4_q, zzc5_q, zmap_zb1, zmap_zb2, zmap_zb3, zmap_zb4, zmap_zb5, zmap_zb6, zzc1_ite, zzc2_ite, zzc3_ite, zzc4_ite, zmap_zc1, zmap_zc2, zmap_zc3, zmap_zc4, zzc1_zb0, zzc1_zb1, zzc1_zb2, zzc1_zb3, zzc1_zb4, zzc2_zb0, zzc2_zb1, zzc2_zb2, zzc2_zb3, zzc2_zb4, zzc3_zb0, zzc3_zb1, zzc3_zb2, zzc3_zb3, zzc3_zb4, zzc4_zb0, zzc4_zb1, zzc4_zb2, zzc4_zb3, zzc4_zb4, md_ck, md_g12, md_g13, md_g14, md_g20, md_p22, md_a20, md_s20, eX12_fails, eX12_in, eX12_later, eX12_token]
noncomputable def gX12_full (M : zMS) (x1 : Int32) (x2 : Int32) (x3 : Int32) : Option (zMS) :=
  zb1 (zag 121 (M.2.2 19) x1) fun v3 =>
  zc1 (if v3 = x2 then (
  zb1 (gX12_later M 3 x3) fun M8 =>
  some M8)
  else (
  some M) : Option (zMS)) fun (m5 : zMS) =>
  some m5
set_option maxRecDepth 100000 in
theorem eX12_full {ν : zM} {Y : Nat} {M : zMS} {x1 : Int32} {x2 : Int32} {x3 : Int32}  : fX12_full (mdl ν Y M) Y x1 x2 x3 = Option.map (mdl ν Y) (gX12_full M x1 x2 x3) := by simp only [fX12_full, gX12_full, zgd_t, zmap_ite, zmap_some, zmap_none, zmap_zb0, zmap_zni, zq2_k, zq3_k, zq4_k, zq5_k, zzc1_some, zzc2_some, zzc3_some, zzc4_some, zzc5_some, zzc6_some, zzb1_q, zzb2_q, zzb3_q, zzb4_q, zzb5_q, zzc1_q, zzc2_q, zzc3_q, zzc4_q, zzc5_q, zmap_zb1, zmap_zb2, zmap_zb3, zmap_zb4, zmap_zb5, zmap_zb6, zzc1_ite, zzc2_ite, zzc3_ite, zzc4_ite, zmap_zc1, zmap_zc2, zmap_zc3, zmap_zc4, zzc1_zb0, zzc1_zb1, zzc1_zb2, zzc1_zb3, zzc1_zb4, zzc2_zb0, zzc2_zb1, zzc2_zb2, zzc2_zb3, zzc2_zb4, zzc3_zb0, zzc3_zb1, zzc3_zb2, zzc3_zb3, zzc3_zb4, zzc4_zb0, zzc4_zb1, zzc4_zb2, zzc4_zb3, zzc4_zb4, md_ck, md_g19, md_a19, md_s19, eX12_later]
noncomputable def gX12_kindBy  (x0 : Int64) : Option (Int32) :=
  zb1 (if (lg_cmp x0 126879447934322) = 0 then (
  some 0)
  else (
  if (lg_cmp x0 422877685106) = 0 then (
  some 1)
  else (
  if (lg_cmp x0 8102650148546962802) = 0 then (
  some 2)
  else (
  some (-1)))) : Option (Int32)) fun (s1 : Int32) =>
  some s1
set_option maxRecDepth 100000 in
theorem eX12_kindBy {μ : zM} {x0 : Int64} : fX12_kindBy μ x0 = gX12_kindBy x0 := by simp only [fX12_kindBy, gX12_kindBy, zgd_t, zmap_ite, zmap_some, zmap_none, zmap_zb0, zmap_zni, zq2_k, zq3_k, zq4_k, zq5_k, zzb1_q, zzb2_q, zzb3_q, zzb4_q, zzb5_q, zmap_zb1, zmap_zb2, zmap_zb3, zmap_zb4, zmap_zb5, zmap_zb6, zmap_zc1, zmap_zc2, zmap_zc3, zmap_zc4, md_ck]
noncomputable def gX12_personLine (M : zMS) (x1 : Int32) : Option (Int32 × zMS) :=
  zb2 (gX12_take M 0 0 30) fun v3 M2 =>
  if v3 = 0 then (
  some (0, M2))
  else (
  zb2 (gX12_take M2 1 0 99) fun v6 M5 =>
  if v6 = 0 then (
  some (0, M5))
  else (
  zb1 (zag 4 (M5.2.2 20) 0) fun v11 =>
  zb1 (gX12_greater (M5.1 21) v11) fun v14 =>
  zb1 (some (zsI M5 21 v14)) fun M15 =>
  zb1 (zag 121 (M15.2.2 19) 1) fun v19 =>
  zc1 (if 6 ≤ v19 then (
  some M15)
  else (
  zb1 (zas 121 (M15.2.2 19) (27 + v19) x1) fun f25 =>
  zb1 (some (zsA M15 19 f25)) fun M25 =>
  zb1 (zag 4 (M25.2.2 20) 0) fun v31 =>
  zb1 (zas 121 (M25.2.2 19) (33 + v19) v31) fun f33 =>
  zb1 (some (zsA M25 19 f33)) fun M33 =>
  zb1 (zag 4 (M33.2.2 20) 1) fun v39 =>
  zb1 (zas 121 (M33.2.2 19) (39 + v19) v39) fun f41 =>
  zb1 (some (zsA M33 19 f41)) fun M41 =>
  zb1 (zag 121 (M41.2.2 19) 1) fun v45 =>
  zb1 (zas 121 (M41.2.2 19) 1 (v45 + 1)) fun f47 =>
  zb1 (some (zsA M41 19 f47)) fun M47 =>
  some M47) : Option (zMS)) fun (m21 : zMS) =>
  some (1, m21)))
set_option maxRecDepth 100000 in
theorem eX12_personLine {ν : zM} {Y : Nat} {M : zMS} {x1 : Int32}  : fX12_personLine (mdl ν Y M) Y x1 = Option.map (zq2 (mdl ν Y)) (gX12_personLine M x1) := by simp only [fX12_personLine, gX12_personLine, zgd_t, zmap_ite, zmap_some, zmap_none, zmap_zb0, zmap_zni, zq2_k, zq3_k, zq4_k, zq5_k, zzc1_some, zzc2_some, zzc3_some, zzc4_some, zzc5_some, zzc6_some, zzb1_q, zzb2_q, zzb3_q, zzb4_q, zzb5_q, zzc1_q, zzc2_q, zzc3_q, zzc4_q, zzc5_q, zmap_zb1, zmap_zb2, zmap_zb3, zmap_zb4, zmap_zb5, zmap_zb6, zzc1_ite, zzc2_ite, zzc3_ite, zzc4_ite, zmap_zc1, zmap_zc2, zmap_zc3, zmap_zc4, zzc1_zb0, zzc1_zb1, zzc1_zb2, zzc1_zb3, zzc1_zb4, zzc2_zb0, zzc2_zb1, zzc2_zb2, zzc2_zb3, zzc2_zb4, zzc3_zb0, zzc3_zb1, zzc3_zb2, zzc3_zb3, zzc3_zb4, zzc4_zb0, zzc4_zb1, zzc4_zb2, zzc4_zb3, zzc4_zb4, md_ck, md_g19, md_g20, md_g21, md_p21, md_a19, md_s19, md_a20, md_s20, eX12_greater, eX12_take]
