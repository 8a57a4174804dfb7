def gX12_in  (x0 : Int32) (x1 : Int32) (x2 : Int32) : Option (Int32) :=
  zb1 (if x0 < x1 then (
  some 0)
  else (
  if x2 < x0 then (
  some 0)
  else (
  some 1)) : Option (Int32)) fun (s1 : Int32) =>
  zb1 (zbz s1) fun v3 =>
  some v3
set_option maxRecDepth 100000 in
theorem eX12_in {μ : zM} {x0 : Int32} {x1 : Int32} {x2 : Int32} : fX12_in μ x0 x1 x2 = gX12_in x0 x1 x2 := by simp only [fX12_in, gX12_in, zgd_t, zmap_ite, zmap_some, zmap_none, zmap_zb0, zmap_zni, zq2_k, zq3_k, zq4_k, zq5_k, zzb1_some, zzb2_some, zzb3_some, zzb4_some, zzb5_some, zzb6_some, zzb1_q, zzb2_q, zzb3_q, zzb4_q, zzb5_q, zmap_zb1, zmap_zb2, zmap_zb3, zmap_zb4, zmap_zb5, zmap_zb6, md_ck]
def gX12_has  (x0 : Int32) (x1 : Int32) : Option (Int32) :=
  zb1 (if ((x0 >>> (x1 &&& 31)) &&& 1) = 1 then (
  some 1)
  else (
  some 0) : Option (Int32)) fun (s1 : Int32) =>
  zb1 (zbz s1) fun v3 =>
  some v3
set_option maxRecDepth 100000 in
theorem eX12_has {μ : zM} {x0 : Int32} {x1 : Int32} : fX12_has μ x0 x1 = gX12_has x0 x1 := by simp only [fX12_has, gX12_has, zgd_t, zmap_ite, zmap_some, zmap_none, zmap_zb0, zmap_zni, zq2_k, zq3_k, zq4_k, zq5_k, zzb1_some, zzb2_some, zzb3_some, zzb4_some, zzb5_some, zzb6_some, zzb1_q, zzb2_q, zzb3_q, zzb4_q, zzb5_q, zmap_zb1, zmap_zb2, zmap_zb3, zmap_zb4, zmap_zb5, zmap_zb6, md_ck]
def gX12_greater  (x0 : Int32) (x1 : Int32) : Option (Int32) :=
  zb1 (if x0 ≤ x1 then (
  some x1)
  else (
  some x0) : Option (Int32)) fun (s1 : Int32) =>
  some s1
set_option maxRecDepth 100000 in
theorem eX12_greater {μ : zM} {x0 : Int32} {x1 : Int32} : fX12_greater μ x0 x1 = gX12_greater x0 x1 := by simp only [fX12_greater, gX12_greater, zgd_t, zmap_ite, zmap_some, zmap_none, zmap_zb0, zmap_zni, zq2_k, zq3_k, zq4_k, zq5_k, zzb1_some, zzb2_some, zzb3_some, zzb4_some, zzb5_some, zzb6_some, zzb1_q, zzb2_q, zzb3_q, zzb4_q, zzb5_q, zmap_zb1, zmap_zb2, zmap_zb3, zmap_zb4, zmap_zb5, zmap_zb6, md_ck]
def gX12_lesser  (x0 : Int32) (x1 : Int32) : Option (Int32) :=
  zb1 (if x1 ≤ x0 then (
  some x1)
  else (
  some x0) : Option (Int32)) fun (s1 : Int32) =>
  some s1
set_option maxRecDepth 100000 in
theorem eX12_lesser {μ : zM} {x0 : Int32} {x1 : Int32} : fX12_lesser μ x0 x1 = gX12_lesser x0 x1 := by simp only [fX12_lesser, gX12_lesser, zgd_t, zmap_ite, zmap_some, zmap_none, zmap_zb0, zmap_zni, zq2_k, zq3_k, zq4_k, zq5_k, zzb1_some, zzb2_some, zzb3_some, zzb4_some, zzb5_some, zzb6_some, zzb1_q, zzb2_q, zzb3_q, zzb4_q, zzb5_q, zmap_zb1, zmap_zb2, zmap_zb3, zmap_zb4, zmap_zb5, zmap_zb6, md_ck]
def gX12_apart  (x0 : Int32) (x1 : Int32) : Option (Int32) :=
  zb1 (if x1 ≤ x0 then (
  some (x0 - x1))
  else (
  some (x1 - x0)) : Option (Int32)) fun (s1 : Int32) =>
  some s1
set_option maxRecDepth 100000 in
theorem eX12_apart {μ : zM} {x0 : Int32} {x1 : Int32} : fX12_apart μ x0 x1 = gX12_apart x0 x1 := by simp only [fX12_apart, gX12_apart, zgd_t, zmap_ite, zmap_some, zmap_none, zmap_zb0, zmap_zni, zq2_k, zq3_k, zq4_k, zq5_k, zzb1_some, zzb2_some, zzb3_some, zzb4_some, zzb5_some, zzb6_some, zzb1_q, zzb2_q, zzb3_q, zzb4_q, zzb5_q, zmap_zb1, zmap_zb2, zmap_zb3, zmap_zb4, zmap_zb5, zmap_zb6, md_ck]
def gX12_copyRow_l3 (x1 : Int32) (x0 : Nat) (x2 : Int32) (x3 : Int32) (F3 : Int32 → zMS → Option (zMS)) (x4_1 : Int32) (m2 : zMS) : Option (zMS) :=
  if x1 ≤ x4_1 then (
  some m2)
  else (
  zb1 (zag (mln x0) (m2.2.2 x0) ((x1 * x2) + x4_1)) fun v7 =>
  zb1 (zas (mln x0) (m2.2.2 x0) ((x1 * x3) + x4_1) v7) fun f9 =>
  zb1 (some (zsA m2 x0 f9)) fun M9 =>
  F3 (x4_1 + 1) M9)
def gX12_copyRow (M : zMS) (x0 : Nat) (x1 : Int32) (x2 : Int32) (x3 : Int32) : Option (zMS) :=
  zb1 (zf2 (gX12_copyRow_l3 x1 x0 x2 x3) zfu 0 M : Option (zMS)) fun (m5 : zMS) =>
  some m5
set_option maxRecDepth 100000 in
theorem eX12_copyRow_l3 {ν : zM} {Y : Nat} {x1 : Int32} {x0 : Nat} {x2 : Int32} {x3 : Int32} {x4_1 : Int32} {m2 : zMS}  (hkx0 : mia x0 = true) (n : Nat) : zf2 (fX12_copyRow_l3 x1 (Y + mof x0) x2 x3) n x4_1 (mdl ν Y m2) = Option.map (mdl ν Y) (zf2 (gX12_copyRow_l3 x1 x0 x2 x3) n x4_1 m2) := by
  refine zf2_m (fun F3 G3 hF3 x4_1 m2 => ?_) n x4_1 m2
  simp only [fX12_copyRow_l3, gX12_copyRow_l3, zgd_t, zmap_ite, zmap_some, zmap_none, zmap_zb0, zmap_zni, zq2_k, zq3_k, zq4_k, zq5_k, zzb1_some, zzb2_some, zzb3_some, zzb4_some, zzb5_some, zzb6_some, zzb1_q, zzb2_q, zzb3_q, zzb4_q, zzb5_q, zmap_zb1, zmap_zb2, zmap_zb3, zmap_zb4, zmap_zb5, zmap_zb6, md_ck, md_aG hkx0, md_sG hkx0, hF3]
set_option maxRecDepth 100000 in
theorem eX12_copyRow {ν : zM} {Y : Nat} {M : zMS} {x0 : Nat} {x1 : Int32} {x2 : Int32} {x3 : Int32} (hkx0 : mia x0 = true) : fX12_copyRow (mdl ν Y M) (Y + mof x0) x1 x2 x3 = Option.map (mdl ν Y) (gX12_copyRow M x0 x1 x2 x3) := by simp only [fX12_copyRow, gX12_copyRow, zgd_t, zmap_ite, zmap_some, zmap_none, zmap_zb0, zmap_zni, zq2_k, zq3_k, zq4_k, zq5_k, zzb1_some, zzb2_some, zzb3_some, zzb4_some, zzb5_some, zzb6_some, zzb1_q, zzb2_q, zzb3_q, zzb4_q, zzb5_q, zmap_zb1, zmap_zb2, zmap_zb3, zmap_zb4, zmap_zb5, zmap_zb6, md_ck, (eX12_copyRow_l3 hkx0), md_aG hkx0, md_sG hkx0]
set_option maxRecDepth 100000 in
theorem eX12_copyRow_2 {ν : zM} {Y : Nat} {M : zMS} {x1 x2 x3 : Int32} : fX12_copyRow (mdl ν Y M) (Y + 2) x1 x2 x3 = Option.map (mdl ν Y) (gX12_copyRow M 2 x1 x2 x3) := eX12_copyRow (x0 := 2) rfl
set_option maxRecDepth 100000 in
theorem eX12_copyRow_3 {ν : zM} {Y : Nat} {M : zMS} {x1 x2 x3 : Int32} : fX12_copyRow (mdl ν Y M) (Y + 3) x1 x2 x3 = Option.map (mdl ν Y) (gX12_copyRow M 3 x1 x2 x3) := eX12_copyRow (x0 := 3) rfl
set_option maxRecDepth 100000 in
theorem eX12_copyRow_4 {ν : zM} {Y : Nat} {M : zMS} {x1 x2 x3 : Int32} : fX12_copyRow (mdl ν Y M) (Y + 4) x1 x2 x3 = Option.map (mdl ν Y) (gX12_copyRow M 4 x1 x2 x3) := eX12_copyRow (x0 := 4) rfl
set_option maxRecDepth 100000 in
theorem eX12_copyRow_5 {ν : zM} {Y : Nat} {M : zMS} {x1 x2 x3 : Int32} : fX12_copyRow (mdl ν Y M) (Y + 5) x1 x2 x3 = Option.map (mdl ν Y) (gX12_copyRow M 5 x1 x2 x3) := eX12_copyRow (x0 := 5) rfl
set_option maxRecDepth 100000 in
theorem eX12_copyRow_6 {ν : zM} {Y : Nat} {M : zMS} {x1 x2 x3 : Int32} : fX12_copyRow (mdl ν Y M) (Y + 6) x1 x2 x3 = Option.map (mdl ν Y) (gX12_copyRow M 6 x1 x2 x3) := eX12_copyRow (x0 := 6) rfl
set_option maxRecDepth 100000 in
theorem eX12_copyRow_7 {ν : zM} {Y : Nat} {M : zMS} {x1 x2 x3 : Int32} : fX12_copyRow (mdl ν Y M) (Y + 7) x1 x2 x3 = Option.map (mdl ν Y) (gX12_copyRow M 7 x1 x2 x3) := eX12_copyRow (x0 := 7) rfl
set_option maxRecDepth 100000 in
theorem eX12_copyRow_8 {ν : zM} {Y : Nat} {M : zMS} {x1 x2 x3 : Int32} : fX12_copyRow (mdl ν Y M) (Y + 8) x1 x2 x3 = Option.map (mdl ν Y) (gX12_copyRow M 8 x1 x2 x3) := eX12_copyRow (x0 := 8) rfl
set_option maxRecDepth 100000 in
theorem eX12_copyRow_9 {ν : zM} {Y : Nat} {M : zMS} {x1 x2 x3 : Int32} : fX12_copyRow (mdl ν Y M) (Y + 9) x1 x2 x3 = Option.map (mdl ν Y) (gX12_copyRow M 9 x1 x2 x3) := eX12_copyRow (x0 := 9) rfl
def gX12_copyAll_l2 (x1 : Int32) (x2 : Int32) (F3 : Int32 → zMS → Option (zMS)) (x3_1 : Int32) (m2 : zMS) : Option (zMS) :=
  if 600 ≤ x3_1 then (
  some m2)
  else (
  zb1 (zag 2400 (m2.2.2 1) ((600 * x1) + x3_1)) fun v11 =>
  zb1 (zas 2400 (m2.2.2 1) ((600 * x2) + x3_1) (vp_nar .byte v11)) fun f13 =>
  zb1 (some (zsA m2 1 f13)) fun M13 =>
  F3 (x3_1 + 1) M13)
def gX12_copyAll (M : zMS) (x1 : Int32) (x2 : Int32) : Option (zMS) :=
  zb1 (zf2 (gX12_copyAll_l2 x1 x2) zfu 0 M : Option (zMS)) fun (m5 : zMS) =>
  zb1 (gX12_copyRow m5 2 1 x1 x2) fun M19 =>
  zb1 (gX12_copyRow M19 3 1 x1 x2) fun M23 =>
  zb1 (gX12_copyRow M23 4 1 x1 x2) fun M27 =>
  zb1 (gX12_copyRow M27 5 4 x1 x2) fun M31 =>
  zb1 (gX12_copyRow M31 6 114 x1 x2) fun M35 =>
  zb1 (gX12_copyRow M35 7 242 x1 x2) fun M39 =>
  zb1 (gX12_copyRow M39 8 44 x1 x2) fun M43 =>
  zb1 (gX12_copyRow M43 9 66 x1 x2) fun M47 =>
  some M47
set_option maxRecDepth 100000 in
theorem eX12_copyAll_l2 {ν : zM} {Y : Nat} {x1 : Int32} {x2 : Int32} {x3_1 : Int32} {m2 : zMS}   (n : Nat) : zf2 (fX12_copyAll_l2 Y x1 x2) n x3_1 (mdl ν Y m2) = Option.map (mdl ν Y) (zf2 (gX12_copyAll_l2 x1 x2) n x3_1 m2) := by
  refine zf2_m (fun F3 G3 hF3 x3_1 m2 => ?_) n x3_1 m2
  simp only [fX12_copyAll_l2, gX12_copyAll_l2, zgd_t, zmap_ite, zmap_some, zmap_none, zmap_zb0, zmap_zni, zq2_k, zq3_k, zq4_k, zq5_k, zzb1_some, zzb2_some, zzb3_some, zzb4_some, zzb5_some, zzb6_some, zzb1_q, zzb2_q, zzb3_q, zzb4_q, zzb5_q, zmap_zb1, zmap_zb2, zmap_zb3, zmap_zb4, zmap_zb5, zmap_zb6, md_ck, md_g1, md_g2, md_g3, md_g4, md_g5, md_g6, md_g7, md_g8, md_g9, md_a1, md_s1, md_a2, md_s2, md_a3, md_s3, md_a4, md_s4, md_a5, md_s5, md_a6, md_s6, md_a7, md_s7, md_a8, md_s8, md_a9, md_s9, eX12_copyRow_2, eX12_copyRow_3, eX12_copyRow_4, eX12_copyRow_5, eX12_copyRow_6, eX12_copyRow_7, eX12_copyRow_8, eX12_copyRow_9, hF3]
set_option maxRecDepth 100000 in
theorem eX12_copyAll {ν : zM} {Y : Nat} {M : zMS} {x1 : Int32} {x2 : Int32}  : fX12_copyAll (mdl ν Y M) Y x1 x2 = Option.map (mdl ν Y) (gX12_copyAll M x1 x2) := by simp only [fX12_copyAll, gX12_copyAll, zgd_t, zmap_ite, zmap_some, zmap_none, zmap_zb0, zmap_zni, zq2_k, zq3_k, zq4_k, zq5_k, zzb1_some, zzb2_some, zzb3_some, zzb4_some, zzb5_some, zzb6_some, zzb1_q, zzb2_q, zzb3_q, zzb4_q, zzb5_q, zmap_zb1, zmap_zb2, zmap_zb3, zmap_zb4, zmap_zb5, zmap_zb6, md_ck, md_g1, md_g2, md_g3, md_g4, md_g5, md_g6, md_g7, md_g8, md_g9, md_a1, md_s1, md_a2, md_s2, md_a3, md_s3, md_a4, md_s4, md_a5, md_s5, md_a6, md_s6, md_a7, md_s7, md_a8, md_s8, md_a9, md_s9, eX12_copyRow_2, eX12_copyRow_3, eX12_copyRow_4, eX12_copyRow_5, eX12_copyRow_6, eX12_copyRow_7, eX12_copyRow_8, eX12_copyRow_9, eX12_copyAll_l2]
def gX12_is (M : zMS) (x1 : Int32) (x2 : Int32) : Option (Int32) :=
  zb1 (zag 16 (M.2.2 5) x1) fun v3 =>
  zb1 (gX12_in x2 0 (v3 - 1)) fun v6 =>
  zb1 (zbz v6) fun v7 =>
  some v7
set_option maxRecDepth 100000 in
theorem eX12_is {ν : zM} {Y : Nat} {M : zMS} {x1 : Int32} {x2 : Int32}  : fX12_is (mdl ν Y M) Y x1 x2 = gX12_is M x1 x2 := by simp only [fX12_is, gX12_is, zgd_t, zmap_ite, zmap_some, zmap_none, zmap_zb0, zmap_zni, zq2_k, zq3_k, zq4_k, zq5_k, zzb1_some, zzb2_some, zzb3_some, zzb4_some, zzb5_some, zzb6_some, zzb1_q, zzb2_q, zzb3_q, zzb4_q, zzb5_q, zmap_zb1, zmap_zb2, zmap_zb3, zmap_zb4, zmap_zb5, zmap_zb6, md_ck, md_g5, md_a5, md_s5, eX12_in]
def gX12_four_l3 (x1 : Int32) (F3 : Int32 → zMS → Option (zMS)) (x2_1 : Int32) (m2 : zMS) : Option (zMS) :=
  if x2_1 < 0 then (
  some m2)
  else (
  zb1 (zag 4 (m2.2.2 2) 0) fun v11 =>
  zb1 (zas 2400 (m2.2.2 1) v11 (vp_nar .byte ((x1 >>> (x2_1 &&& 31) : Int32).toInt8.toInt32))) fun f13 =>
  zb1 (some (zsA m2 1 f13)) fun M13 =>
  zb1 (zag 4 (M13.2.2 2) 0) fun v17 =>
  zb1 (zas 4 (M13.2.2 2) 0 (v17 + 1)) fun f19 =>
  zb1 (some (zsA M13 2 f19)) fun M19 =>
  F3 (x2_1 + (-8)) M19)
def gX12_four (M : zMS) (x1 : Int32) : Option (zMS) :=
  zb1 (zf2 (gX12_four_l3 x1) zfu 24 M : Option (zMS)) fun (m5 : zMS) =>
  some m5
set_option maxRecDepth 100000 in
theorem eX12_four_l3 {ν : zM} {Y : Nat} {x1 : Int32} {x2_1 : Int32} {m2 : zMS}   (n : Nat) : zf2 (fX12_four_l3 Y x1) n x2_1 (mdl ν Y m2) = Option.map (mdl ν Y) (zf2 (gX12_four_l3 x1) n x2_1 m2) := by
  refine zf2_m (fun F3 G3 hF3 x2_1 m2 => ?_) n x2_1 m2
  simp only [fX12_four_l3, gX12_four_l3, zgd_t, zmap_ite, zmap_some, zmap_none, zmap_zb0, zmap_zni, zq2_k, zq3_k, zq4_k, zq5_k, zzb1_some, zzb2_some, zzb3_some, zzb4_some, zzb5_some, zzb6_some, zzb1_q, zzb2_q, zzb3_q, zzb4_q, zzb5_q, zmap_zb1, zmap_zb2, zmap_zb3, zmap_zb4, zmap_zb5, zmap_zb6, md_ck, md_g1, md_g2, md_a1, md_s1, md_a2, md_s2, hF3]
set_option maxRecDepth 100000 in
theorem eX12_four {ν : zM} {Y : Nat} {M : zMS} {x1 : Int32}  : fX12_four (mdl ν Y M) Y x1 = Option.map (mdl ν Y) (gX12_four M x1) := by simp only [fX12_four, gX12_four, zgd_t, zmap_ite, zmap_some, zmap_none, zmap_zb0, zmap_zni, zq2_k, zq3_k, zq4_k, zq5_k, zzb1_some, zzb2_some, zzb3_some, zzb4_some, zzb5_some, zzb6_some, zzb1_q, zzb2_q, zzb3_q, zzb4_q, zzb5_q, zmap_zb1, zmap_zb2, zmap_zb3, zmap_zb4, zmap_zb5, zmap_zb6, md_ck, md_g1, md_g2, md_a1, md_s1, md_a2, md_s2, eX12_four_l3]
def gX12_feed (M : zMS) (x1 : Int32) (x2 : Int32) (x3 : Int32) (x4 : Int32) (x5 : Int32) : Option (Int32 × zMS) :=
  zb1 (some (zsI M 0 0)) fun M1 =>
  zb1 (zag 4 (M1.2.2 2) 0) fun v5 =>
  if (v5 + 20) ≤ 600 then (
  zb1 (gX12_four M1 x1) fun M8 =>
  zb1 (gX12_four M8 x2) fun M10 =>
  zb1 (gX12_four M10 x3) fun M12 =>
  zb1 (gX12_four M12 x4) fun M14 =>
  zb1 (gX12_four M14 x5) fun M16 =>
  zb1 (zag 4 (M16.2.2 2) 0) fun v19 =>
  some (v19, M16))
  else (
  some ((-1), M1))
set_option maxRecDepth 100000 in
theorem eX12_feed {ν : zM} {Y : Nat} {M : zMS} {x1 : Int32} {x2 : Int32} {x3 : Int32} {x4 : Int32} {x5 : Int32}  : fX12_feed (mdl ν Y M) Y x1 x2 x3 x4 x5 = Option.map (zq2 (mdl ν Y)) (gX12_feed M x1 x2 x3 x4 x5) := by simp only [fX12_feed, gX12_feed, zgd_t, zmap_ite, zmap_some, zmap_none, zmap_zb0, zmap_zni, zq2_k, zq3_k, zq4_k, zq5_k, zzb1_some, zzb2_some, zzb3_some, zzb4_some, zzb5_some, zzb6_some, zzb1_q, zzb2_q, zzb3_q, zzb4_q, zzb5_q, zmap_zb1, zmap_zb2, zmap_zb3, zmap_zb4, zmap_zb5, zmap_zb6, md_ck, md_g2, md_p0, md_a2, md_s2, eX12_four]
def gX12_end (M : zMS) (x1 : Int32) : Option (Int32 × zMS) :=
  zb1 (some (zsI M 0 0)) fun M1 =>
  zb1 (zag 4 (M1.2.2 2) 0) fun v5 =>
  zb1 (gX12_in x1 0 v5) fun v8 =>
  if v8 = 0 then (
  some ((-1), M1))
  else (
  zb1 (zas 4 (M1.2.2 2) 0 x1) fun f11 =>
  zb1 (some (zsA M1 2 f11)) fun M11 =>
  some (x1, M11))
set_option maxRecDepth 100000 in
theorem eX12_end {ν : zM} {Y : Nat} {M : zMS} {x1 : Int32}  : fX12_end (mdl ν Y M) Y x1 = Option.map (zq2 (mdl ν Y)) (gX12_end M x1) := by simp only [fX12_end, gX12_end, zgd_t, zmap_ite, zmap_some, zmap_none, zmap_zb0, zmap_zni, zq2_k, zq3_k, zq4_k, zq5_k, zzb1_some, zzb2_some, zzb3_some, zzb4_some, zzb5_some, zzb6_some, zzb1_q, zzb2_q, zzb3_q, zzb4_q, zzb5_q, zmap_zb1, zmap_zb2, zmap_zb3, zmap_zb4, zmap_zb5, zmap_zb6, md_ck, md_g2, md_p0, md_a2, md_s2, eX12_in]
def gX12_see (M : zMS)  : Option (Int32) :=
  zb1 (if (M.1 11) ≤ (M.1 10) then (
  some (-1))
  else (
  zb1 (zag 2400 (M.2.2 1) (M.1 10)) fun v11 =>
  some (v11 &&& 255)) : Option (Int32)) fun (s5 : Int32) =>
  some s5
set_option maxRecDepth 100000 in
theorem eX12_see {ν : zM} {Y : Nat} {M : zMS}   : fX12_see (mdl ν Y M) Y = gX12_see M  := by simp only [fX12_see, gX12_see, zgd_t, zmap_ite, zmap_some, zmap_none, zmap_zb0, zmap_zni, zq2_k, zq3_k, zq4_k, zq5_k, zzb1_some, zzb2_some, zzb3_some, zzb4_some, zzb5_some, zzb6_some, zzb1_q, zzb2_q, zzb3_q, zzb4_q, zzb5_q, zmap_zb1, zmap_zb2, zmap_zb3, zmap_zb4, zmap_zb5, zmap_zb6, md_ck, md_g1, md_g10, md_g11, md_a1, md_s1]
def gX12_token_b18 (m1 : zMS) (F2 : zMS → Option (zMS)) : Option (zMS) :=
  zb1 (some (zsI m1 10 ((m1.1 10) + 1))) fun M10 =>
  F2 M10
def gX12_token_l0  (F2 : zMS → Option (zMS)) (m1 : zMS) : Option (zMS) :=
  zb1 (gX12_see m1) fun v7 =>
  if v7 = 10 then (
  gX12_token_b18 m1 F2)
  else (
  zb1 (gX12_see m1) fun v14 =>
  if v14 = 32 then (
  gX12_token_b18 m1 F2)
  else (
  some m1))
def gX12_token_l163  (F42 : Int32 → zMS → Option (Int32 × zMS)) (x2_40 : Int32) (m41 : zMS) : Option (Int32 × zMS) :=
  zb1 (gX12_see m41) fun v48 =>
  zb1 (gX12_in v48 48 57) fun v50 =>
  if v50 = 0 then (
  some (x2_40, m41))
  else (
  zb1 (if 2 ≤ x2_40 then (
  some (m41.1 14))
  else (
  zb1 (gX12_see m41) fun v64 =>
  some (((10 * (m41.1 14)) + v64) - 48)) : Option (Int32)) fun (s51 : Int32) =>
  zb1 (some (zsI m41 14 s51)) fun M53 =>
  zb1 (some (zsI M53 10 ((M53.1 10) + 1))) fun M57 =>
  F42 (x2_40 + 1) M57)
def gX12_token_l74  (F72 : Int32 → zMS → Option (Int32 × zMS)) (x2_70 : Int32) (m71 : zMS) : Option (Int32 × zMS) :=
  zb1 (gX12_see m71) fun v78 =>
  zb1 (gX12_in v78 97 122) fun v80 =>
  if v80 = 0 then (
  some (x2_70, m71))
  else (
  zb1 (gX12_see m71) fun v84 =>
  zb1 (some (zsL m71 15 (((m71.2.1 15) <<< ((8 : Int32).toInt64 &&& 63)) ||| ((v84 : Int32).toInt64)))) fun M85 =>
  zb1 (some (zsI M85 10 ((M85.1 10) + 1))) fun M89 =>
  F72 (x2_70 + 1) M89)
def gX12_token (M : zMS)  : Option (zMS) :=
  zb1 (zf1 gX12_token_l0 zfu M : Option (zMS)) fun (m4 : zMS) =>
  zb1 (some (zsI m4 12 (m4.1 10))) fun M18 =>
  zb1 (gX12_see M18) fun v21 =>
  zb1 (some (zsL M18 15 0)) fun M22 =>
  zc1 (if 0 ≤ v21 then (
  zb1 (gX12_in v21 97 122) fun v27 =>
  if v27 = 0 then (
  zb1 (gX12_in v21 48 57) fun v29 =>
  if v29 = 0 then (
  zb1 (some (zsI M22 10 ((M22.1 10) + 1))) fun M32 =>
  zb1 (if v21 = 59 then (
  some 4)
  else (
  some 1) : Option (Int32)) fun (s34 : Int32) =>
  zb1 (some (zsI M32 13 s34)) fun M36 =>
  some M36)
  else (
  zb1 (some (zsI M22 14 0)) fun M38 =>
  zb2 (zf2 gX12_token_l163 zfu 0 M38 : Option (Int32 × zMS)) fun (x2_44 : Int32) (m45 : zMS) =>
  zb1 (if x2_44 ≤ 2 then (
  some 3)
  else (
  some 1) : Option (Int32)) fun (s66 : Int32) =>
  zb1 (some (zsI m45 13 s66)) fun M68 =>
  some M68))
  else (
  zb2 (zf2 gX12_token_l74 zfu 0 M22 : Option (Int32 × zMS)) fun (x2_74 : Int32) (m75 : zMS) =>
  zb1 (if x2_74 ≤ 8 then (
  some (m75.2.1 15))
  else (
  some 0) : Option (Int64)) fun (s92 : Int64) =>
  zb1 (some (zsL m75 15 s92)) fun M94 =>
  zb1 (some (zsI M94 13 2)) fun M96 =>
  some M96))
  else (
  zb1 (some (zsI M22 13 0)) fun M100 =>
  some M100) : Option (zMS)) fun (m24 : zMS) =>
  some m24
set_option maxRecDepth 100000 in
theorem eX12_token_b18 {ν : zM} {Y : Nat} {m1 : zMS} {F2 : zM → Option (zM)} {G2 : zMS → Option (zMS)} (hF2 : ∀ (m1 : zMS), F2 (mdl ν Y m1) = Option.map (mdl ν Y) (G2 m1))  : fX12_token_b18 (mdl ν Y m1) Y F2  = Option.map (mdl ν Y) (gX12_token_b18 m1 G2 ) := by simp only [fX12_token_b18, gX12_token_b18, zgd_t, zmap_ite, zmap_some, zmap_none, zmap_zb0, zmap_zni, zq2_k, zq3_k, zq4_k, zq5_k, zzb1_some, zzb2_some, zzb3_some, zzb4_some, zzb5_some, zzb6_some, zzc1_some, zzc2_some, zzc3_some, zzc4_some, zzc5_some, zzc6_some, zzb1_q, zzb2_q, zzb3_q, zzb4_q, zzb5_q, zzc1_q, zzc2_q, zzc3_q, zzc4_q, zzc5_q, zmap_zb1, zmap_zb2, zmap_zb3, zmap_zb4, zmap_zb5, zmap_zb6, zzc1_ite, zzc2_ite, zzc3_ite, zzc4_ite, zzc1_zb0, zzc1_zb1, zzc1_zb2, zzc1_zb3, zzc1_zb4, zzc2_zb0, zzc2_zb1, zzc2_zb2, zzc2_zb3, zzc2_zb4, zzc3_zb0, zzc3_zb1, zzc3_zb2, zzc3_zb3, zzc3_zb4, zzc4_zb0, zzc4_zb1, zzc4_zb2, zzc4_zb3, zzc4_zb4, md_ck, md_g10, md_g14, md_g15, md_p10, md_p12, md_p13, md_p14, md_p15, eX12_in, eX12_see, hF2]
set_option maxRecDepth 100000 in
theorem eX12_token_l0 {ν : zM} {Y : Nat} {m1 : zMS}   (n : Nat) : zf1 (fX12_token_l0 Y) n (mdl ν Y m1) = Option.map (mdl ν Y) (zf1 gX12_token_l0 n m1) := by
  refine zf1_m (fun F2 G2 hF2 m1 => ?_) n m1
  simp only [fX12_token_l0, gX12_token_l0, zgd_t, zmap_ite, zmap_some, zmap_none, zmap_zb0, zmap_zni, zq2_k, zq3_k, zq4_k, zq5_k, zzb1_some, zzb2_some, zzb3_some, zzb4_some, zzb5_some, zzb6_some, zzc1_some, zzc2_some, zzc3_some, zzc4_some, zzc5_some, zzc6_some, zzb1_q, zzb2_q, zzb3_q, zzb4_q, zzb5_q, zzc1_q, zzc2_q, zzc3_q, zzc4_q, zzc5_q, zmap_zb1, zmap_zb2, zmap_zb3, zmap_zb4, zmap_zb5, zmap_zb6, zzc1_ite, zzc2_ite, zzc3_ite, zzc4_ite, zzc1_zb0, zzc1_zb1, zzc1_zb2, zzc1_zb3, zzc1_zb4, zzc2_zb0, zzc2_zb1, zzc2_zb2, zzc2_zb3, zzc2_zb4, zzc3_zb0, zzc3_zb1, zzc3_zb2, zzc3_zb3, zzc3_zb4, zzc4_zb0, zzc4_zb1, zzc4_zb2, zzc4_zb3, zzc4_zb4, md_ck, md_g10, md_g14, md_g15, md_p10, md_p12, md_p13, md_p14, md_p15, eX12_in, eX12_see, (eX12_token_b18 (hF2 := hF2)), hF2]
set_option maxRecDepth 100000 in
theorem eX12_token_l163 {ν : zM} {Y : Nat} {x2_40 : Int32} {m41 : zMS}   (n : Nat) : zf2 (fX12_token_l163 Y) n x2_40 (mdl ν Y m41) = Option.map (zq2 (mdl ν Y)) (zf2 gX12_token_l163 n x2_40 m41) := by
  refine zf2_m (fun F42 G42 hF42 x2_40 m41 => ?_) n x2_40 m41
  simp only [fX12_token_l163, gX12_token_l163, zgd_t, zmap_ite, zmap_some, zmap_none, zmap_zb0, zmap_zni, zq2_k, zq3_k, zq4_k, zq5_k, zzb1_some, zzb2_some, zzb3_some, zzb4_some, zzb5_some, zzb6_some, zzc1_some, zzc2_some, zzc3_some, zzc4_some, zzc5_some, zzc6_some, zzb1_q, zzb2_q, zzb3_q, zzb4_q, zzb5_q, zzc1_q, zzc2_q, zzc3_q, zzc4_q, zzc5_q, zmap_zb1, zmap_zb2, zmap_zb3, zmap_zb4, zmap_zb5, zmap_zb6, zzc1_ite, zzc2_ite, zzc3_ite, zzc4_ite, zzc1_zb0, zzc1_zb1, zzc1_zb2, zzc1_zb3, zzc1_zb4, zzc2_zb0, zzc2_zb1, zzc2_zb2, zzc2_zb3, zzc2_zb4, zzc3_zb0, zzc3_zb1, zzc3_zb2, zzc3_zb3, zzc3_zb4, zzc4_zb0, zzc4_zb1, zzc4_zb2, zzc4_zb3, zzc4_zb4, md_ck, md_g10, md_g14, md_g15, md_p10, md_p12, md_p13, md_p14, md_p15, eX12_in, eX12_see, eX12_token_l0, hF42]
set_option maxRecDepth 100000 in
theorem eX12_token_l74 {ν : zM} {Y : Nat} {x2_70 : Int32} {m71 : zMS}   (n : Nat) : zf2 (fX12_token_l74 Y) n x2_70 (mdl ν Y m71) = Option.map (zq2 (mdl ν Y)) (zf2 gX12_token_l74 n x2_70 m71) := by
  refine zf2_m (fun F72 G72 hF72 x2_70 m71 => ?_) n x2_70 m71
  simp only [fX12_token_l74, gX12_token_l74, zgd_t, zmap_ite, zmap_some, zmap_none, zmap_zb0, zmap_zni, zq2_k, zq3_k, zq4_k, zq5_k, zzb1_some, zzb2_some, zzb3_some, zzb4_some, zzb5_some, zzb6_some, zzc1_some, zzc2_some, zzc3_some, zzc4_some, zzc5_some, zzc6_some, zzb1_q, zzb2_q, zzb3_q, zzb4_q, zzb5_q, zzc1_q, zzc2_q, zzc3_q, zzc4_q, zzc5_q, zmap_zb1, zmap_zb2, zmap_zb3, zmap_zb4, zmap_zb5, zmap_zb6, zzc1_ite, zzc2_ite, zzc3_ite, zzc4_ite, zzc1_zb0, zzc1_zb1, zzc1_zb2, zzc1_zb3, zzc1_zb4, zzc2_zb0, zzc2_zb1, zzc2_zb2, zzc2_zb3, zzc2_zb4, zzc3_zb0, zzc3_zb1, zzc3_zb2, zzc3_zb3, zzc3_zb4, zzc4_zb0, zzc4_zb1, zzc4_zb2, zzc4_zb3, zzc4_zb4, md_ck, md_g10, md_g14, md_g15, md_p10, md_p12, md_p13, md_p14, md_p15, eX12_in, eX12_see, eX12_token_l0, eX12_token_l163, hF72]
set_option maxRecDepth 100000 in
theorem eX12_token {ν : zM} {Y : Nat} {M : zMS}   : fX12_token (mdl ν Y M) Y = Option.map (mdl ν Y) (gX12_token M ) := by simp only [fX12_token, gX12_token, zgd_t, zmap_ite, zmap_some, zmap_none, zmap_zb0, zmap_zni, zq2_k, zq3_k, zq4_k, zq5_k, zzb1_some, zzb2_some, zzb3_some, zzb4_some, zzb5_some, zzb6_some, zzc1_some, zzc2_some, zzc3_some, zzc4_some, zzc5_some, zzc6_some, zzb1_q, zzb2_q, zzb3_q, zzb4_q, zzb5_q, zzc1_q, zzc2_q, zzc3_q, zzc4_q, zzc5_q, zmap_zb1, zmap_zb2, zmap_zb3, zmap_zb4, zmap_zb5, zmap_zb6, zzc1_ite, zzc2_ite, zzc3_ite, zzc4_ite, zzc1_zb0, zzc1_zb1, zzc1_zb2, zzc1_zb3, zzc1_zb4, zzc2_zb0, zzc2_zb1, zzc2_zb2, zzc2_zb3, zzc2_zb4, zzc3_zb0, zzc3_zb1, zzc3_zb2, zzc3_zb3, zzc3_zb4, zzc4_zb0, zzc4_zb1, zzc4_zb2, zzc4_zb3, zzc4_zb4, md_ck, md_g10, md_g14, md_g15, md_p10, md_p12, md_p13, md_p14, md_p15, eX12_in, eX12_see, eX12_token_l0, eX12_token_l163, eX12_token_l74]
def gX12_fails (M : zMS)  : Option (Int32 × zMS) :=
  zb1 (some (zsI M 16 (M.1 12))) fun M3 =>
  some (0, M3)
set_option maxRecDepth 100000 in
theorem eX12_fails {ν : zM} {Y : Nat} {M : zMS}   : fX12_fails (mdl ν Y M) Y = Option.map (zq2 (mdl ν Y)) (gX12_fails M ) := by simp only [fX12_fails, gX12_fails, zgd_t, zmap_ite, zmap_some, zmap_none, zmap_zb0, zmap_zni, zq2_k, zq3_k, zq4_k, zq5_k, zzb1_some, zzb2_some, zzb3_some, zzb4_some, zzb5_some, zzb6_some, zzb1_q, zzb2_q, zzb3_q, zzb4_q, zzb5_q, zmap_zb1, zmap_zb2, zmap_zb3, zmap_zb4, zmap_zb5, zmap_zb6, md_ck, md_g12, md_p16]
def gX12_later (M : zMS) (x1 : Int32) (x2 : Int32) : Option (zMS) :=
  zc1 (if (M.1 17) = 0 then (
  zb1 (some (zsI M 17 x1)) fun M5 =>
  zb1 (some (zsI M5 18 x2)) fun M7 =>
  some M7)
  else (
  if x2 < (M.1 18) then (
  zb1 (some (zsI M 17 x1)) fun M11 =>
  zb1 (some (zsI M11 18 x2)) fun M13 =>
  some M13)
  else (
  if x2 = (M.1 18) then (
  if (M.1 17) ≤ x1 then (
  some M)
  else (
  zb1 (some (zsI M 17 x1)) fun M19 =>
  zb1 (some (zsI M19 18 x2)) fun M21 =>
  some M21))
  else (
  some M))) : Option (zMS)) fun (m3 : zMS) =>
  some m3
set_option maxRecDepth 100000 in
theorem eX12_later {ν : zM} {Y : Nat} {M : zMS} {x1 : Int32} {x2 : Int32}  : fX12_later (mdl ν Y M) Y x1 x2 = Option.map (mdl ν Y) (gX12_later M x1 x2) := by simp only [fX12_later, gX12_later, zgd_t, zmap_ite, zmap_some, zmap_none, zmap_zb0, zmap_zni, zq2_k, zq3_k, zq4_k, zq5_k, zzb1_some, zzb2_some, zzb3_some, zzb4_some, zzb5_some, zzb6_some, zzc1_some, zzc2_some, zzc3_some, zzc4_some, zzc5_some, zzc6_some, zzb1_q, zzb2_q, zzb3_q, zzb4_q, zzb5_q, zzc1_q, zzc2_q, zzc3_q, zzc4_q, zzc5_q, zmap_zb1, zmap_zb2, zmap_zb3, zmap_zb4, zmap_zb5, zmap_zb6, zzc1_ite, zzc2_ite, zzc3_ite, zzc4_ite, zzc1_zb0, zzc1_zb1, zzc1_zb2, zzc1_zb3, zzc1_zb4, zzc2_zb0, zzc2_zb1, zzc2_zb2, zzc2_zb3, zzc2_zb4, zzc3_zb0, zzc3_zb1, zzc3_zb2, zzc3_zb3, zzc3_zb4, zzc4_zb0, zzc4_zb1, zzc4_zb2, zzc4_zb3, zzc4_zb4, md_ck, md_g17, md_g18, md_p17, md_p18]
def gX12_take (M : zMS) (x1 : Int32) (x2 : Int32) (x3 : Int32) : Option (Int32 × zMS) :=
  if (M.1 13) = 3 then (
  zb1 (zas 4 (M.2.2 20) x1 (M.1 14)) fun f7 =>
  zb1 (some (zsA M 20 f7)) fun M7 =>
  zb1 (gX12_in (M7.1 14) x2 x3) fun v12 =>
  zc1 (if v12 = 0 then (
  zb1 (gX12_later M7 2 (M7.1 12)) fun M20 =>
  zb1 (some (zsI M20 22 0)) fun M21 =>
  some M21)
  else (
  some M7) : Option (zMS)) fun (m13 : zMS) =>
  zb1 (gX12_token m13) fun M16 =>
  some (1, M16))
  else (
  zb2 (gX12_fails M) fun v25 M24 =>
  zb1 (zbz v25) fun v26 =>
  some (v26, M24))
set_option maxRecDepth 100000 in
theorem eX12_take {ν : zM} {Y : Nat} {M : zMS} {x1 : Int32} {x2 : Int32} {x3 : Int32}  : fX12_take (mdl ν Y M) Y x1 x2 x3 = Option.map (zq2 (mdl ν Y)) (gX12_take M x1 x2 x3) := by simp only [fX12_take, gX12_take, zgd_t, zmap_ite, zmap_some, zmap_none, zmap_zb0, zmap_zni, zq2_k, zq3_k, zq4_k, zq5_k, zzb1_some, zzb2_some, zzb3_some, zzb4_some, zzb5_some, zzb6_some, zzc1_some, zzc2_some, zzc3_some, zzc4_some, zzc5_some, zzc6_some, zzb1_q, zzb2_q, zzb3_q, zzb4_q, zzb5_q, zzc1_q, zzc2_q, zzc3_q, zzc4_q, zzc5_q, zmap_zb1, zmap_zb2, zmap_zb3, zmap_zb4, zmap_zb5, zmap_zb6, zzc1_ite, zzc2_ite, zzc3_ite, zzc4_ite, zzc1_zb0, zzc1_zb1, zzc1_zb2, zzc1_zb3, zzc1_zb4, zzc2_zb0, zzc2_zb1, zzc2_zb2, zzc2_zb3, zzc2_zb4, zzc3_zb0, zzc3_zb1, zzc3_zb2, zzc3_zb3, zzc3_zb4, zzc4_zb0, zzc4_zb1, zzc4_zb2, zzc4_zb3, zzc4_zb4, md_ck, md_g12, md_g13, md_g14, md_g20, md_p22, md_a20, md_s20, eX12_fails, eX12_in, eX12_later, eX12_token]
def gX12_full (M : zMS) (x1 : Int32) (x2 : Int32) (x3 : Int32) : Option (zMS) :=
  zb1 (zag 121 (M.2.2 19) x1) fun v3 =>
  zc1 (if v3 = x2 then (
  zb1 (gX12_later M 3 x3) fun M8 =>
  some M8)
  else (
  some M) : Option (zMS)) fun (m5 : zMS) =>
  some m5
set_option maxRecDepth 100000 in
theorem eX12_full {ν : zM} {Y : Nat} {M : zMS} {x1 : Int32} {x2 : Int32} {x3 : Int32}  : fX12_full (mdl ν Y M) Y x1 x2 x3 = Option.map (mdl ν Y) (gX12_full M x1 x2 x3) := by simp only [fX12_full, gX12_full, zgd_t, zmap_ite, zmap_some, zmap_none, zmap_zb0, zmap_zni, zq2_k, zq3_k, zq4_k, zq5_k, zzb1_some, zzb2_some, zzb3_some, zzb4_some, zzb5_some, zzb6_some, zzc1_some, zzc2_some, zzc3_some, zzc4_some, zzc5_some, zzc6_some, zzb1_q, zzb2_q, zzb3_q, zzb4_q, zzb5_q, zzc1_q, zzc2_q, zzc3_q, zzc4_q, zzc5_q, zmap_zb1, zmap_zb2, zmap_zb3, zmap_zb4, zmap_zb5, zmap_zb6, zzc1_ite, zzc2_ite, zzc3_ite, zzc4_ite, zzc1_zb0, zzc1_zb1, zzc1_zb2, zzc1_zb3, zzc1_zb4, zzc2_zb0, zzc2_zb1, zzc2_zb2, zzc2_zb3, zzc2_zb4, zzc3_zb0, zzc3_zb1, zzc3_zb2, zzc3_zb3, zzc3_zb4, zzc4_zb0, zzc4_zb1, zzc4_zb2, zzc4_zb3, zzc4_zb4, md_ck, md_g19, md_a19, md_s19, eX12_later]
def gX12_kindBy  (x0 : Int64) : Option (Int32) :=
  zb1 (if (lg_cmp x0 126879447934322) = 0 then (
  some 0)
  else (
  if (lg_cmp x0 422877685106) = 0 then (
  some 1)
  else (
  if (lg_cmp x0 8102650148546962802) = 0 then (
  some 2)
  else (
  some (-1)))) : Option (Int32)) fun (s1 : Int32) =>
  some s1
set_option maxRecDepth 100000 in
theorem eX12_kindBy {μ : zM} {x0 : Int64} : fX12_kindBy μ x0 = gX12_kindBy x0 := by simp only [fX12_kindBy, gX12_kindBy, zgd_t, zmap_ite, zmap_some, zmap_none, zmap_zb0, zmap_zni, zq2_k, zq3_k, zq4_k, zq5_k, zzb1_some, zzb2_some, zzb3_some, zzb4_some, zzb5_some, zzb6_some, zzb1_q, zzb2_q, zzb3_q, zzb4_q, zzb5_q, zmap_zb1, zmap_zb2, zmap_zb3, zmap_zb4, zmap_zb5, zmap_zb6, md_ck]
def gX12_personLine (M : zMS) (x1 : Int32) : Option (Int32 × zMS) :=
  zb2 (gX12_take M 0 0 30) fun v3 M2 =>
  if v3 = 0 then (
  some (0, M2))
  else (
  zb2 (gX12_take M2 1 0 99) fun v6 M5 =>
  if v6 = 0 then (
  some (0, M5))
  else (
  zb1 (zag 4 (M5.2.2 20) 0) fun v11 =>
  zb1 (gX12_greater (M5.1 21) v11) fun v14 =>
  zb1 (some (zsI M5 21 v14)) fun M15 =>
  zb1 (zag 121 (M15.2.2 19) 1) fun v19 =>
  zc1 (if 6 ≤ v19 then (
  some M15)
  else (
  zb1 (zas 121 (M15.2.2 19) (27 + v19) x1) fun f25 =>
  zb1 (some (zsA M15 19 f25)) fun M25 =>
  zb1 (zag 4 (M25.2.2 20) 0) fun v31 =>
  zb1 (zas 121 (M25.2.2 19) (33 + v19) v31) fun f33 =>
  zb1 (some (zsA M25 19 f33)) fun M33 =>
  zb1 (zag 4 (M33.2.2 20) 1) fun v39 =>
  zb1 (zas 121 (M33.2.2 19) (39 + v19) v39) fun f41 =>
  zb1 (some (zsA M33 19 f41)) fun M41 =>
  zb1 (zag 121 (M41.2.2 19) 1) fun v45 =>
  zb1 (zas 121 (M41.2.2 19) 1 (v45 + 1)) fun f47 =>
  zb1 (some (zsA M41 19 f47)) fun M47 =>
  some M47) : Option (zMS)) fun (m21 : zMS) =>
  some (1, m21)))
set_option maxRecDepth 100000 in
theorem eX12_personLine {ν : zM} {Y : Nat} {M : zMS} {x1 : Int32}  : fX12_personLine (mdl ν Y M) Y x1 = Option.map (zq2 (mdl ν Y)) (gX12_personLine M x1) := by simp only [fX12_personLine, gX12_personLine, zgd_t, zmap_ite, zmap_some, zmap_none, zmap_zb0, zmap_zni, zq2_k, zq3_k, zq4_k, zq5_k, zzb1_some, zzb2_some, zzb3_some, zzb4_some, zzb5_some, zzb6_some, zzc1_some, zzc2_some, zzc3_some, zzc4_some, zzc5_some, zzc6_some, zzb1_q, zzb2_q, zzb3_q, zzb4_q, zzb5_q, zzc1_q, zzc2_q, zzc3_q, zzc4_q, zzc5_q, zmap_zb1, zmap_zb2, zmap_zb3, zmap_zb4, zmap_zb5, zmap_zb6, zzc1_ite, zzc2_ite, zzc3_ite, zzc4_ite, zzc1_zb0, zzc1_zb1, zzc1_zb2, zzc1_zb3, zzc1_zb4, zzc2_zb0, zzc2_zb1, zzc2_zb2, zzc2_zb3, zzc2_zb4, zzc3_zb0, zzc3_zb1, zzc3_zb2, zzc3_zb3, zzc3_zb4, zzc4_zb0, zzc4_zb1, zzc4_zb2, zzc4_zb3, zzc4_zb4, md_ck, md_g19, md_g20, md_g21, md_p21, md_a19, md_s19, md_a20, md_s20, eX12_greater, eX12_take]
def gX12_skyLine (M : zMS) (x1 : Int32) : Option (Int32 × zMS) :=
  zb2 (gX12_take M 0 0 99) fun v3 M2 =>
  if v3 = 0 then (
  some (0, M2))
  else (
  zb1 (zag 4 (M2.2.2 20) 0) fun v6 =>
  zb2 (gX12_take M2 1 v6 99) fun v10 M9 =>
  if v10 = 0 then (
  some (0, M9))
  else (
  zb1 (zag 121 (M9.2.2 19) 2) fun v13 =>
  zc1 (if 4 ≤ v13 then (
  some M9)
  else (
  zb1 (if x1 = 0 then (
  some 0)
  else (
  some 1) : Option (Int32)) fun (s19 : Int32) =>
  zb1 (zas 121 (M9.2.2 19) (45 + v13) s19) fun f21 =>
  zb1 (some (zsA M9 19 f21)) fun M21 =>
  zb1 (zag 4 (M21.2.2 20) 0) fun v27 =>
  zb1 (zas 121 (M21.2.2 19) (49 + v13) v27) fun f29 =>
  zb1 (some (zsA M21 19 f29)) fun M29 =>
  zb1 (zag 4 (M29.2.2 20) 1) fun v35 =>
  zb1 (zas 121 (M29.2.2 19) (53 + v13) v35) fun f37 =>
  zb1 (some (zsA M29 19 f37)) fun M37 =>
  zb1 (zag 121 (M37.2.2 19) 2) fun v41 =>
  zb1 (zas 121 (M37.2.2 19) 2 (v41 + 1)) fun f43 =>
  zb1 (some (zsA M37 19 f43)) fun M43 =>
  some M43) : Option (zMS)) fun (m15 : zMS) =>
  some (1, m15)))
set_option maxRecDepth 100000 in
theorem eX12_skyLine {ν : zM} {Y : Nat} {M : zMS} {x1 : Int32}  : fX12_skyLine (mdl ν Y M) Y x1 = Option.map (zq2 (mdl ν Y)) (gX12_skyLine M x1) := by simp only [fX12_skyLine, gX12_skyLine, zgd_t, zmap_ite, zmap_some, zmap_none, zmap_zb0, zmap_zni, zq2_k, zq3_k, zq4_k, zq5_k, zzb1_some, zzb2_some, zzb3_some, zzb4_some, zzb5_some, zzb6_some, zzc1_some, zzc2_some, zzc3_some, zzc4_some, zzc5_some, zzc6_some, zzb1_q, zzb2_q, zzb3_q, zzb4_q, zzb5_q, zzc1_q, zzc2_q, zzc3_q, zzc4_q, zzc5_q, zmap_zb1, zmap_zb2, zmap_zb3, zmap_zb4, zmap_zb5, zmap_zb6, zzc1_ite, zzc2_ite, zzc3_ite, zzc4_ite, zzc1_zb0, zzc1_zb1, zzc1_zb2, zzc1_zb3, zzc1_zb4, zzc2_zb0, zzc2_zb1, zzc2_zb2, zzc2_zb3, zzc2_zb4, zzc3_zb0, zzc3_zb1, zzc3_zb2, zzc3_zb3, zzc3_zb4, zzc4_zb0, zzc4_zb1, zzc4_zb2, zzc4_zb3, zzc4_zb4, md_ck, md_g19, md_g20, md_a19, md_s19, md_a20, md_s20, eX12_take]
def gX12_wordLine (M : zMS) (x1 : Int64) : Option (Int32 × zMS) :=
  zb1 (if (lg_cmp x1 126892383759460) = 0 then (
  some 7)
  else (
  if (lg_cmp x1 32765925218805876) = 0 then (
  some 9)
  else (
  some 99)) : Option (Int32)) fun (s1 : Int32) =>
  zb2 (gX12_take M 0 0 7) fun v5 M4 =>
  if v5 = 0 then (
  some (0, M4))
  else (
  zb2 (gX12_take M4 1 0 s1) fun v8 M7 =>
  if v8 = 0 then (
  some (0, M7))
  else (
  zc1 (if (M7.1 22) = 0 then (
  some M7)
  else (
  zb1 (if (lg_cmp x1 126892383759460) = 0 then (
  some 3)
  else (
  if (lg_cmp x1 32765925218805876) = 0 then (
  some 11)
  else (
  some 19)) : Option (Int32)) fun (s15 : Int32) =>
  zb1 (zag 4 (M7.2.2 20) 0) fun v19 =>
  zb1 (zag 4 (M7.2.2 20) 1) fun v23 =>
  zb1 (zas 121 (M7.2.2 19) (s15 + v19) v23) fun f25 =>
  zb1 (some (zsA M7 19 f25)) fun M25 =>
  some M25) : Option (zMS)) fun (m11 : zMS) =>
  some (1, m11)))
set_option maxRecDepth 100000 in
theorem eX12_wordLine {ν : zM} {Y : Nat} {M : zMS} {x1 : Int64}  : fX12_wordLine (mdl ν Y M) Y x1 = Option.map (zq2 (mdl ν Y)) (gX12_wordLine M x1) := by simp only [fX12_wordLine, gX12_wordLine, zgd_t, zmap_ite, zmap_some, zmap_none, zmap_zb0, zmap_zni, zq2_k, zq3_k, zq4_k, zq5_k, zzb1_some, zzb2_some, zzb3_some, zzb4_some, zzb5_some, zzb6_some, zzc1_some, zzc2_some, zzc3_some, zzc4_some, zzc5_some, zzc6_some, zzb1_q, zzb2_q, zzb3_q, zzb4_q, zzb5_q, zzc1_q, zzc2_q, zzc3_q, zzc4_q, zzc5_q, zmap_zb1, zmap_zb2, zmap_zb3, zmap_zb4, zmap_zb5, zmap_zb6, zzc1_ite, zzc2_ite, zzc3_ite, zzc4_ite, zzc1_zb0, zzc1_zb1, zzc1_zb2, zzc1_zb3, zzc1_zb4, zzc2_zb0, zzc2_zb1, zzc2_zb2, zzc2_zb3, zzc2_zb4, zzc3_zb0, zzc3_zb1, zzc3_zb2, zzc3_zb3, zzc3_zb4, zzc4_zb0, zzc4_zb1, zzc4_zb2, zzc4_zb3, zzc4_zb4, md_ck, md_g19, md_g20, md_g22, md_a19, md_s19, md_a20, md_s20, eX12_take]
def gX12_valleyLine_b22  : Option (Int32) :=
  some 1
def gX12_valleyLine_b77 (v2 : Int32) (M : zMS) (x3 : Int32) (s3 : Int32) (x1 : Int64) : Option (Int32 × zMS) :=
  zc1 (if v2 = (-1) then (
  some M)
  else (
  zb1 (gX12_full M 1 6 x3) fun M43 =>
  some M43) : Option (zMS)) fun (m6 : zMS) =>
  zc1 (if s3 = 0 then (
  some m6)
  else (
  zb1 (gX12_full m6 2 4 x3) fun M41 =>
  some M41) : Option (zMS)) fun (m8 : zMS) =>
  zb1 (gX12_token m8) fun M11 =>
  if v2 = (-1) then (
  if s3 = 0 then (
  if (lg_cmp x1 2003395685) = 0 then (
  zb2 (gX12_take M11 0 2 30) fun v14 M13 =>
  if v14 = 0 then (
  some (0, M13))
  else (
  zb1 (zag 4 (M13.2.2 20) 0) fun v19 =>
  zb1 (zas 121 (M13.2.2 19) 0 v19) fun f21 =>
  zb1 (some (zsA M13 19 f21)) fun M21 =>
  some (1, M21)))
  else (
  zb2 (gX12_wordLine M11 x1) fun v25 M24 =>
  zb1 (zbz v25) fun v26 =>
  some (v26, M24)))
  else (
  zb1 (if (lg_cmp x1 1936617335) = 0 then (
  some 1)
  else (
  some 0) : Option (Int32)) fun (s28 : Int32) =>
  zb2 (gX12_skyLine M11 s28) fun v32 M31 =>
  zb1 (zbz v32) fun v33 =>
  some (v33, M31)))
  else (
  zb2 (gX12_personLine M11 v2) fun v37 M36 =>
  zb1 (zbz v37) fun v38 =>
  some (v38, M36))
def gX12_valleyLine (M : zMS) (x1 : Int64) (x3 : Int32) : Option (Int32 × zMS) :=
  zb1 (gX12_kindBy x1) fun v2 =>
  zb1 (if (lg_cmp x1 6713191) = 0 then (
  gX12_valleyLine_b22)
  else (
  if (lg_cmp x1 1936617335) = 0 then (
  gX12_valleyLine_b22)
  else (
  some 0)) : Option (Int32)) fun (s3 : Int32) =>
  if v2 = (-1) then (
  if s3 = 0 then (
  if (lg_cmp x1 2003395685) = 0 then (
  gX12_valleyLine_b77 v2 M x3 s3 x1)
  else (
  if (lg_cmp x1 126892383759460) = 0 then (
  gX12_valleyLine_b77 v2 M x3 s3 x1)
  else (
  if (lg_cmp x1 32765925218805876) = 0 then (
  gX12_valleyLine_b77 v2 M x3 s3 x1)
  else (
  if (lg_cmp x1 131277443786868) = 0 then (
  gX12_valleyLine_b77 v2 M x3 s3 x1)
  else (
  zb2 (gX12_fails M) fun v47 M46 =>
  zb1 (zbz v47) fun v48 =>
  some (v48, M46))))))
  else (
  gX12_valleyLine_b77 v2 M x3 s3 x1))
  else (
  gX12_valleyLine_b77 v2 M x3 s3 x1)
set_option maxRecDepth 100000 in
theorem eX12_valleyLine_b22     : fX12_valleyLine_b22  = gX12_valleyLine_b22  := by simp only [fX12_valleyLine_b22, gX12_valleyLine_b22, zgd_t, zmap_ite, zmap_some, zmap_none, zmap_zb0, zmap_zni, zq2_k, zq3_k, zq4_k, zq5_k, zzb1_some, zzb2_some, zzb3_some, zzb4_some, zzb5_some, zzb6_some, zzc1_some, zzc2_some, zzc3_some, zzc4_some, zzc5_some, zzc6_some, zzb1_q, zzb2_q, zzb3_q, zzb4_q, zzb5_q, zzc1_q, zzc2_q, zzc3_q, zzc4_q, zzc5_q, zmap_zb1, zmap_zb2, zmap_zb3, zmap_zb4, zmap_zb5, zmap_zb6, zzc1_ite, zzc2_ite, zzc3_ite, zzc4_ite, zzc1_zb0, zzc1_zb1, zzc1_zb2, zzc1_zb3, zzc1_zb4, zzc2_zb0, zzc2_zb1, zzc2_zb2, zzc2_zb3, zzc2_zb4, zzc3_zb0, zzc3_zb1, zzc3_zb2, zzc3_zb3, zzc3_zb4, zzc4_zb0, zzc4_zb1, zzc4_zb2, zzc4_zb3, zzc4_zb4, md_ck, md_g19, md_g20, md_a19, md_s19, md_a20, md_s20, eX12_fails, eX12_full, eX12_kindBy, eX12_personLine, eX12_skyLine, eX12_take, eX12_token, eX12_wordLine]
set_option maxRecDepth 100000 in
theorem eX12_valleyLine_b77 {ν : zM} {Y : Nat} {v2 : Int32} {M : zMS} {x3 : Int32} {s3 : Int32} {x1 : Int64}   : fX12_valleyLine_b77 v2 (mdl ν Y M) Y x3 s3 x1  = Option.map (zq2 (mdl ν Y)) (gX12_valleyLine_b77 v2 M x3 s3 x1 ) := by simp only [fX12_valleyLine_b77, gX12_valleyLine_b77, zgd_t, zmap_ite, zmap_some, zmap_none, zmap_zb0, zmap_zni, zq2_k, zq3_k, zq4_k, zq5_k, zzb1_some, zzb2_some, zzb3_some, zzb4_some, zzb5_some, zzb6_some, zzc1_some, zzc2_some, zzc3_some, zzc4_some, zzc5_some, zzc6_some, zzb1_q, zzb2_q, zzb3_q, zzb4_q, zzb5_q, zzc1_q, zzc2_q, zzc3_q, zzc4_q, zzc5_q, zmap_zb1, zmap_zb2, zmap_zb3, zmap_zb4, zmap_zb5, zmap_zb6, zzc1_ite, zzc2_ite, zzc3_ite, zzc4_ite, zzc1_zb0, zzc1_zb1, zzc1_zb2, zzc1_zb3, zzc1_zb4, zzc2_zb0, zzc2_zb1, zzc2_zb2, zzc2_zb3, zzc2_zb4, zzc3_zb0, zzc3_zb1, zzc3_zb2, zzc3_zb3, zzc3_zb4, zzc4_zb0, zzc4_zb1, zzc4_zb2, zzc4_zb3, zzc4_zb4, md_ck, md_g19, md_g20, md_a19, md_s19, md_a20, md_s20, eX12_fails, eX12_full, eX12_kindBy, eX12_personLine, eX12_skyLine, eX12_take, eX12_token, eX12_wordLine, eX12_valleyLine_b22]
set_option maxRecDepth 100000 in
theorem eX12_valleyLine {ν : zM} {Y : Nat} {M : zMS} {x1 : Int64} {x3 : Int32}  : fX12_valleyLine (mdl ν Y M) Y x1 x3 = Option.map (zq2 (mdl ν Y)) (gX12_valleyLine M x1 x3) := by simp only [fX12_valleyLine, gX12_valleyLine, zgd_t, zmap_ite, zmap_some, zmap_none, zmap_zb0, zmap_zni, zq2_k, zq3_k, zq4_k, zq5_k, zzb1_some, zzb2_some, zzb3_some, zzb4_some, zzb5_some, zzb6_some, zzc1_some, zzc2_some, zzc3_some, zzc4_some, zzc5_some, zzc6_some, zzb1_q, zzb2_q, zzb3_q, zzb4_q, zzb5_q, zzc1_q, zzc2_q, zzc3_q, zzc4_q, zzc5_q, zmap_zb1, zmap_zb2, zmap_zb3, zmap_zb4, zmap_zb5, zmap_zb6, zzc1_ite, zzc2_ite, zzc3_ite, zzc4_ite, zzc1_zb0, zzc1_zb1, zzc1_zb2, zzc1_zb3, zzc1_zb4, zzc2_zb0, zzc2_zb1, zzc2_zb2, zzc2_zb3, zzc2_zb4, zzc3_zb0, zzc3_zb1, zzc3_zb2, zzc3_zb3, zzc3_zb4, zzc4_zb0, zzc4_zb1, zzc4_zb2, zzc4_zb3, zzc4_zb4, md_ck, md_g19, md_g20, md_a19, md_s19, md_a20, md_s20, eX12_fails, eX12_full, eX12_kindBy, eX12_personLine, eX12_skyLine, eX12_take, eX12_token, eX12_wordLine, eX12_valleyLine_b22, eX12_valleyLine_b77]
def gX12_keep_l19 (x3 : Int32) (x2 : Int32) (v3 : Int32) (F7 : Int32 → zMS → Option (zMS)) (x6_5 : Int32) (m6 : zMS) : Option (zMS) :=
  if x3 ≤ x6_5 then (
  some m6)
  else (
  zb1 (zag 4 (m6.2.2 20) x6_5) fun v15 =>
  zb1 (zas 121 (m6.2.2 19) ((x2 + (x3 * v3)) + x6_5) v15) fun f17 =>
  zb1 (some (zsA m6 19 f17)) fun M17 =>
  F7 (x6_5 + 1) M17)
def gX12_keep (M : zMS) (x1 : Int32) (x2 : Int32) (x3 : Int32) (x4 : Int32) : Option (zMS) :=
  zb1 (zag 121 (M.2.2 19) x1) fun v3 =>
  if v3 = x4 then (
  some M)
  else (
  zb1 (zf2 (gX12_keep_l19 x3 x2 v3) zfu 0 M : Option (zMS)) fun (m9 : zMS) =>
  zb1 (zag 121 (m9.2.2 19) x1) fun v22 =>
  zb1 (zas 121 (m9.2.2 19) x1 (v22 + 1)) fun f24 =>
  zb1 (some (zsA m9 19 f24)) fun M24 =>
  some M24)
set_option maxRecDepth 100000 in
theorem eX12_keep_l19 {ν : zM} {Y : Nat} {x3 : Int32} {x2 : Int32} {v3 : Int32} {x6_5 : Int32} {m6 : zMS}   (n : Nat) : zf2 (fX12_keep_l19 x3 Y x2 v3) n x6_5 (mdl ν Y m6) = Option.map (mdl ν Y) (zf2 (gX12_keep_l19 x3 x2 v3) n x6_5 m6) := by
  refine zf2_m (fun F7 G7 hF7 x6_5 m6 => ?_) n x6_5 m6
  simp only [fX12_keep_l19, gX12_keep_l19, zgd_t, zmap_ite, zmap_some, zmap_none, zmap_zb0, zmap_zni, zq2_k, zq3_k, zq4_k, zq5_k, zzb1_some, zzb2_some, zzb3_some, zzb4_some, zzb5_some, zzb6_some, zzb1_q, zzb2_q, zzb3_q, zzb4_q, zzb5_q, zmap_zb1, zmap_zb2, zmap_zb3, zmap_zb4, zmap_zb5, zmap_zb6, md_ck, md_g19, md_g20, md_a19, md_s19, md_a20, md_s20, hF7]
set_option maxRecDepth 100000 in
theorem eX12_keep {ν : zM} {Y : Nat} {M : zMS} {x1 : Int32} {x2 : Int32} {x3 : Int32} {x4 : Int32}  : fX12_keep (mdl ν Y M) Y x1 x2 x3 x4 = Option.map (mdl ν Y) (gX12_keep M x1 x2 x3 x4) := by simp only [fX12_keep, gX12_keep, zgd_t, zmap_ite, zmap_some, zmap_none, zmap_zb0, zmap_zni, zq2_k, zq3_k, zq4_k, zq5_k, zzb1_some, zzb2_some, zzb3_some, zzb4_some, zzb5_some, zzb6_some, zzb1_q, zzb2_q, zzb3_q, zzb4_q, zzb5_q, zmap_zb1, zmap_zb2, zmap_zb3, zmap_zb4, zmap_zb5, zmap_zb6, md_ck, md_g19, md_g20, md_a19, md_s19, md_a20, md_s20, eX12_keep_l19]
def gX12_deedBy  (x0 : Int64) : Option (Int32) :=
  zb1 (if (lg_cmp x0 33610324346168690) = 0 then (
  some 0)
  else (
  if (lg_cmp x0 7561593) = 0 then (
  some 1)
  else (
  if (lg_cmp x0 495673374068) = 0 then (
  some 2)
  else (
  if (lg_cmp x0 2002873451) = 0 then (
  some 3)
  else (
  if (lg_cmp x0 2002872692) = 0 then (
  some 4)
  else (
  some (-1)))))) : Option (Int32)) fun (s1 : Int32) =>
  some s1
set_option maxRecDepth 100000 in
theorem eX12_deedBy {μ : zM} {x0 : Int64} : fX12_deedBy μ x0 = gX12_deedBy x0 := by simp only [fX12_deedBy, gX12_deedBy, zgd_t, zmap_ite, zmap_some, zmap_none, zmap_zb0, zmap_zni, zq2_k, zq3_k, zq4_k, zq5_k, zzb1_some, zzb2_some, zzb3_some, zzb4_some, zzb5_some, zzb6_some, zzb1_q, zzb2_q, zzb3_q, zzb4_q, zzb5_q, zmap_zb1, zmap_zb2, zmap_zb3, zmap_zb4, zmap_zb5, zmap_zb6, md_ck]
def gX12_dayLine_b107 (v2 : Int32) (m20 : zMS) : Option (Int32 × zMS) :=
  zb1 (zas 4 (m20.2.2 20) 0 v2) fun f23 =>
  zb1 (some (zsA m20 20 f23)) fun M23 =>
  zb1 (gX12_keep M23 0 1 3 40) fun M26 =>
  some (1, M26)
def gX12_dayLine (M : zMS) (x1 : Int64) (x3 : Int32) : Option (Int32 × zMS) :=
  zb1 (gX12_deedBy x1) fun v2 =>
  if v2 = (-1) then (
  zb2 (gX12_fails M) fun v35 M34 =>
  zb1 (zbz v35) fun v36 =>
  some (v36, M34))
  else (
  zb1 (gX12_full M 0 40 x3) fun M4 =>
  zb1 (gX12_token M4) fun M6 =>
  zb1 (zas 4 (M6.2.2 20) 2 (-1)) fun f9 =>
  zb1 (some (zsA M6 20 f9)) fun M9 =>
  zb1 (if v2 = 4 then (
  some 1)
  else (
  some 0) : Option (Int32)) fun (s11 : Int32) =>
  zb1 (if s11 = 0 then (
  some 0)
  else (
  some 1) : Option (Int32)) fun (s13 : Int32) =>
  zb1 (if s11 = 0 then (
  some 5)
  else (
  some 60) : Option (Int32)) fun (s15 : Int32) =>
  zb2 (gX12_take M9 1 s13 s15) fun v19 M18 =>
  if v19 = 0 then (
  some (0, M18))
  else (
  if s11 = 0 then (
  zb1 (if v2 = 3 then (
  some 30)
  else (
  some 7) : Option (Int32)) fun (s28 : Int32) =>
  zb2 (gX12_take M18 2 0 s28) fun v32 M31 =>
  if v32 = 0 then (
  some (0, M31))
  else (
  gX12_dayLine_b107 v2 M31))
  else (
  gX12_dayLine_b107 v2 M18)))
set_option maxRecDepth 100000 in
theorem eX12_dayLine_b107 {ν : zM} {Y : Nat} {v2 : Int32} {m20 : zMS}   : fX12_dayLine_b107 Y v2 (mdl ν Y m20) = Option.map (zq2 (mdl ν Y)) (gX12_dayLine_b107 v2 m20) := by simp only [fX12_dayLine_b107, gX12_dayLine_b107, zgd_t, zmap_ite, zmap_some, zmap_none, zmap_zb0, zmap_zni, zq2_k, zq3_k, zq4_k, zq5_k, zzb1_some, zzb2_some, zzb3_some, zzb4_some, zzb5_some, zzb6_some, zzb1_q, zzb2_q, zzb3_q, zzb4_q, zzb5_q, zmap_zb1, zmap_zb2, zmap_zb3, zmap_zb4, zmap_zb5, zmap_zb6, md_ck, md_g20, md_a20, md_s20, eX12_deedBy, eX12_fails, eX12_full, eX12_keep, eX12_take, eX12_token]
set_option maxRecDepth 100000 in
theorem eX12_dayLine {ν : zM} {Y : Nat} {M : zMS} {x1 : Int64} {x3 : Int32}  : fX12_dayLine (mdl ν Y M) Y x1 x3 = Option.map (zq2 (mdl ν Y)) (gX12_dayLine M x1 x3) := by simp only [fX12_dayLine, gX12_dayLine, zgd_t, zmap_ite, zmap_some, zmap_none, zmap_zb0, zmap_zni, zq2_k, zq3_k, zq4_k, zq5_k, zzb1_some, zzb2_some, zzb3_some, zzb4_some, zzb5_some, zzb6_some, zzb1_q, zzb2_q, zzb3_q, zzb4_q, zzb5_q, zmap_zb1, zmap_zb2, zmap_zb3, zmap_zb4, zmap_zb5, zmap_zb6, md_ck, md_g20, md_a20, md_s20, eX12_deedBy, eX12_fails, eX12_full, eX12_keep, eX12_take, eX12_token, eX12_dayLine_b107]
def gX12_lessonLine_b86 (x1 : Int64) (m10 : zMS) : Option (Int32 × zMS) :=
  zc1 (if (lg_cmp x1 1734440549) = 0 then (
  zb1 (gX12_keep m10 1 2 2 10) fun M22 =>
  some M22)
  else (
  zb1 (zag 4 (m10.2.2 20) 0) fun v17 =>
  zb1 (zas 121 (m10.2.2 19) 0 v17) fun f19 =>
  zb1 (some (zsA m10 19 f19)) fun M19 =>
  some M19) : Option (zMS)) fun (m11 : zMS) =>
  some (1, m11)
def gX12_lessonLine_b21 (x1 : Int64) (M : zMS) (x3 : Int32) : Option (Int32 × zMS) :=
  zc1 (if (lg_cmp x1 1734440549) = 0 then (
  zb1 (gX12_full M 1 10 x3) fun M28 =>
  some M28)
  else (
  some M) : Option (zMS)) fun (m1 : zMS) =>
  zb1 (gX12_token m1) fun M4 =>
  zb1 (if (lg_cmp x1 1734440549) = 0 then (
  some 7)
  else (
  some 9) : Option (Int32)) fun (s5 : Int32) =>
  zb2 (gX12_take M4 0 0 s5) fun v9 M8 =>
  if v9 = 0 then (
  some (0, M8))
  else (
  if (lg_cmp x1 1734440549) = 0 then (
  zb2 (gX12_take M8 1 0 7) fun v26 M25 =>
  if v26 = 0 then (
  some (0, M25))
  else (
  gX12_lessonLine_b86 x1 M25))
  else (
  gX12_lessonLine_b86 x1 M8))
def gX12_lessonLine (M : zMS) (x1 : Int64) (x3 : Int32) : Option (Int32 × zMS) :=
  if (lg_cmp x1 1734440549) = 0 then (
  gX12_lessonLine_b21 x1 M x3)
  else (
  if (lg_cmp x1 1818846579) = 0 then (
  gX12_lessonLine_b21 x1 M x3)
  else (
  zb2 (gX12_fails M) fun v32 M31 =>
  zb1 (zbz v32) fun v33 =>
  some (v33, M31)))
set_option maxRecDepth 100000 in
theorem eX12_lessonLine_b86 {ν : zM} {Y : Nat} {x1 : Int64} {m10 : zMS}   : fX12_lessonLine_b86 x1 Y (mdl ν Y m10) = Option.map (zq2 (mdl ν Y)) (gX12_lessonLine_b86 x1 m10) := by simp only [fX12_lessonLine_b86, gX12_lessonLine_b86, zgd_t, zmap_ite, zmap_some, zmap_none, zmap_zb0, zmap_zni, zq2_k, zq3_k, zq4_k, zq5_k, zzb1_some, zzb2_some, zzb3_some, zzb4_some, zzb5_some, zzb6_some, zzc1_some, zzc2_some, zzc3_some, zzc4_some, zzc5_some, zzc6_some, zzb1_q, zzb2_q, zzb3_q, zzb4_q, zzb5_q, zzc1_q, zzc2_q, zzc3_q, zzc4_q, zzc5_q, zmap_zb1, zmap_zb2, zmap_zb3, zmap_zb4, zmap_zb5, zmap_zb6, zzc1_ite, zzc2_ite, zzc3_ite, zzc4_ite, zzc1_zb0, zzc1_zb1, zzc1_zb2, zzc1_zb3, zzc1_zb4, zzc2_zb0, zzc2_zb1, zzc2_zb2, zzc2_zb3, zzc2_zb4, zzc3_zb0, zzc3_zb1, zzc3_zb2, zzc3_zb3, zzc3_zb4, zzc4_zb0, zzc4_zb1, zzc4_zb2, zzc4_zb3, zzc4_zb4, md_ck, md_g19, md_g20, md_a19, md_s19, md_a20, md_s20, eX12_fails, eX12_full, eX12_keep, eX12_take, eX12_token]
set_option maxRecDepth 100000 in
theorem eX12_lessonLine_b21 {ν : zM} {Y : Nat} {x1 : Int64} {M : zMS} {x3 : Int32}   : fX12_lessonLine_b21 x1 (mdl ν Y M) Y x3  = Option.map (zq2 (mdl ν Y)) (gX12_lessonLine_b21 x1 M x3 ) := by simp only [fX12_lessonLine_b21, gX12_lessonLine_b21, zgd_t, zmap_ite, zmap_some, zmap_none, zmap_zb0, zmap_zni, zq2_k, zq3_k, zq4_k, zq5_k, zzb1_some, zzb2_some, zzb3_some, zzb4_some, zzb5_some, zzb6_some, zzc1_some, zzc2_some, zzc3_some, zzc4_some, zzc5_some, zzc6_some, zzb1_q, zzb2_q, zzb3_q, zzb4_q, zzb5_q, zzc1_q, zzc2_q, zzc3_q, zzc4_q, zzc5_q, zmap_zb1, zmap_zb2, zmap_zb3, zmap_zb4, zmap_zb5, zmap_zb6, zzc1_ite, zzc2_ite, zzc3_ite, zzc4_ite, zzc1_zb0, zzc1_zb1, zzc1_zb2, zzc1_zb3, zzc1_zb4, zzc2_zb0, zzc2_zb1, zzc2_zb2, zzc2_zb3, zzc2_zb4, zzc3_zb0, zzc3_zb1, zzc3_zb2, zzc3_zb3, zzc3_zb4, zzc4_zb0, zzc4_zb1, zzc4_zb2, zzc4_zb3, zzc4_zb4, md_ck, md_g19, md_g20, md_a19, md_s19, md_a20, md_s20, eX12_fails, eX12_full, eX12_keep, eX12_take, eX12_token, eX12_lessonLine_b86]
set_option maxRecDepth 100000 in
theorem eX12_lessonLine {ν : zM} {Y : Nat} {M : zMS} {x1 : Int64} {x3 : Int32}  : fX12_lessonLine (mdl ν Y M) Y x1 x3 = Option.map (zq2 (mdl ν Y)) (gX12_lessonLine M x1 x3) := by simp only [fX12_lessonLine, gX12_lessonLine, zgd_t, zmap_ite, zmap_some, zmap_none, zmap_zb0, zmap_zni, zq2_k, zq3_k, zq4_k, zq5_k, zzb1_some, zzb2_some, zzb3_some, zzb4_some, zzb5_some, zzb6_some, zzc1_some, zzc2_some, zzc3_some, zzc4_some, zzc5_some, zzc6_some, zzb1_q, zzb2_q, zzb3_q, zzb4_q, zzb5_q, zzc1_q, zzc2_q, zzc3_q, zzc4_q, zzc5_q, zmap_zb1, zmap_zb2, zmap_zb3, zmap_zb4, zmap_zb5, zmap_zb6, zzc1_ite, zzc2_ite, zzc3_ite, zzc4_ite, zzc1_zb0, zzc1_zb1, zzc1_zb2, zzc1_zb3, zzc1_zb4, zzc2_zb0, zzc2_zb1, zzc2_zb2, zzc2_zb3, zzc2_zb4, zzc3_zb0, zzc3_zb1, zzc3_zb2, zzc3_zb3, zzc3_zb4, zzc4_zb0, zzc4_zb1, zzc4_zb2, zzc4_zb3, zzc4_zb4, md_ck, md_g19, md_g20, md_a19, md_s19, md_a20, md_s20, eX12_fails, eX12_full, eX12_keep, eX12_take, eX12_token, eX12_lessonLine_b86, eX12_lessonLine_b21]
def gX12_sightLine_b21 (M : zMS) (x3 : Int32) (x1 : Int64) : Option (Int32 × zMS) :=
  zb1 (gX12_full M 0 8 x3) fun M2 =>
  zb1 (gX12_token M2) fun M4 =>
  zb2 (gX12_take M4 1 0 30) fun v7 M6 =>
  if v7 = 0 then (
  some (0, M6))
  else (
  zb2 (gX12_take M6 2 0 99) fun v10 M9 =>
  if v10 = 0 then (
  some (0, M9))
  else (
  zb2 (gX12_take M9 3 0 7) fun v13 M12 =>
  if v13 = 0 then (
  some (0, M12))
  else (
  zb1 (if (lg_cmp x1 448377483876) = 0 then (
  some 1)
  else (
  some 0) : Option (Int32)) fun (s16 : Int32) =>
  zb1 (zas 4 (M12.2.2 20) 0 s16) fun f18 =>
  zb1 (some (zsA M12 20 f18)) fun M18 =>
  zb1 (gX12_keep M18 0 1 4 8) fun M21 =>
  some (1, M21))))
def gX12_sightLine (M : zMS) (x1 : Int64) (x3 : Int32) : Option (Int32 × zMS) :=
  if (lg_cmp x1 448377483876) = 0 then (
  gX12_sightLine_b21 M x3 x1)
  else (
  if (lg_cmp x1 7237492) = 0 then (
  gX12_sightLine_b21 M x3 x1)
  else (
  zb2 (gX12_fails M) fun v25 M24 =>
  zb1 (zbz v25) fun v26 =>
  some (v26, M24)))
set_option maxRecDepth 100000 in
theorem eX12_sightLine_b21 {ν : zM} {Y : Nat} {M : zMS} {x3 : Int32} {x1 : Int64}   : fX12_sightLine_b21 (mdl ν Y M) Y x3 x1  = Option.map (zq2 (mdl ν Y)) (gX12_sightLine_b21 M x3 x1 ) := by simp only [fX12_sightLine_b21, gX12_sightLine_b21, zgd_t, zmap_ite, zmap_some, zmap_none, zmap_zb0, zmap_zni, zq2_k, zq3_k, zq4_k, zq5_k, zzb1_some, zzb2_some, zzb3_some, zzb4_some, zzb5_some, zzb6_some, zzb1_q, zzb2_q, zzb3_q, zzb4_q, zzb5_q, zmap_zb1, zmap_zb2, zmap_zb3, zmap_zb4, zmap_zb5, zmap_zb6, md_ck, md_g20, md_a20, md_s20, eX12_fails, eX12_full, eX12_keep, eX12_take, eX12_token]
set_option maxRecDepth 100000 in
theorem eX12_sightLine {ν : zM} {Y : Nat} {M : zMS} {x1 : Int64} {x3 : Int32}  : fX12_sightLine (mdl ν Y M) Y x1 x3 = Option.map (zq2 (mdl ν Y)) (gX12_sightLine M x1 x3) := by simp only [fX12_sightLine, gX12_sightLine, zgd_t, zmap_ite, zmap_some, zmap_none, zmap_zb0, zmap_zni, zq2_k, zq3_k, zq4_k, zq5_k, zzb1_some, zzb2_some, zzb3_some, zzb4_some, zzb5_some, zzb6_some, zzb1_q, zzb2_q, zzb3_q, zzb4_q, zzb5_q, zmap_zb1, zmap_zb2, zmap_zb3, zmap_zb4, zmap_zb5, zmap_zb6, md_ck, md_g20, md_a20, md_s20, eX12_fails, eX12_full, eX12_keep, eX12_take, eX12_token, eX12_sightLine_b21]
def gX12_lineOf (M : zMS) (x1 : Int32) (x2 : Int64) (x4 : Int32) : Option (Int32 × zMS) :=
  if x1 = 0 then (
  zb2 (gX12_valleyLine M x2 x4) fun v3 M2 =>
  zb1 (zbz v3) fun v4 =>
  some (v4, M2))
  else (
  if x1 = 1 then (
  zb2 (gX12_dayLine M x2 x4) fun v9 M8 =>
  zb1 (zbz v9) fun v10 =>
  some (v10, M8))
  else (
  if x1 = 2 then (
  zb2 (gX12_lessonLine M x2 x4) fun v15 M14 =>
  zb1 (zbz v15) fun v16 =>
  some (v16, M14))
  else (
  zb2 (gX12_sightLine M x2 x4) fun v21 M20 =>
  zb1 (zbz v21) fun v22 =>
  some (v22, M20))))
set_option maxRecDepth 100000 in
theorem eX12_lineOf {ν : zM} {Y : Nat} {M : zMS} {x1 : Int32} {x2 : Int64} {x4 : Int32}  : fX12_lineOf (mdl ν Y M) Y x1 x2 x4 = Option.map (zq2 (mdl ν Y)) (gX12_lineOf M x1 x2 x4) := by simp only [fX12_lineOf, gX12_lineOf, zgd_t, zmap_ite, zmap_some, zmap_none, zmap_zb0, zmap_zni, zq2_k, zq3_k, zq4_k, zq5_k, zzb1_some, zzb2_some, zzb3_some, zzb4_some, zzb5_some, zzb6_some, zzb1_q, zzb2_q, zzb3_q, zzb4_q, zzb5_q, zmap_zb1, zmap_zb2, zmap_zb3, zmap_zb4, zmap_zb5, zmap_zb6, md_ck, eX12_dayLine, eX12_lessonLine, eX12_sightLine, eX12_valleyLine]
def gX12_lines_l2 (x1 : Int32) (F3 : Int32 → zMS → Option (Int32 × zMS)) (x2_1 : Int32) (m2 : zMS) : Option (Int32 × zMS) :=
  if x2_1 = 0 then (
  some (x2_1, m2))
  else (
  if (m2.1 13) = 0 then (
  some (x2_1, m2))
  else (
  zb1 (some (zsI m2 22 1)) fun M12 =>
  zb1 (if (M12.1 13) = 2 then (
  some (M12.2.1 15))
  else (
  some 0) : Option (Int64)) fun (s16 : Int64) =>
  zb2 (gX12_lineOf M12 x1 s16 (m2.1 12)) fun v20 M19 =>
  zc2 (if v20 = 0 then (
  some (v20, M19))
  else (
  if (M19.1 13) = 4 then (
  some (v20, M19))
  else (
  zb2 (gX12_fails M19) fun v32 M31 =>
  some (v32, M31))) : Option (Int32 × zMS)) fun (x2_21 : Int32) (m22 : zMS) =>
  zc1 (if x2_21 = 0 then (
  some m22)
  else (
  zb1 (gX12_token m22) fun M27 =>
  some M27) : Option (zMS)) fun (m24 : zMS) =>
  F3 x2_21 m24))
def gX12_lines (M : zMS) (x1 : Int32) : Option (Int32 × zMS) :=
  zb2 (zf2 (gX12_lines_l2 x1) zfu 1 M : Option (Int32 × zMS)) fun (x2_5 : Int32) (m6 : zMS) =>
  zb1 (zbz x2_5) fun v36 =>
  some (v36, m6)
set_option maxRecDepth 100000 in
theorem eX12_lines_l2 {ν : zM} {Y : Nat} {x1 : Int32} {x2_1 : Int32} {m2 : zMS}   (n : Nat) : zf2 (fX12_lines_l2 Y x1) n x2_1 (mdl ν Y m2) = Option.map (zq2 (mdl ν Y)) (zf2 (gX12_lines_l2 x1) n x2_1 m2) := by
  refine zf2_m (fun F3 G3 hF3 x2_1 m2 => ?_) n x2_1 m2
  simp only [fX12_lines_l2, gX12_lines_l2, zgd_t, zmap_ite, zmap_some, zmap_none, zmap_zb0, zmap_zni, zq2_k, zq3_k, zq4_k, zq5_k, zzb1_some, zzb2_some, zzb3_some, zzb4_some, zzb5_some, zzb6_some, zzc1_some, zzc2_some, zzc3_some, zzc4_some, zzc5_some, zzc6_some, zzb1_q, zzb2_q, zzb3_q, zzb4_q, zzb5_q, zzc1_q, zzc2_q, zzc3_q, zzc4_q, zzc5_q, zmap_zb1, zmap_zb2, zmap_zb3, zmap_zb4, zmap_zb5, zmap_zb6, zzc1_ite, zzc2_ite, zzc3_ite, zzc4_ite, zzc1_zb0, zzc1_zb1, zzc1_zb2, zzc1_zb3, zzc1_zb4, zzc2_zb0, zzc2_zb1, zzc2_zb2, zzc2_zb3, zzc2_zb4, zzc3_zb0, zzc3_zb1, zzc3_zb2, zzc3_zb3, zzc3_zb4, zzc4_zb0, zzc4_zb1, zzc4_zb2, zzc4_zb3, zzc4_zb4, md_ck, md_g12, md_g13, md_g15, md_p22, eX12_fails, eX12_lineOf, eX12_token, hF3]
set_option maxRecDepth 100000 in
theorem eX12_lines {ν : zM} {Y : Nat} {M : zMS} {x1 : Int32}  : fX12_lines (mdl ν Y M) Y x1 = Option.map (zq2 (mdl ν Y)) (gX12_lines M x1) := by simp only [fX12_lines, gX12_lines, zgd_t, zmap_ite, zmap_some, zmap_none, zmap_zb0, zmap_zni, zq2_k, zq3_k, zq4_k, zq5_k, zzb1_some, zzb2_some, zzb3_some, zzb4_some, zzb5_some, zzb6_some, zzc1_some, zzc2_some, zzc3_some, zzc4_some, zzc5_some, zzc6_some, zzb1_q, zzb2_q, zzb3_q, zzb4_q, zzb5_q, zzc1_q, zzc2_q, zzc3_q, zzc4_q, zzc5_q, zmap_zb1, zmap_zb2, zmap_zb3, zmap_zb4, zmap_zb5, zmap_zb6, zzc1_ite, zzc2_ite, zzc3_ite, zzc4_ite, zzc1_zb0, zzc1_zb1, zzc1_zb2, zzc1_zb3, zzc1_zb4, zzc2_zb0, zzc2_zb1, zzc2_zb2, zzc2_zb3, zzc2_zb4, zzc3_zb0, zzc3_zb1, zzc3_zb2, zzc3_zb3, zzc3_zb4, zzc4_zb0, zzc4_zb1, zzc4_zb2, zzc4_zb3, zzc4_zb4, md_ck, md_g12, md_g13, md_g15, md_p22, eX12_fails, eX12_lineOf, eX12_token, eX12_lines_l2]
def gX12_blank_l2  (F3 : Int32 → zMS → Option (zMS)) (x2_1 : Int32) (m2 : zMS) : Option (zMS) :=
  if 121 ≤ x2_1 then (
  some m2)
  else (
  zb1 (zas 121 (m2.2.2 19) x2_1 0) fun f9 =>
  zb1 (some (zsA m2 19 f9)) fun M9 =>
  F3 (x2_1 + 1) M9)
def gX12_blank_l23 (x1 : Int32) (F14 : Int32 → zMS → Option (zMS)) (x2_12 : Int32) (m13 : zMS) : Option (zMS) :=
  if 8 ≤ x2_12 then (
  some m13)
  else (
  if x1 = 0 then (
  zb1 (zas 121 (m13.2.2 19) (3 + x2_12) x2_12) fun f20 =>
  zb1 (some (zsA m13 19 f20)) fun M20 =>
  zb1 (zas 121 (M20.2.2 19) (19 + x2_12) 1) fun f24 =>
  zb1 (some (zsA M20 19 f24)) fun M24 =>
  F14 (x2_12 + 1) M24)
  else (
  some m13))
def gX12_blank (M : zMS) (x1 : Int32) : Option (zMS) :=
  zb1 (zf2 gX12_blank_l2 zfu 0 M : Option (zMS)) fun (m5 : zMS) =>
  zb1 (zf2 (gX12_blank_l23 x1) zfu 0 m5 : Option (zMS)) fun (m16 : zMS) =>
  zb1 (if x1 = 0 then (
  some 12)
  else (
  some 0) : Option (Int32)) fun (s29 : Int32) =>
  zb1 (zas 121 (m16.2.2 19) 0 s29) fun f31 =>
  zb1 (some (zsA m16 19 f31)) fun M31 =>
  some M31
set_option maxRecDepth 100000 in
theorem eX12_blank_l2 {ν : zM} {Y : Nat} {x2_1 : Int32} {m2 : zMS}   (n : Nat) : zf2 (fX12_blank_l2 Y) n x2_1 (mdl ν Y m2) = Option.map (mdl ν Y) (zf2 gX12_blank_l2 n x2_1 m2) := by
  refine zf2_m (fun F3 G3 hF3 x2_1 m2 => ?_) n x2_1 m2
  simp only [fX12_blank_l2, gX12_blank_l2, zgd_t, zmap_ite, zmap_some, zmap_none, zmap_zb0, zmap_zni, zq2_k, zq3_k, zq4_k, zq5_k, zzb1_some, zzb2_some, zzb3_some, zzb4_some, zzb5_some, zzb6_some, zzb1_q, zzb2_q, zzb3_q, zzb4_q, zzb5_q, zmap_zb1, zmap_zb2, zmap_zb3, zmap_zb4, zmap_zb5, zmap_zb6, md_ck, md_g19, md_a19, md_s19, hF3]
set_option maxRecDepth 100000 in
theorem eX12_blank_l23 {ν : zM} {Y : Nat} {x1 : Int32} {x2_12 : Int32} {m13 : zMS}   (n : Nat) : zf2 (fX12_blank_l23 x1 Y) n x2_12 (mdl ν Y m13) = Option.map (mdl ν Y) (zf2 (gX12_blank_l23 x1) n x2_12 m13) := by
  refine zf2_m (fun F14 G14 hF14 x2_12 m13 => ?_) n x2_12 m13
  simp only [fX12_blank_l23, gX12_blank_l23, zgd_t, zmap_ite, zmap_some, zmap_none, zmap_zb0, zmap_zni, zq2_k, zq3_k, zq4_k, zq5_k, zzb1_some, zzb2_some, zzb3_some, zzb4_some, zzb5_some, zzb6_some, zzb1_q, zzb2_q, zzb3_q, zzb4_q, zzb5_q, zmap_zb1, zmap_zb2, zmap_zb3, zmap_zb4, zmap_zb5, zmap_zb6, md_ck, md_g19, md_a19, md_s19, eX12_blank_l2, hF14]
set_option maxRecDepth 100000 in
theorem eX12_blank {ν : zM} {Y : Nat} {M : zMS} {x1 : Int32}  : fX12_blank (mdl ν Y M) Y x1 = Option.map (mdl ν Y) (gX12_blank M x1) := by simp only [fX12_blank, gX12_blank, zgd_t, zmap_ite, zmap_some, zmap_none, zmap_zb0, zmap_zni, zq2_k, zq3_k, zq4_k, zq5_k, zzb1_some, zzb2_some, zzb3_some, zzb4_some, zzb5_some, zzb6_some, zzb1_q, zzb2_q, zzb3_q, zzb4_q, zzb5_q, zmap_zb1, zmap_zb2, zmap_zb3, zmap_zb4, zmap_zb5, zmap_zb6, md_ck, md_g19, md_a19, md_s19, eX12_blank_l2, eX12_blank_l23]
def gX12_readText (M : zMS) (x1 : Int32) : Option (Int32 × zMS) :=
  zb1 (gX12_blank M x1) fun M2 =>
  zb1 (some (zsI M2 21 (-1))) fun M3 =>
  zb1 (some (zsI M3 10 0)) fun M5 =>
  zb1 (some (zsI M5 17 0)) fun M7 =>
  zb1 (gX12_token M7) fun M10 =>
  zb2 (gX12_lines M10 x1) fun v13 M12 =>
  zc1 (if v13 = 0 then (
  some M12)
  else (
  if x1 = 0 then (
  if (M12.1 17) = 0 then (
  zb1 (zag 121 (M12.2.2 19) 0) fun v50 =>
  if (M12.1 21) ≤ v50 then (
  some M12)
  else (
  zb1 (gX12_later M12 4 (M12.1 12)) fun M55 =>
  some M55))
  else (
  some M12))
  else (
  some M12)) : Option (zMS)) fun (m14 : zMS) =>
  zb1 (if v13 = 0 then (
  some 1)
  else (
  some (m14.1 17)) : Option (Int32)) fun (s18 : Int32) =>
  zb1 (zas 4 (m14.2.2 3) 0 s18) fun f20 =>
  zb1 (some (zsA m14 3 f20)) fun M20 =>
  zb1 (if v13 = 0 then (
  some (M20.1 16))
  else (
  if (M20.1 17) ≤ 0 then (
  some (-1))
  else (
  some (M20.1 18))) : Option (Int32)) fun (s24 : Int32) =>
  zb1 (zas 4 (M20.2.2 4) 0 s24) fun f26 =>
  zb1 (some (zsA M20 4 f26)) fun M26 =>
  zb1 (zag 4 (M26.2.2 3) 0) fun v30 =>
  zb1 (if v30 = 0 then (
  some 1)
  else (
  some 0) : Option (Int32)) fun (s32 : Int32) =>
  zb1 (zbz s32) fun v34 =>
  some (v34, M26)
set_option maxRecDepth 100000 in
theorem eX12_readText {ν : zM} {Y : Nat} {M : zMS} {x1 : Int32}  : fX12_readText (mdl ν Y M) Y x1 = Option.map (zq2 (mdl ν Y)) (gX12_readText M x1) := by simp only [fX12_readText, gX12_readText, zgd_t, zmap_ite, zmap_some, zmap_none, zmap_zb0, zmap_zni, zq2_k, zq3_k, zq4_k, zq5_k, zzb1_some, zzb2_some, zzb3_some, zzb4_some, zzb5_some, zzb6_some, zzc1_some, zzc2_some, zzc3_some, zzc4_some, zzc5_some, zzc6_some, zzb1_q, zzb2_q, zzb3_q, zzb4_q, zzb5_q, zzc1_q, zzc2_q, zzc3_q, zzc4_q, zzc5_q, zmap_zb1, zmap_zb2, zmap_zb3, zmap_zb4, zmap_zb5, zmap_zb6, zzc1_ite, zzc2_ite, zzc3_ite, zzc4_ite, zzc1_zb0, zzc1_zb1, zzc1_zb2, zzc1_zb3, zzc1_zb4, zzc2_zb0, zzc2_zb1, zzc2_zb2, zzc2_zb3, zzc2_zb4, zzc3_zb0, zzc3_zb1, zzc3_zb2, zzc3_zb3, zzc3_zb4, zzc4_zb0, zzc4_zb1, zzc4_zb2, zzc4_zb3, zzc4_zb4, md_ck, md_g3, md_g4, md_g12, md_g16, md_g17, md_g18, md_g19, md_g21, md_p10, md_p17, md_p21, md_a3, md_s3, md_a4, md_s4, md_a19, md_s19, eX12_blank, eX12_later, eX12_lines, eX12_token]
def gX12_store_l3 (x2 : Int32) (x1 : Nat) (x3 : Int32) (F3 : Int32 → zMS → Option (zMS)) (x4_1 : Int32) (m2 : zMS) : Option (zMS) :=
  if x2 ≤ x4_1 then (
  some m2)
  else (
  zb1 (zag 121 (m2.2.2 19) x4_1) fun v9 =>
  zb1 (zas (mln x1) (m2.2.2 x1) ((x2 * x3) + x4_1) v9) fun f11 =>
  zb1 (some (zsA m2 x1 f11)) fun M11 =>
  F3 (x4_1 + 1) M11)
def gX12_store (M : zMS) (x1 : Nat) (x2 : Int32) (x3 : Int32) : Option (zMS) :=
  zb1 (zf2 (gX12_store_l3 x2 x1 x3) zfu 0 M : Option (zMS)) fun (m5 : zMS) =>
  some m5
set_option maxRecDepth 100000 in
theorem eX12_store_l3 {ν : zM} {Y : Nat} {x2 : Int32} {x1 : Nat} {x3 : Int32} {x4_1 : Int32} {m2 : zMS}  (hkx1 : mia x1 = true) (n : Nat) : zf2 (fX12_store_l3 x2 Y (Y + mof x1) x3) n x4_1 (mdl ν Y m2) = Option.map (mdl ν Y) (zf2 (gX12_store_l3 x2 x1 x3) n x4_1 m2) := by
  refine zf2_m (fun F3 G3 hF3 x4_1 m2 => ?_) n x4_1 m2
  simp only [fX12_store_l3, gX12_store_l3, zgd_t, zmap_ite, zmap_some, zmap_none, zmap_zb0, zmap_zni, zq2_k, zq3_k, zq4_k, zq5_k, zzb1_some, zzb2_some, zzb3_some, zzb4_some, zzb5_some, zzb6_some, zzb1_q, zzb2_q, zzb3_q, zzb4_q, zzb5_q, zmap_zb1, zmap_zb2, zmap_zb3, zmap_zb4, zmap_zb5, zmap_zb6, md_ck, md_g19, md_a19, md_s19, md_aG hkx1, md_sG hkx1, hF3]
set_option maxRecDepth 100000 in
theorem eX12_store {ν : zM} {Y : Nat} {M : zMS} {x1 : Nat} {x2 : Int32} {x3 : Int32} (hkx1 : mia x1 = true) : fX12_store (mdl ν Y M) Y (Y + mof x1) x2 x3 = Option.map (mdl ν Y) (gX12_store M x1 x2 x3) := by simp only [fX12_store, gX12_store, zgd_t, zmap_ite, zmap_some, zmap_none, zmap_zb0, zmap_zni, zq2_k, zq3_k, zq4_k, zq5_k, zzb1_some, zzb2_some, zzb3_some, zzb4_some, zzb5_some, zzb6_some, zzb1_q, zzb2_q, zzb3_q, zzb4_q, zzb5_q, zmap_zb1, zmap_zb2, zmap_zb3, zmap_zb4, zmap_zb5, zmap_zb6, md_ck, md_g19, md_a19, md_s19, (eX12_store_l3 hkx1), md_aG hkx1, md_sG hkx1]
set_option maxRecDepth 100000 in
theorem eX12_store_6 {ν : zM} {Y : Nat} {M : zMS} {x2 x3 : Int32} : fX12_store (mdl ν Y M) Y (Y + 6) x2 x3 = Option.map (mdl ν Y) (gX12_store M 6 x2 x3) := eX12_store (x1 := 6) rfl
set_option maxRecDepth 100000 in
theorem eX12_store_7 {ν : zM} {Y : Nat} {M : zMS} {x2 x3 : Int32} : fX12_store (mdl ν Y M) Y (Y + 7) x2 x3 = Option.map (mdl ν Y) (gX12_store M 7 x2 x3) := eX12_store (x1 := 7) rfl
set_option maxRecDepth 100000 in
theorem eX12_store_8 {ν : zM} {Y : Nat} {M : zMS} {x2 x3 : Int32} : fX12_store (mdl ν Y M) Y (Y + 8) x2 x3 = Option.map (mdl ν Y) (gX12_store M 8 x2 x3) := eX12_store (x1 := 8) rfl
set_option maxRecDepth 100000 in
theorem eX12_store_9 {ν : zM} {Y : Nat} {M : zMS} {x2 x3 : Int32} : fX12_store (mdl ν Y M) Y (Y + 9) x2 x3 = Option.map (mdl ν Y) (gX12_store M 9 x2 x3) := eX12_store (x1 := 9) rfl
def gX12_storeAll (M : zMS) (x1 : Int32) (x2 : Int32) : Option (zMS) :=
  if x1 = 0 then (
  zb1 (gX12_store M 6 57 x2) fun M4 =>
  some M4)
  else (
  if x1 = 1 then (
  zb1 (gX12_store M 7 121 x2) fun M9 =>
  some M9)
  else (
  if x1 = 2 then (
  zb1 (gX12_store M 8 22 x2) fun M14 =>
  some M14)
  else (
  zb1 (gX12_store M 9 33 x2) fun M19 =>
  some M19)))
set_option maxRecDepth 100000 in
theorem eX12_storeAll {ν : zM} {Y : Nat} {M : zMS} {x1 : Int32} {x2 : Int32}  : fX12_storeAll (mdl ν Y M) Y x1 x2 = Option.map (mdl ν Y) (gX12_storeAll M x1 x2) := by simp only [fX12_storeAll, gX12_storeAll, zgd_t, zmap_ite, zmap_some, zmap_none, zmap_zb0, zmap_zni, zq2_k, zq3_k, zq4_k, zq5_k, zzb1_some, zzb2_some, zzb3_some, zzb4_some, zzb5_some, zzb6_some, zzb1_q, zzb2_q, zzb3_q, zzb4_q, zzb5_q, zmap_zb1, zmap_zb2, zmap_zb3, zmap_zb4, zmap_zb5, zmap_zb6, md_ck, md_g6, md_g7, md_g8, md_g9, md_a6, md_s6, md_a7, md_s7, md_a8, md_s8, md_a9, md_s9, eX12_store_6, eX12_store_7, eX12_store_8, eX12_store_9]
def gX12_text_b75 (M19 : zMS) (x1 : Int32) (x2 : Int32) : Option (Int32 × zMS) :=
  zb2 (gX12_readText M19 x1) fun v25 M24 =>
  if v25 = 0 then (
  some ((-1), M24))
  else (
  zb1 (if x2 = (-1) then (
  zb1 (zag 16 (M24.2.2 5) x1) fun v40 =>
  some v40)
  else (
  some x2) : Option (Int32)) fun (s26 : Int32) =>
  zb1 (zag 16 (M24.2.2 5) x1) fun v30 =>
  zb1 (if x2 = (-1) then (
  some 1)
  else (
  some 0) : Option (Int32)) fun (s32 : Int32) =>
  zb1 (zas 16 (M24.2.2 5) x1 (v30 + s32)) fun f34 =>
  zb1 (some (zsA M24 5 f34)) fun M34 =>
  zb1 (gX12_storeAll M34 x1 s26) fun M37 =>
  some (s26, M37))
def gX12_text (M : zMS) (x1 : Int32) (x2 : Int32) : Option (Int32 × zMS) :=
  zb1 (some (zsI M 0 0)) fun M1 =>
  zb1 (zag 4 (M1.2.2 2) 0) fun v5 =>
  zb1 (some (zsI M1 11 v5)) fun M7 =>
  zb1 (zas 4 (M7.2.2 2) 0 0) fun f11 =>
  zb1 (some (zsA M7 2 f11)) fun M11 =>
  zb1 (zas 4 (M11.2.2 3) 0 0) fun f15 =>
  zb1 (some (zsA M11 3 f15)) fun M15 =>
  zb1 (zas 4 (M15.2.2 4) 0 (-1)) fun f19 =>
  zb1 (some (zsA M15 4 f19)) fun M19 =>
  zb1 (gX12_in x1 0 3) fun v22 =>
  if v22 = 0 then (
  some ((-2), M19))
  else (
  if x2 = (-1) then (
  zb1 (zag 16 (M19.2.2 5) x1) fun v47 =>
  if v47 = 2 then (
  some ((-2), M19))
  else (
  gX12_text_b75 M19 x1 x2))
  else (
  zb1 (gX12_is M19 x1 x2) fun v44 =>
  if v44 = 0 then (
  some ((-2), M19))
  else (
  gX12_text_b75 M19 x1 x2)))
set_option maxRecDepth 100000 in
theorem eX12_text_b75 {ν : zM} {Y : Nat} {m19 : zMS} {x1 : Int32} {x2 : Int32}   : fX12_text_b75 (mdl ν Y m19) Y x1 x2  = Option.map (zq2 (mdl ν Y)) (gX12_text_b75 m19 x1 x2 ) := by simp only [fX12_text_b75, gX12_text_b75, zgd_t, zmap_ite, zmap_some, zmap_none, zmap_zb0, zmap_zni, zq2_k, zq3_k, zq4_k, zq5_k, zzb1_some, zzb2_some, zzb3_some, zzb4_some, zzb5_some, zzb6_some, zzb1_q, zzb2_q, zzb3_q, zzb4_q, zzb5_q, zmap_zb1, zmap_zb2, zmap_zb3, zmap_zb4, zmap_zb5, zmap_zb6, md_ck, md_g2, md_g3, md_g4, md_g5, md_p0, md_p11, md_a2, md_s2, md_a3, md_s3, md_a4, md_s4, md_a5, md_s5, eX12_in, eX12_is, eX12_readText, eX12_storeAll]
set_option maxRecDepth 100000 in
theorem eX12_text {ν : zM} {Y : Nat} {M : zMS} {x1 : Int32} {x2 : Int32}  : fX12_text (mdl ν Y M) Y x1 x2 = Option.map (zq2 (mdl ν Y)) (gX12_text M x1 x2) := by simp only [fX12_text, gX12_text, zgd_t, zmap_ite, zmap_some, zmap_none, zmap_zb0, zmap_zni, zq2_k, zq3_k, zq4_k, zq5_k, zzb1_some, zzb2_some, zzb3_some, zzb4_some, zzb5_some, zzb6_some, zzb1_q, zzb2_q, zzb3_q, zzb4_q, zzb5_q, zmap_zb1, zmap_zb2, zmap_zb3, zmap_zb4, zmap_zb5, zmap_zb6, md_ck, md_g2, md_g3, md_g4, md_g5, md_p0, md_p11, md_a2, md_s2, md_a3, md_s3, md_a4, md_s4, md_a5, md_s5, eX12_in, eX12_is, eX12_readText, eX12_storeAll, eX12_text_b75]
