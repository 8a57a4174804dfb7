noncomputable def gX9_copyFrom (U : zCS) (x0 : Nat) (x1 : Nat) : Option (zCS) :=
  zb1 (some (csI U x0 0 (U.1 x1 0))) fun U3 =>
  zb1 (zcp 0 8 8 (U3.2.1 (x1 + 1)) (U3.2.1 (x0 + 1)) 0 0 8) fun f9 =>
  zb1 (some (csA U3 (x0 + 1) f9)) fun U9 =>
  zb1 (zcp 0 8 8 (U9.2.1 (x1 + 2)) (U9.2.1 (x0 + 2)) 0 0 8) fun f15 =>
  zb1 (some (csA U9 (x0 + 2) f15)) fun U15 =>
  zb1 (zcp 0 8 8 (U15.2.1 (x1 + 3)) (U15.2.1 (x0 + 3)) 0 0 8) fun f21 =>
  zb1 (some (csA U15 (x0 + 3) f21)) fun U21 =>
  zb1 (some (csI U21 x0 4 (U21.1 x1 4))) fun U25 =>
  zb1 (zcp 0 6 6 (U25.2.1 (x1 + 4)) (U25.2.1 (x0 + 4)) 0 0 6) fun f31 =>
  zb1 (some (csA U25 (x0 + 4) f31)) fun U31 =>
  zb1 (zcp 0 6 6 (U31.2.1 (x1 + 5)) (U31.2.1 (x0 + 5)) 0 0 6) fun f37 =>
  zb1 (some (csA U31 (x0 + 5) f37)) fun U37 =>
  zb1 (zcp 0 6 6 (U37.2.1 (x1 + 6)) (U37.2.1 (x0 + 6)) 0 0 6) fun f43 =>
  zb1 (some (csA U37 (x0 + 6) f43)) fun U43 =>
  zb1 (some (csI U43 x0 8 (U43.1 x1 8))) fun U47 =>
  zb1 (zcp 0 4 4 (U47.2.1 (x1 + 7)) (U47.2.1 (x0 + 7)) 0 0 4) fun f53 =>
  zb1 (some (csA U47 (x0 + 7) f53)) fun U53 =>
  zb1 (zcp 0 4 4 (U53.2.1 (x1 + 8)) (U53.2.1 (x0 + 8)) 0 0 4) fun f59 =>
  zb1 (some (csA U53 (x0 + 8) f59)) fun U59 =>
  zb1 (zcp 0 4 4 (U59.2.1 (x1 + 9)) (U59.2.1 (x0 + 9)) 0 0 4) fun f65 =>
  zb1 (some (csA U59 (x0 + 9) f65)) fun U65 =>
  zb1 (zcp 0 100 100 (U65.2.1 (x1 + 10)) (U65.2.1 (x0 + 10)) 0 0 100) fun f71 =>
  zb1 (some (csA U65 (x0 + 10) f71)) fun U71 =>
  some U71
set_option maxRecDepth 100000 in
theorem eX9_copyFrom {ν : zM} {sh : Nat → Nat} {U : zCS} {x0 : Nat} {x1 : Nat} (h0 : isX9 sh x0) (h1 : isX9 sh x1) : fX9_copyFrom (cmem ν sh U) x0 x1 = Option.map (cmem ν sh) (gX9_copyFrom U x0 x1) := by simp only [fX9_copyFrom, gX9_copyFrom, zgd_t, zmap_ite, zmap_some, zmap_none, zmap_zb0, zmap_zni, zq2_k, zq3_k, zq4_k, zq5_k, zzb1_q, zzb2_q, zzb3_q, zzb4_q, zzb5_q, zmap_zb1, zmap_zb2, zmap_zb3, zmap_zb4, zmap_zb5, zmap_zb6, zmap_zc1, zmap_zc2, zmap_zc3, zmap_zc4, cg_X9_0 h1, cg_X9_1 h0, cg_X9_1 h1, cg_X9_10 h0, cg_X9_10 h1, cg_X9_11 h0, cg_X9_11 h1, cg_X9_12 h0, cg_X9_12 h1, cg_X9_2 h0, cg_X9_2 h1, cg_X9_3 h0, cg_X9_3 h1, cg_X9_4 h1, cg_X9_5 h0, cg_X9_5 h1, cg_X9_6 h0, cg_X9_6 h1, cg_X9_7 h0, cg_X9_7 h1, cg_X9_8 h1, cg_X9_9 h0, cg_X9_9 h1, cp_X9_0 h0, cp_X9_4 h0, cp_X9_8 h0, cy_1004 (isX9_7 h1) (isX9_7 h0), cy_1004 (isX9_8 h1) (isX9_8 h0), cy_1004 (isX9_9 h1) (isX9_9 h0), cy_1006 (isX9_4 h1) (isX9_4 h0), cy_1006 (isX9_5 h1) (isX9_5 h0), cy_1006 (isX9_6 h1) (isX9_6 h0), cy_1008 (isX9_1 h1) (isX9_1 h0), cy_1008 (isX9_2 h1) (isX9_2 h0), cy_1008 (isX9_3 h1) (isX9_3 h0), cy_1100 (isX9_10 h1) (isX9_10 h0), ck_X9 h0]
noncomputable def gX9_isOfKind (U : zCS) (x0 : Nat) (x1 : Int32) (x2 : Int32) : Option (Int32) :=
  zb1 (gX9_hasPerson U x0 x1) fun v2 =>
  zb1 (if v2 = 0 then (
  some 0)
  else (
  zb1 (zag 6 (U.2.1 (x0 + 4)) x1) fun v9 =>
  if v9 = x2 then (
  some 1)
  else (
  some 0)) : Option (Int32)) fun (s3 : Int32) =>
  zb1 (zbz s3) fun v5 =>
  some v5
set_option maxRecDepth 100000 in
theorem eX9_isOfKind {ν : zM} {sh : Nat → Nat} {U : zCS} {x0 : Nat} {x1 : Int32} {x2 : Int32} (h0 : isX9 sh x0) : fX9_isOfKind (cmem ν sh U) x0 x1 x2 = gX9_isOfKind U x0 x1 x2 := by simp only [fX9_isOfKind, gX9_isOfKind, zgd_t, zmap_ite, zmap_some, zmap_none, zmap_zb0, zmap_zni, zq2_k, zq3_k, zq4_k, zq5_k, zzb1_q, zzb2_q, zzb3_q, zzb4_q, zzb5_q, zmap_zb1, zmap_zb2, zmap_zb3, zmap_zb4, zmap_zb5, zmap_zb6, zmap_zc1, zmap_zc2, zmap_zc3, zmap_zc4, (eX9_hasPerson (h0 := h0)), ca_1006 (isX9_4 h0), cg_X9_5 h0, ck_X9 h0]
noncomputable def gX8_isKeener  (x0 : Int32) (x1 : Int32) (x2 : Int32) : Option (Int32) :=
  zb1 (if x0 = 0 then (
  if x2 ≤ x1 then (
  some 0)
  else (
  some 1))
  else (
  if x1 ≤ x2 then (
  some 0)
  else (
  some 1)) : Option (Int32)) fun (s1 : Int32) =>
  zb1 (zbz s1) fun v3 =>
  some v3
set_option maxRecDepth 100000 in
theorem eX8_isKeener {μ : zM} {x0 : Int32} {x1 : Int32} {x2 : Int32} : fX8_isKeener μ x0 x1 x2 = gX8_isKeener x0 x1 x2 := by simp only [fX8_isKeener, gX8_isKeener, zgd_t, zmap_ite, zmap_some, zmap_none, zmap_zb0, zmap_zni, zq2_k, zq3_k, zq4_k, zq5_k, zzb1_q, zzb2_q, zzb3_q, zzb4_q, zzb5_q, zmap_zb1, zmap_zb2, zmap_zb3, zmap_zb4, zmap_zb5, zmap_zb6, zmap_zc1, zmap_zc2, zmap_zc3, zmap_zc4]
noncomputable def gX8_bestLeft_l5 (U : zCS) (x0 : Nat) (x1 : Int32) (x2 : Int32) (F3 : Int32 → Int32 → Option (Int32)) (x3_1 : Int32) (x4_2 : Int32) : Option (Int32) :=
  if (U.1 x0 4) ≤ x4_2 then (
  some x3_1)
  else (
  zb1 (gX9_isOfKind U x0 x4_2 x1) fun v10 =>
  zb1 (if v10 = 0 then (
  some x3_1)
  else (
  if ((x2 >>> (x4_2 &&& 31)) &&& 1) = 0 then (
  if x3_1 = (-1) then (
  some x4_2)
  else (
  zb1 (zag 6 (U.2.1 (x0 + 6)) x4_2) fun v15 =>
  zb1 (zag 6 (U.2.1 (x0 + 6)) x3_1) fun v19 =>
  zb1 (gX8_isKeener x1 v15 v19) fun v22 =>
  if v22 = 0 then (
  some x3_1)
  else (
  some x4_2)))
  else (
  some x3_1)) : Option (Int32)) fun (x3_11 : Int32) =>
  F3 x3_11 (x4_2 + 1))
noncomputable def gX8_bestLeft (U : zCS) (x0 : Nat) (x1 : Int32) (x2 : Int32) : Option (Int32) :=
  zb1 (zf2 (gX8_bestLeft_l5 U x0 x1 x2) zfu (-1) 0 : Option (Int32)) fun (x3_5 : Int32) =>
  some x3_5
set_option maxRecDepth 100000 in
theorem eX8_bestLeft_l5 {ν : zM} {sh : Nat → Nat} {U : zCS} {x0 : Nat} {x1 : Int32} {x2 : Int32} {x3_1 : Int32} {x4_2 : Int32} (h0 : isX9 sh x0)  (n : Nat) : zf2 (fX8_bestLeft_l5 (cmem ν sh U) x0 x1 x2) n x3_1 x4_2 = zf2 (gX8_bestLeft_l5 U x0 x1 x2) n x3_1 x4_2 := by
  refine zf2_c (fun F3 G3 hF3 x3_1 x4_2 => ?_) n x3_1 x4_2
  simp only [fX8_bestLeft_l5, gX8_bestLeft_l5, zgd_t, zmap_ite, zmap_some, zmap_none, zmap_zb0, zmap_zni, zq2_k, zq3_k, zq4_k, zq5_k, zzb1_q, zzb2_q, zzb3_q, zzb4_q, zzb5_q, zmap_zb1, zmap_zb2, zmap_zb3, zmap_zb4, zmap_zb5, zmap_zb6, zmap_zc1, zmap_zc2, zmap_zc3, zmap_zc4, (eX9_isOfKind (h0 := h0)), ca_1006 (isX9_6 h0), cg_X9_4 h0, cg_X9_7 h0, eX8_isKeener, hF3]
set_option maxRecDepth 100000 in
theorem eX8_bestLeft {ν : zM} {sh : Nat → Nat} {U : zCS} {x0 : Nat} {x1 : Int32} {x2 : Int32} (h0 : isX9 sh x0) : fX8_bestLeft (cmem ν sh U) x0 x1 x2 = gX8_bestLeft U x0 x1 x2 := by simp only [fX8_bestLeft, gX8_bestLeft, zgd_t, zmap_ite, zmap_some, zmap_none, zmap_zb0, zmap_zni, zq2_k, zq3_k, zq4_k, zq5_k, zzb1_q, zzb2_q, zzb3_q, zzb4_q, zzb5_q, zmap_zb1, zmap_zb2, zmap_zb3, zmap_zb4, zmap_zb5, zmap_zb6, zmap_zc1, zmap_zc2, zmap_zc3, zmap_zc4, (eX9_isOfKind (h0 := h0)), ca_1006 (isX9_6 h0), cg_X9_4 h0, cg_X9_7 h0, eX8_isKeener, (eX8_bestLeft_l5 (h0 := h0))]
noncomputable def gX8_gainOfCouple_l13 (x1 : Int32) (U : zCS) (x0 : Nat) (F6 : Int32 → Int32 → Int32 → Int32 → Int32 → Option (Int32)) (x2_1 : Int32) (x3_2 : Int32) (x4_3 : Int32) (x5_4 : Int32) (x6_5 : Int32) : Option (Int32) :=
  if x1 < x6_5 then (
  if x4_3 = (-1) then (
  some (-1))
  else (
  if x5_4 = (-1) then (
  some (-1))
  else (
  zb1 (zag 6 (U.2.1 (x0 + 6)) x5_4) fun v10 =>
  zb1 (zag 6 (U.2.1 (x0 + 6)) x4_3) fun v14 =>
  if v14 ≤ v10 then (
  zb1 (zag 6 (U.2.1 (x0 + 6)) x5_4) fun v18 =>
  zb1 (zag 6 (U.2.1 (x0 + 6)) x4_3) fun v22 =>
  some (v18 - v22))
  else (
  some (-1)))))
  else (
  zb1 (gX8_bestLeft U x0 0 x2_1) fun v25 =>
  zb1 (gX8_bestLeft U x0 1 x3_2) fun v27 =>
  if v25 = (-1) then (
  some (-1))
  else (
  if v27 = (-1) then (
  some (-1))
  else (
  F6 (x2_1 ||| (1 <<< (v25 &&& 31))) (x3_2 ||| (1 <<< (v27 &&& 31))) v25 v27 (x6_5 + 1))))
noncomputable def gX8_gainOfCouple (U : zCS) (x0 : Nat) (x1 : Int32) : Option (Int32) :=
  zf5 (gX8_gainOfCouple_l13 x1 U x0) zfu 0 0 (-1) (-1) 0
set_option maxRecDepth 100000 in
theorem eX8_gainOfCouple_l13 {ν : zM} {sh : Nat → Nat} {x1 : Int32} {U : zCS} {x0 : Nat} {x2_1 : Int32} {x3_2 : Int32} {x4_3 : Int32} {x5_4 : Int32} {x6_5 : Int32} (h0 : isX9 sh x0)  (n : Nat) : zf5 (fX8_gainOfCouple_l13 x1 (cmem ν sh U) x0) n x2_1 x3_2 x4_3 x5_4 x6_5 = zf5 (gX8_gainOfCouple_l13 x1 U x0) n x2_1 x3_2 x4_3 x5_4 x6_5 := by
  refine zf5_c (fun F6 G6 hF6 x2_1 x3_2 x4_3 x5_4 x6_5 => ?_) n x2_1 x3_2 x4_3 x5_4 x6_5
  simp only [fX8_gainOfCouple_l13, gX8_gainOfCouple_l13, zgd_t, zmap_ite, zmap_some, zmap_none, zmap_zb0, zmap_zni, zq2_k, zq3_k, zq4_k, zq5_k, zzb1_q, zzb2_q, zzb3_q, zzb4_q, zzb5_q, zmap_zb1, zmap_zb2, zmap_zb3, zmap_zb4, zmap_zb5, zmap_zb6, zmap_zc1, zmap_zc2, zmap_zc3, zmap_zc4, (eX8_bestLeft (h0 := h0)), ca_1006 (isX9_6 h0), cg_X9_7 h0, hF6]
set_option maxRecDepth 100000 in
theorem eX8_gainOfCouple {ν : zM} {sh : Nat → Nat} {U : zCS} {x0 : Nat} {x1 : Int32} (h0 : isX9 sh x0) : fX8_gainOfCouple (cmem ν sh U) x0 x1 = gX8_gainOfCouple U x0 x1 := by simp only [fX8_gainOfCouple, gX8_gainOfCouple, zgd_t, zmap_ite, zmap_some, zmap_none, zmap_zb0, zmap_zni, zq2_k, zq3_k, zq4_k, zq5_k, zzb1_q, zzb2_q, zzb3_q, zzb4_q, zzb5_q, zmap_zb1, zmap_zb2, zmap_zb3, zmap_zb4, zmap_zb5, zmap_zb6, zmap_zc1, zmap_zc2, zmap_zc3, zmap_zc4, (eX8_bestLeft (h0 := h0)), ca_1006 (isX9_6 h0), cg_X9_7 h0, (eX8_gainOfCouple_l13 (h0 := h0))]
noncomputable def gX8_couples_l2 (U : zCS) (x0 : Nat) (F2 : Int32 → Option (Int32)) (x1_1 : Int32) : Option (Int32) :=
  if 6 ≤ x1_1 then (
  some x1_1)
  else (
  zb1 (gX8_gainOfCouple U x0 x1_1) fun v7 =>
  if v7 = (-1) then (
  some x1_1)
  else (
  F2 (x1_1 + 1)))
noncomputable def gX8_couples (U : zCS) (x0 : Nat) : Option (Int32) :=
  zb1 (zf1 (gX8_couples_l2 U x0) zfu 0 : Option (Int32)) fun (x1_4 : Int32) =>
  some x1_4
set_option maxRecDepth 100000 in
theorem eX8_couples_l2 {ν : zM} {sh : Nat → Nat} {U : zCS} {x0 : Nat} {x1_1 : Int32} (h0 : isX9 sh x0)  (n : Nat) : zf1 (fX8_couples_l2 (cmem ν sh U) x0) n x1_1 = zf1 (gX8_couples_l2 U x0) n x1_1 := by
  refine zf1_c (fun F2 G2 hF2 x1_1 => ?_) n x1_1
  simp only [fX8_couples_l2, gX8_couples_l2, zgd_t, zmap_ite, zmap_some, zmap_none, zmap_zb0, zmap_zni, zq2_k, zq3_k, zq4_k, zq5_k, zzb1_q, zzb2_q, zzb3_q, zzb4_q, zzb5_q, zmap_zb1, zmap_zb2, zmap_zb3, zmap_zb4, zmap_zb5, zmap_zb6, zmap_zc1, zmap_zc2, zmap_zc3, zmap_zc4, (eX8_gainOfCouple (h0 := h0)), hF2]
set_option maxRecDepth 100000 in
theorem eX8_couples {ν : zM} {sh : Nat → Nat} {U : zCS} {x0 : Nat} (h0 : isX9 sh x0) : fX8_couples (cmem ν sh U) x0 = gX8_couples U x0 := by simp only [fX8_couples, gX8_couples, zgd_t, zmap_ite, zmap_some, zmap_none, zmap_zb0, zmap_zni, zq2_k, zq3_k, zq4_k, zq5_k, zzb1_q, zzb2_q, zzb3_q, zzb4_q, zzb5_q, zmap_zb1, zmap_zb2, zmap_zb3, zmap_zb4, zmap_zb5, zmap_zb6, zmap_zc1, zmap_zc2, zmap_zc3, zmap_zc4, (eX8_gainOfCouple (h0 := h0)), (eX8_couples_l2 (h0 := h0))]
noncomputable def gX8_gain_l9 (v2 : Int32) (U : zCS) (x0 : Nat) (F5 : Int32 → Int32 → Option (Int32)) (x1_3 : Int32) (x3_4 : Int32) : Option (Int32) :=
  if v2 ≤ x3_4 then (
  some x1_3)
  else (
  zb1 (gX8_gainOfCouple U x0 x3_4) fun v10 =>
  F5 (x1_3 + v10) (x3_4 + 1))
noncomputable def gX8_gain (U : zCS) (x0 : Nat) : Option (Int32) :=
  zb1 (gX8_couples U x0) fun v2 =>
  zb1 (zf2 (gX8_gain_l9 v2 U x0) zfu 0 0 : Option (Int32)) fun (x1_7 : Int32) =>
  some x1_7
set_option maxRecDepth 100000 in
theorem eX8_gain_l9 {ν : zM} {sh : Nat → Nat} {v2 : Int32} {U : zCS} {x0 : Nat} {x1_3 : Int32} {x3_4 : Int32} (h0 : isX9 sh x0)  (n : Nat) : zf2 (fX8_gain_l9 v2 (cmem ν sh U) x0) n x1_3 x3_4 = zf2 (gX8_gain_l9 v2 U x0) n x1_3 x3_4 := by
  refine zf2_c (fun F5 G5 hF5 x1_3 x3_4 => ?_) n x1_3 x3_4
  simp only [fX8_gain_l9, gX8_gain_l9, zgd_t, zmap_ite, zmap_some, zmap_none, zmap_zb0, zmap_zni, zq2_k, zq3_k, zq4_k, zq5_k, zzb1_q, zzb2_q, zzb3_q, zzb4_q, zzb5_q, zmap_zb1, zmap_zb2, zmap_zb3, zmap_zb4, zmap_zb5, zmap_zb6, zmap_zc1, zmap_zc2, zmap_zc3, zmap_zc4, (eX8_couples (h0 := h0)), (eX8_gainOfCouple (h0 := h0)), hF5]
set_option maxRecDepth 100000 in
theorem eX8_gain {ν : zM} {sh : Nat → Nat} {U : zCS} {x0 : Nat} (h0 : isX9 sh x0) : fX8_gain (cmem ν sh U) x0 = gX8_gain U x0 := by simp only [fX8_gain, gX8_gain, zgd_t, zmap_ite, zmap_some, zmap_none, zmap_zb0, zmap_zni, zq2_k, zq3_k, zq4_k, zq5_k, zzb1_q, zzb2_q, zzb3_q, zzb4_q, zzb5_q, zmap_zb1, zmap_zb2, zmap_zb3, zmap_zb4, zmap_zb5, zmap_zb6, zmap_zc1, zmap_zc2, zmap_zc3, zmap_zc4, (eX8_couples (h0 := h0)), (eX8_gainOfCouple (h0 := h0)), (eX8_gain_l9 (h0 := h0))]
noncomputable def gX8_isFair_l13 (U : zCS) (x0 : Nat) (x1 : Int32) (F6 : Int32 → Int32 → Int32 → Int32 → Int32 → Option (Int32 × Int32 × Int32 × Int32)) (x2_1 : Int32) (x3_2 : Int32) (x4_3 : Int32) (x5_4 : Int32) (x6_5 : Int32) : Option (Int32 × Int32 × Int32 × Int32) :=
  if (U.1 x0 4) ≤ x6_5 then (
  some (x2_1, x3_2, x4_3, x5_4))
  else (
  zb1 (zag 6 (U.2.1 (x0 + 6)) x6_5) fun v17 =>
  zb1 (zag 6 (U.2.1 (x0 + 4)) x6_5) fun v21 =>
  zb4 (if v21 = 0 then (
  zb1 (if x1 ≤ v17 then (
  some 0)
  else (
  some 1) : Option (Int32)) fun (s36 : Int32) =>
  zb1 (if x1 < v17 then (
  some 0)
  else (
  some 1) : Option (Int32)) fun (s38 : Int32) =>
  some ((x2_1 + s36), (x3_2 + s38), x4_3, x5_4))
  else (
  zb1 (zag 6 (U.2.1 (x0 + 4)) x6_5) fun v30 =>
  if v30 = 1 then (
  zb1 (if v17 ≤ x1 then (
  some 0)
  else (
  some 1) : Option (Int32)) fun (s32 : Int32) =>
  zb1 (if v17 < x1 then (
  some 0)
  else (
  some 1) : Option (Int32)) fun (s34 : Int32) =>
  some (x2_1, x3_2, (x4_3 + s32), (x5_4 + s34)))
  else (
  some (x2_1, x3_2, x4_3, x5_4))) : Option (Int32 × Int32 × Int32 × Int32)) fun (x2_23 : Int32) (x3_24 : Int32) (x4_25 : Int32) (x5_26 : Int32) =>
  F6 x2_23 x3_24 x4_25 x5_26 (x6_5 + 1))
noncomputable def gX8_isFair (U : zCS) (x0 : Nat) (x1 : Int32) : Option (Int32) :=
  zb4 (zf5 (gX8_isFair_l13 U x0 x1) zfu 0 0 0 0 0 : Option (Int32 × Int32 × Int32 × Int32)) fun (x2_8 : Int32) (x3_9 : Int32) (x4_10 : Int32) (x5_11 : Int32) =>
  zb1 (if x5_11 < x2_8 then (
  some 0)
  else (
  if x3_9 < x4_10 then (
  some 0)
  else (
  some 1)) : Option (Int32)) fun (s41 : Int32) =>
  zb1 (zbz s41) fun v43 =>
  some v43
set_option maxRecDepth 100000 in
theorem eX8_isFair_l13 {ν : zM} {sh : Nat → Nat} {U : zCS} {x0 : Nat} {x1 : Int32} {x2_1 : Int32} {x3_2 : Int32} {x4_3 : Int32} {x5_4 : Int32} {x6_5 : Int32} (h0 : isX9 sh x0)  (n : Nat) : zf5 (fX8_isFair_l13 (cmem ν sh U) x0 x1) n x2_1 x3_2 x4_3 x5_4 x6_5 = zf5 (gX8_isFair_l13 U x0 x1) n x2_1 x3_2 x4_3 x5_4 x6_5 := by
  refine zf5_c (fun F6 G6 hF6 x2_1 x3_2 x4_3 x5_4 x6_5 => ?_) n x2_1 x3_2 x4_3 x5_4 x6_5
  simp only [fX8_isFair_l13, gX8_isFair_l13, zgd_t, zmap_ite, zmap_some, zmap_none, zmap_zb0, zmap_zni, zq2_k, zq3_k, zq4_k, zq5_k, zzb1_q, zzb2_q, zzb3_q, zzb4_q, zzb5_q, zmap_zb1, zmap_zb2, zmap_zb3, zmap_zb4, zmap_zb5, zmap_zb6, zmap_zc1, zmap_zc2, zmap_zc3, zmap_zc4, ca_1006 (isX9_4 h0), ca_1006 (isX9_6 h0), cg_X9_4 h0, cg_X9_5 h0, cg_X9_7 h0, hF6]
set_option maxRecDepth 100000 in
theorem eX8_isFair {ν : zM} {sh : Nat → Nat} {U : zCS} {x0 : Nat} {x1 : Int32} (h0 : isX9 sh x0) : fX8_isFair (cmem ν sh U) x0 x1 = gX8_isFair U x0 x1 := by simp only [fX8_isFair, gX8_isFair, zgd_t, zmap_ite, zmap_some, zmap_none, zmap_zb0, zmap_zni, zq2_k, zq3_k, zq4_k, zq5_k, zzb1_q, zzb2_q, zzb3_q, zzb4_q, zzb5_q, zmap_zb1, zmap_zb2, zmap_zb3, zmap_zb4, zmap_zb5, zmap_zb6, zmap_zc1, zmap_zc2, zmap_zc3, zmap_zc4, ca_1006 (isX9_4 h0), ca_1006 (isX9_6 h0), cg_X9_4 h0, cg_X9_5 h0, cg_X9_7 h0, (eX8_isFair_l13 (h0 := h0))]
noncomputable def gX8_leastPrice_l2 (U : zCS) (x0 : Nat) (F2 : Int32 → Option (Int32)) (x1_1 : Int32) : Option (Int32) :=
  if 100 ≤ x1_1 then (
  some (-1))
  else (
  zb1 (gX8_isFair U x0 x1_1) fun v5 =>
  if v5 = 0 then (
  F2 (x1_1 + 1))
  else (
  some x1_1))
noncomputable def gX8_leastPrice (U : zCS) (x0 : Nat) : Option (Int32) :=
  zf1 (gX8_leastPrice_l2 U x0) zfu 0
set_option maxRecDepth 100000 in
theorem eX8_leastPrice_l2 {ν : zM} {sh : Nat → Nat} {U : zCS} {x0 : Nat} {x1_1 : Int32} (h0 : isX9 sh x0)  (n : Nat) : zf1 (fX8_leastPrice_l2 (cmem ν sh U) x0) n x1_1 = zf1 (gX8_leastPrice_l2 U x0) n x1_1 := by
  refine zf1_c (fun F2 G2 hF2 x1_1 => ?_) n x1_1
  simp only [fX8_leastPrice_l2, gX8_leastPrice_l2, zgd_t, zmap_ite, zmap_some, zmap_none, zmap_zb0, zmap_zni, zq2_k, zq3_k, zq4_k, zq5_k, zzb1_q, zzb2_q, zzb3_q, zzb4_q, zzb5_q, zmap_zb1, zmap_zb2, zmap_zb3, zmap_zb4, zmap_zb5, zmap_zb6, zmap_zc1, zmap_zc2, zmap_zc3, zmap_zc4, (eX8_isFair (h0 := h0)), hF2]
set_option maxRecDepth 100000 in
theorem eX8_leastPrice {ν : zM} {sh : Nat → Nat} {U : zCS} {x0 : Nat} (h0 : isX9 sh x0) : fX8_leastPrice (cmem ν sh U) x0 = gX8_leastPrice U x0 := by simp only [fX8_leastPrice, gX8_leastPrice, zgd_t, zmap_ite, zmap_some, zmap_none, zmap_zb0, zmap_zni, zq2_k, zq3_k, zq4_k, zq5_k, zzb1_q, zzb2_q, zzb3_q, zzb4_q, zzb5_q, zmap_zb1, zmap_zb2, zmap_zb3, zmap_zb4, zmap_zb5, zmap_zb6, zmap_zc1, zmap_zc2, zmap_zc3, zmap_zc4, (eX8_isFair (h0 := h0)), (eX8_leastPrice_l2 (h0 := h0))]
noncomputable def gX8_greatestPrice_l3 (U : zCS) (x0 : Nat) (F2 : Int32 → Option (Int32)) (x1_1 : Int32) : Option (Int32) :=
  if x1_1 < 0 then (
  some (-1))
  else (
  zb1 (gX8_isFair U x0 x1_1) fun v5 =>
  if v5 = 0 then (
  F2 (x1_1 + (-1)))
  else (
  some x1_1))
noncomputable def gX8_greatestPrice (U : zCS) (x0 : Nat) : Option (Int32) :=
  zf1 (gX8_greatestPrice_l3 U x0) zfu 99
set_option maxRecDepth 100000 in
theorem eX8_greatestPrice_l3 {ν : zM} {sh : Nat → Nat} {U : zCS} {x0 : Nat} {x1_1 : Int32} (h0 : isX9 sh x0)  (n : Nat) : zf1 (fX8_greatestPrice_l3 (cmem ν sh U) x0) n x1_1 = zf1 (gX8_greatestPrice_l3 U x0) n x1_1 := by
  refine zf1_c (fun F2 G2 hF2 x1_1 => ?_) n x1_1
  simp only [fX8_greatestPrice_l3, gX8_greatestPrice_l3, zgd_t, zmap_ite, zmap_some, zmap_none, zmap_zb0, zmap_zni, zq2_k, zq3_k, zq4_k, zq5_k, zzb1_q, zzb2_q, zzb3_q, zzb4_q, zzb5_q, zmap_zb1, zmap_zb2, zmap_zb3, zmap_zb4, zmap_zb5, zmap_zb6, zmap_zc1, zmap_zc2, zmap_zc3, zmap_zc4, (eX8_isFair (h0 := h0)), hF2]
set_option maxRecDepth 100000 in
theorem eX8_greatestPrice {ν : zM} {sh : Nat → Nat} {U : zCS} {x0 : Nat} (h0 : isX9 sh x0) : fX8_greatestPrice (cmem ν sh U) x0 = gX8_greatestPrice U x0 := by simp only [fX8_greatestPrice, gX8_greatestPrice, zgd_t, zmap_ite, zmap_some, zmap_none, zmap_zb0, zmap_zni, zq2_k, zq3_k, zq4_k, zq5_k, zzb1_q, zzb2_q, zzb3_q, zzb4_q, zzb5_q, zmap_zb1, zmap_zb2, zmap_zb3, zmap_zb4, zmap_zb5, zmap_zb6, zmap_zc1, zmap_zc2, zmap_zc3, zmap_zc4, (eX8_isFair (h0 := h0)), (eX8_greatestPrice_l3 (h0 := h0))]
noncomputable def gX8_sellerGain  (x0 : Int32) (x1 : Int32) (x2 : Int32) : Option (Int32) :=
  zb1 (if x1 < x0 then (
  some 0)
  else (
  some (((x0 + x1) / 2) - x2)) : Option (Int32)) fun (s1 : Int32) =>
  some s1
set_option maxRecDepth 100000 in
theorem eX8_sellerGain {μ : zM} {x0 : Int32} {x1 : Int32} {x2 : Int32} : fX8_sellerGain μ x0 x1 x2 = gX8_sellerGain x0 x1 x2 := by simp only [fX8_sellerGain, gX8_sellerGain, zgd_t, zmap_ite, zmap_some, zmap_none, zmap_zb0, zmap_zni, zq2_k, zq3_k, zq4_k, zq5_k, zzb1_q, zzb2_q, zzb3_q, zzb4_q, zzb5_q, zmap_zb1, zmap_zb2, zmap_zb3, zmap_zb4, zmap_zb5, zmap_zb6, zmap_zc1, zmap_zc2, zmap_zc3, zmap_zc4]
noncomputable def gX8_buyerGain  (x0 : Int32) (x1 : Int32) (x2 : Int32) : Option (Int32) :=
  zb1 (if x1 < x0 then (
  some 0)
  else (
  some (x2 - ((x0 + x1) / 2))) : Option (Int32)) fun (s1 : Int32) =>
  some s1
set_option maxRecDepth 100000 in
theorem eX8_buyerGain {μ : zM} {x0 : Int32} {x1 : Int32} {x2 : Int32} : fX8_buyerGain μ x0 x1 x2 = gX8_buyerGain x0 x1 x2 := by simp only [fX8_buyerGain, gX8_buyerGain, zgd_t, zmap_ite, zmap_some, zmap_none, zmap_zb0, zmap_zni, zq2_k, zq3_k, zq4_k, zq5_k, zzb1_q, zzb2_q, zzb3_q, zzb4_q, zzb5_q, zmap_zb1, zmap_zb2, zmap_zb3, zmap_zb4, zmap_zb5, zmap_zb6, zmap_zc1, zmap_zc2, zmap_zc3, zmap_zc4]
noncomputable def gX8_findBest_l27 (x3_1 : Int32) (x1 : Int32) (x2 : Int32) (F14 : Int32 → Int32 → Int32 → Option (Int32 × Int32)) (x4_11 : Int32) (x5_12 : Int32) (x6_13 : Int32) : Option (Int32 × Int32) :=
  if 100 ≤ x6_13 then (
  some (x4_11, x5_12))
  else (
  zb1 (gX8_sellerGain x6_13 x3_1 x1) fun v20 =>
  zb1 (gX8_buyerGain x3_1 x6_13 x2) fun v22 =>
  F14 (if x4_11 < v20 then v20 else x4_11 : Int32) (if x5_12 < v22 then v22 else x5_12 : Int32) (x6_13 + 1))
noncomputable def gX8_findBest_l2 (x1 : Int32) (x2 : Int32) (x0 : Nat) (F3 : Int32 → zCS → Option (zCS)) (x3_1 : Int32) (m2 : zCS) : Option (zCS) :=
  if 100 ≤ x3_1 then (
  some m2)
  else (
  zb1 (gX8_sellerGain 0 x3_1 x1) fun v8 =>
  zb1 (gX8_buyerGain x3_1 0 x2) fun v10 =>
  zb2 (zf3 (gX8_findBest_l27 x3_1 x1 x2) zfu v8 v10 1 : Option (Int32 × Int32)) fun (x4_16 : Int32) (x5_17 : Int32) =>
  zb1 (zas 100 (m2.2.1 (x0 + 1)) x3_1 x4_16) fun f26 =>
  zb1 (some (csA m2 (x0 + 1) f26)) fun U26 =>
  zb1 (zas 100 (U26.2.1 (x0 + 2)) x3_1 x5_17) fun f30 =>
  zb1 (some (csA U26 (x0 + 2) f30)) fun U30 =>
  F3 (x3_1 + 1) U30)
noncomputable def gX8_findBest (U : zCS) (x0 : Nat) (x1 : Int32) (x2 : Int32) : Option (zCS) :=
  zb1 (zf2 (gX8_findBest_l2 x1 x2 x0) zfu 0 U : Option (zCS)) fun (m5 : zCS) =>
  some m5
set_option maxRecDepth 100000 in
theorem eX8_findBest_l27 {ν : zM} {sh : Nat → Nat} {m2 : zCS} {x3_1 : Int32} {x1 : Int32} {x2 : Int32} {x4_11 : Int32} {x5_12 : Int32} {x6_13 : Int32} {x0 : Nat} (h0 : isX8 sh x0)  (n : Nat) : zf3 (fX8_findBest_l27 (cmem ν sh m2) x3_1 x1 x2) n x4_11 x5_12 x6_13 = zf3 (gX8_findBest_l27 x3_1 x1 x2) n x4_11 x5_12 x6_13 := by
  refine zf3_c (fun F14 G14 hF14 x4_11 x5_12 x6_13 => ?_) n x4_11 x5_12 x6_13
  simp only [fX8_findBest_l27, gX8_findBest_l27, zgd_t, zmap_ite, zmap_some, zmap_none, zmap_zb0, zmap_zni, zq2_k, zq3_k, zq4_k, zq5_k, zzb1_q, zzb2_q, zzb3_q, zzb4_q, zzb5_q, zmap_zb1, zmap_zb2, zmap_zb3, zmap_zb4, zmap_zb5, zmap_zb6, zmap_zc1, zmap_zc2, zmap_zc3, zmap_zc4, cg_X8_0 h0, cg_X8_1 h0, cs_1100 (isX8_1 h0), cs_1100 (isX8_2 h0), eX8_buyerGain, eX8_sellerGain, ck_X8 h0, hF14]
set_option maxRecDepth 100000 in
theorem eX8_findBest_l2 {ν : zM} {sh : Nat → Nat} {x1 : Int32} {x2 : Int32} {x0 : Nat} {x3_1 : Int32} {m2 : zCS} (h0 : isX8 sh x0)  (n : Nat) : zf2 (fX8_findBest_l2 x1 x2 x0) n x3_1 (cmem ν sh m2) = Option.map (cmem ν sh) (zf2 (gX8_findBest_l2 x1 x2 x0) n x3_1 m2) := by
  refine zf2_m (fun F3 G3 hF3 x3_1 m2 => ?_) n x3_1 m2
  simp only [fX8_findBest_l2, gX8_findBest_l2, zgd_t, zmap_ite, zmap_some, zmap_none, zmap_zb0, zmap_zni, zq2_k, zq3_k, zq4_k, zq5_k, zzb1_q, zzb2_q, zzb3_q, zzb4_q, zzb5_q, zmap_zb1, zmap_zb2, zmap_zb3, zmap_zb4, zmap_zb5, zmap_zb6, zmap_zc1, zmap_zc2, zmap_zc3, zmap_zc4, cg_X8_0 h0, cg_X8_1 h0, cs_1100 (isX8_1 h0), cs_1100 (isX8_2 h0), eX8_buyerGain, eX8_sellerGain, ck_X8 h0, (eX8_findBest_l27 (h0 := h0)), hF3]
set_option maxRecDepth 100000 in
theorem eX8_findBest {ν : zM} {sh : Nat → Nat} {U : zCS} {x0 : Nat} {x1 : Int32} {x2 : Int32} (h0 : isX8 sh x0) : fX8_findBest (cmem ν sh U) x0 x1 x2 = Option.map (cmem ν sh) (gX8_findBest U x0 x1 x2) := by simp only [fX8_findBest, gX8_findBest, zgd_t, zmap_ite, zmap_some, zmap_none, zmap_zb0, zmap_zni, zq2_k, zq3_k, zq4_k, zq5_k, zzb1_q, zzb2_q, zzb3_q, zzb4_q, zzb5_q, zmap_zb1, zmap_zb2, zmap_zb3, zmap_zb4, zmap_zb5, zmap_zb6, zmap_zc1, zmap_zc2, zmap_zc3, zmap_zc4, cg_X8_0 h0, cg_X8_1 h0, cs_1100 (isX8_1 h0), cs_1100 (isX8_2 h0), eX8_buyerGain, eX8_sellerGain, ck_X8 h0, (eX8_findBest_l27 (h0 := h0)), (eX8_findBest_l2 (h0 := h0))]
noncomputable def gX8_rests_l31 (x5_4 : Int32) (x1 : Int32) (U2 : zCS) (x0 : Nat) (x2 : Int32) (F13 : Int32 → Int32 → Option (Int32)) (x4_11 : Int32) (x6_12 : Int32) : Option (Int32) :=
  if 100 ≤ x6_12 then (
  some x4_11)
  else (
  zb1 (gX8_sellerGain x5_4 x6_12 x1) fun v18 =>
  zb1 (zag 100 (U2.2.1 (x0 + 1)) x6_12) fun v21 =>
  zb1 (if v18 = v21 then (
  zb1 (gX8_buyerGain x5_4 x6_12 x2) fun v26 =>
  zb1 (zag 100 (U2.2.1 (x0 + 2)) x5_4) fun v29 =>
  if v26 = v29 then (
  some (x4_11 + 1))
  else (
  some x4_11))
  else (
  some x4_11) : Option (Int32)) fun (x4_23 : Int32) =>
  F13 x4_23 (x6_12 + 1))
noncomputable def gX8_rests_l12 (x3 : Int32) (x1 : Int32) (U2 : zCS) (x0 : Nat) (x2 : Int32) (F5 : Int32 → Int32 → Option (Int32)) (x4_3 : Int32) (x5_4 : Int32) : Option (Int32) :=
  if 100 ≤ x5_4 then (
  some x4_3)
  else (
  zb1 (if x3 = 0 then (
  some 0)
  else (
  some x5_4) : Option (Int32)) fun (s9 : Int32) =>
  zb1 (zf2 (gX8_rests_l31 x5_4 x1 U2 x0 x2) zfu x4_3 s9 : Option (Int32)) fun (x4_15 : Int32) =>
  F5 x4_15 (x5_4 + 1))
noncomputable def gX8_rests (U : zCS) (x0 : Nat) (x1 : Int32) (x2 : Int32) (x3 : Int32) : Option (Int32 × zCS) :=
  zb1 (gX8_findBest U x0 x1 x2) fun U2 =>
  zb1 (zf2 (gX8_rests_l12 x3 x1 U2 x0 x2) zfu 0 0 : Option (Int32)) fun (x4_7 : Int32) =>
  some (x4_7, U2)
set_option maxRecDepth 100000 in
theorem eX8_rests_l31 {ν : zM} {sh : Nat → Nat} {m2 : zCS} {x5_4 : Int32} {x1 : Int32} {x0 : Nat} {x2 : Int32} {x4_11 : Int32} {x6_12 : Int32} (h0 : isX8 sh x0)  (n : Nat) : zf2 (fX8_rests_l31 (cmem ν sh m2) x5_4 x1 x0 x2) n x4_11 x6_12 = zf2 (gX8_rests_l31 x5_4 x1 m2 x0 x2) n x4_11 x6_12 := by
  refine zf2_c (fun F13 G13 hF13 x4_11 x6_12 => ?_) n x4_11 x6_12
  simp only [fX8_rests_l31, gX8_rests_l31, zgd_t, zmap_ite, zmap_some, zmap_none, zmap_zb0, zmap_zni, zq2_k, zq3_k, zq4_k, zq5_k, zzb1_q, zzb2_q, zzb3_q, zzb4_q, zzb5_q, zmap_zb1, zmap_zb2, zmap_zb3, zmap_zb4, zmap_zb5, zmap_zb6, zmap_zc1, zmap_zc2, zmap_zc3, zmap_zc4, (eX8_findBest (h0 := h0)), ca_1100 (isX8_1 h0), ca_1100 (isX8_2 h0), cg_X8_0 h0, cg_X8_1 h0, eX8_buyerGain, eX8_sellerGain, ck_X8 h0, hF13]
set_option maxRecDepth 100000 in
theorem eX8_rests_l12 {ν : zM} {sh : Nat → Nat} {x3 : Int32} {m2 : zCS} {x1 : Int32} {x0 : Nat} {x2 : Int32} {x4_3 : Int32} {x5_4 : Int32} (h0 : isX8 sh x0)  (n : Nat) : zf2 (fX8_rests_l12 x3 (cmem ν sh m2) x1 x0 x2) n x4_3 x5_4 = zf2 (gX8_rests_l12 x3 x1 m2 x0 x2) n x4_3 x5_4 := by
  refine zf2_c (fun F5 G5 hF5 x4_3 x5_4 => ?_) n x4_3 x5_4
  simp only [fX8_rests_l12, gX8_rests_l12, zgd_t, zmap_ite, zmap_some, zmap_none, zmap_zb0, zmap_zni, zq2_k, zq3_k, zq4_k, zq5_k, zzb1_q, zzb2_q, zzb3_q, zzb4_q, zzb5_q, zmap_zb1, zmap_zb2, zmap_zb3, zmap_zb4, zmap_zb5, zmap_zb6, zmap_zc1, zmap_zc2, zmap_zc3, zmap_zc4, (eX8_findBest (h0 := h0)), ca_1100 (isX8_1 h0), ca_1100 (isX8_2 h0), cg_X8_0 h0, cg_X8_1 h0, eX8_buyerGain, eX8_sellerGain, ck_X8 h0, (eX8_rests_l31 (h0 := h0)), hF5]
set_option maxRecDepth 100000 in
theorem eX8_rests {ν : zM} {sh : Nat → Nat} {U : zCS} {x0 : Nat} {x1 : Int32} {x2 : Int32} {x3 : Int32} (h0 : isX8 sh x0) : fX8_rests (cmem ν sh U) x0 x1 x2 x3 = Option.map (zq2 (cmem ν sh)) (gX8_rests U x0 x1 x2 x3) := by simp only [fX8_rests, gX8_rests, zgd_t, zmap_ite, zmap_some, zmap_none, zmap_zb0, zmap_zni, zq2_k, zq3_k, zq4_k, zq5_k, zzb1_q, zzb2_q, zzb3_q, zzb4_q, zzb5_q, zmap_zb1, zmap_zb2, zmap_zb3, zmap_zb4, zmap_zb5, zmap_zb6, zmap_zc1, zmap_zc2, zmap_zc3, zmap_zc4, (eX8_findBest (h0 := h0)), ca_1100 (isX8_1 h0), ca_1100 (isX8_2 h0), cg_X8_0 h0, cg_X8_1 h0, eX8_buyerGain, eX8_sellerGain, ck_X8 h0, (eX8_rests_l31 (h0 := h0)), (eX8_rests_l12 (h0 := h0))]
noncomputable def gX8_greatestBuyer (U : zCS) (x0 : Nat) (x1 : Int32) : Option (Int32) :=
  zb1 (if x1 = (-1) then (
  some 0)
  else (
  some (1 <<< (x1 &&& 31))) : Option (Int32)) fun (s1 : Int32) =>
  zb1 (gX8_bestLeft U x0 1 s1) fun v4 =>
  some v4
set_option maxRecDepth 100000 in
theorem eX8_greatestBuyer {ν : zM} {sh : Nat → Nat} {U : zCS} {x0 : Nat} {x1 : Int32} (h0 : isX9 sh x0) : fX8_greatestBuyer (cmem ν sh U) x0 x1 = gX8_greatestBuyer U x0 x1 := by simp only [fX8_greatestBuyer, gX8_greatestBuyer, zgd_t, zmap_ite, zmap_some, zmap_none, zmap_zb0, zmap_zni, zq2_k, zq3_k, zq4_k, zq5_k, zzb1_q, zzb2_q, zzb3_q, zzb4_q, zzb5_q, zmap_zb1, zmap_zb2, zmap_zb3, zmap_zb4, zmap_zb5, zmap_zb6, zmap_zc1, zmap_zc2, zmap_zc3, zmap_zc4, (eX8_bestLeft (h0 := h0))]
noncomputable def gX8_priceFor (U : zCS) (x0 : Nat) (x1 : Int32) (x2 : Int32) : Option (Int32) :=
  zb1 (gX8_greatestBuyer U x0 x2) fun v2 =>
  zb1 (if v2 = (-1) then (
  zb1 (zag 6 (U.2.1 (x0 + 6)) x1) fun v15 =>
  some v15)
  else (
  zb1 (zag 6 (U.2.1 (x0 + 6)) x1) fun v7 =>
  zb1 (zag 6 (U.2.1 (x0 + 6)) v2) fun v11 =>
  some (if v7 < v11 then v11 else v7 : Int32)) : Option (Int32)) fun (s3 : Int32) =>
  some s3
set_option maxRecDepth 100000 in
theorem eX8_priceFor {ν : zM} {sh : Nat → Nat} {U : zCS} {x0 : Nat} {x1 : Int32} {x2 : Int32} (h0 : isX9 sh x0) : fX8_priceFor (cmem ν sh U) x0 x1 x2 = gX8_priceFor U x0 x1 x2 := by simp only [fX8_priceFor, gX8_priceFor, zgd_t, zmap_ite, zmap_some, zmap_none, zmap_zb0, zmap_zni, zq2_k, zq3_k, zq4_k, zq5_k, zzb1_q, zzb2_q, zzb3_q, zzb4_q, zzb5_q, zmap_zb1, zmap_zb2, zmap_zb3, zmap_zb4, zmap_zb5, zmap_zb6, zmap_zc1, zmap_zc2, zmap_zc3, zmap_zc4, (eX8_greatestBuyer (h0 := h0)), ca_1006 (isX9_6 h0), cg_X9_7 h0]
noncomputable def gX9_tellWord (U : zCS) (x0 : Nat) (x1 : Int32) (x2 : Int32) : Option (Int32) :=
  zb1 (if x1 = 1 then (
  zb1 (zag 8 (U.2.1 (x0 + 1)) x2) fun v13 =>
  some v13)
  else (
  if x1 = 2 then (
  zb1 (zag 8 (U.2.1 (x0 + 2)) x2) fun v9 =>
  some v9)
  else (
  zb1 (zag 8 (U.2.1 (x0 + 3)) x2) fun v5 =>
  some v5)) : Option (Int32)) fun (s1 : Int32) =>
  some s1
set_option maxRecDepth 100000 in
theorem eX9_tellWord {ν : zM} {sh : Nat → Nat} {U : zCS} {x0 : Nat} {x1 : Int32} {x2 : Int32} (h0 : isX9 sh x0) : fX9_tellWord (cmem ν sh U) x0 x1 x2 = gX9_tellWord U x0 x1 x2 := by simp only [fX9_tellWord, gX9_tellWord, zgd_t, zmap_ite, zmap_some, zmap_none, zmap_zb0, zmap_zni, zq2_k, zq3_k, zq4_k, zq5_k, zzb1_q, zzb2_q, zzb3_q, zzb4_q, zzb5_q, zmap_zb1, zmap_zb2, zmap_zb3, zmap_zb4, zmap_zb5, zmap_zb6, zmap_zc1, zmap_zc2, zmap_zc3, zmap_zc4, ca_1008 (isX9_1 h0), ca_1008 (isX9_2 h0), ca_1008 (isX9_3 h0), cg_X9_1 h0, cg_X9_2 h0, cg_X9_3 h0, ck_X9 h0]
noncomputable def gX9_tellPerson (U : zCS) (x0 : Nat) (x1 : Int32) (x2 : Int32) : Option (Int32) :=
  zb1 (if x1 = 4 then (
  zb1 (zag 6 (U.2.1 (x0 + 4)) x2) fun v13 =>
  some v13)
  else (
  if x1 = 5 then (
  zb1 (zag 6 (U.2.1 (x0 + 5)) x2) fun v9 =>
  some v9)
  else (
  zb1 (zag 6 (U.2.1 (x0 + 6)) x2) fun v5 =>
  some v5)) : Option (Int32)) fun (s1 : Int32) =>
  some s1
set_option maxRecDepth 100000 in
theorem eX9_tellPerson {ν : zM} {sh : Nat → Nat} {U : zCS} {x0 : Nat} {x1 : Int32} {x2 : Int32} (h0 : isX9 sh x0) : fX9_tellPerson (cmem ν sh U) x0 x1 x2 = gX9_tellPerson U x0 x1 x2 := by simp only [fX9_tellPerson, gX9_tellPerson, zgd_t, zmap_ite, zmap_some, zmap_none, zmap_zb0, zmap_zni, zq2_k, zq3_k, zq4_k, zq5_k, zzb1_q, zzb2_q, zzb3_q, zzb4_q, zzb5_q, zmap_zb1, zmap_zb2, zmap_zb3, zmap_zb4, zmap_zb5, zmap_zb6, zmap_zc1, zmap_zc2, zmap_zc3, zmap_zc4, ca_1006 (isX9_4 h0), ca_1006 (isX9_5 h0), ca_1006 (isX9_6 h0), cg_X9_5 h0, cg_X9_6 h0, cg_X9_7 h0, ck_X9 h0]
noncomputable def gX9_tellSky (U : zCS) (x0 : Nat) (x1 : Int32) (x2 : Int32) : Option (Int32) :=
  if x1 = 7 then (
  zb1 (zag 4 (U.2.1 (x0 + 7)) x2) fun v3 =>
  some v3)
  else (
  if x1 = 8 then (
  zb1 (zag 4 (U.2.1 (x0 + 8)) x2) fun v8 =>
  some v8)
  else (
  if x1 = 9 then (
  zb1 (zag 4 (U.2.1 (x0 + 9)) x2) fun v13 =>
  some v13)
  else (
  some (-1))))
set_option maxRecDepth 100000 in
theorem eX9_tellSky {ν : zM} {sh : Nat → Nat} {U : zCS} {x0 : Nat} {x1 : Int32} {x2 : Int32} (h0 : isX9 sh x0) : fX9_tellSky (cmem ν sh U) x0 x1 x2 = gX9_tellSky U x0 x1 x2 := by simp only [fX9_tellSky, gX9_tellSky, zgd_t, zmap_ite, zmap_some, zmap_none, zmap_zb0, zmap_zni, zq2_k, zq3_k, zq4_k, zq5_k, zzb1_q, zzb2_q, zzb3_q, zzb4_q, zzb5_q, zmap_zb1, zmap_zb2, zmap_zb3, zmap_zb4, zmap_zb5, zmap_zb6, zmap_zc1, zmap_zc2, zmap_zc3, zmap_zc4, ca_1004 (isX9_7 h0), ca_1004 (isX9_8 h0), ca_1004 (isX9_9 h0), cg_X9_10 h0, cg_X9_11 h0, cg_X9_9 h0, ck_X9 h0]
noncomputable def gX9_tell (U : zCS) (x0 : Nat) (x1 : Int32) : Option (Int32) :=
  if 0 ≤ x1 then (
  if 10 ≤ x1 then (
  if 40 ≤ x1 then (
  if 70 ≤ x1 then (
  zb1 (if (U.1 x0 8) ≤ (x1 - x1 / 10 * 10) then (
  some (-1))
  else (
  zb1 (gX9_tellSky U x0 (x1 / 10) (x1 - x1 / 10 * 10)) fun v6 =>
  some v6) : Option (Int32)) fun (s3 : Int32) =>
  some s3)
  else (
  zb1 (gX9_hasPerson U x0 (x1 - x1 / 10 * 10)) fun v8 =>
  zb1 (if v8 = 0 then (
  some (-1))
  else (
  zb1 (gX9_tellPerson U x0 (x1 / 10) (x1 - x1 / 10 * 10)) fun v12 =>
  some v12) : Option (Int32)) fun (s9 : Int32) =>
  some s9))
  else (
  zb1 (gX11_isWord (x1 - x1 / 10 * 10)) fun v14 =>
  zb1 (if v14 = 0 then (
  some (-1))
  else (
  zb1 (gX9_tellWord U x0 (x1 / 10) (x1 - x1 / 10 * 10)) fun v18 =>
  some v18) : Option (Int32)) fun (s15 : Int32) =>
  some s15))
  else (
  zb1 (if (x1 - x1 / 10 * 10) = 0 then (
  some (U.1 x0 0))
  else (
  if (x1 - x1 / 10 * 10) = 1 then (
  some (U.1 x0 4))
  else (
  if (x1 - x1 / 10 * 10) = 2 then (
  some (U.1 x0 8))
  else (
  some (-1)))) : Option (Int32)) fun (s19 : Int32) =>
  some s19))
  else (
  some (-1))
set_option maxRecDepth 100000 in
theorem eX9_tell {ν : zM} {sh : Nat → Nat} {U : zCS} {x0 : Nat} {x1 : Int32} (h0 : isX9 sh x0) : fX9_tell (cmem ν sh U) x0 x1 = gX9_tell U x0 x1 := by simp only [fX9_tell, gX9_tell, zgd_t, zmap_ite, zmap_some, zmap_none, zmap_zb0, zmap_zni, zq2_k, zq3_k, zq4_k, zq5_k, zzb1_q, zzb2_q, zzb3_q, zzb4_q, zzb5_q, zmap_zb1, zmap_zb2, zmap_zb3, zmap_zb4, zmap_zb5, zmap_zb6, zmap_zc1, zmap_zc2, zmap_zc3, zmap_zc4, (eX9_hasPerson (h0 := h0)), (eX9_tellPerson (h0 := h0)), (eX9_tellSky (h0 := h0)), (eX9_tellWord (h0 := h0)), cg_X9_0 h0, cg_X9_4 h0, cg_X9_8 h0, eX11_isWord, ck_X9 h0]
noncomputable def gX9_longestClear_l6 (U : zCS) (x0 : Nat) (F4 : Int32 → Int32 → Int32 → Option (Int32)) (x1_1 : Int32) (x2_2 : Int32) (x3_3 : Int32) : Option (Int32) :=
  if 100 ≤ x3_3 then (
  some x1_1)
  else (
  zb1 (zag 100 (U.2.1 (x0 + 10)) x3_3) fun v10 =>
  zb1 (if v10 = 0 then (
  some (x2_2 + 1))
  else (
  some 0) : Option (Int32)) fun (s12 : Int32) =>
  F4 (if x1_1 < s12 then s12 else x1_1 : Int32) s12 (x3_3 + 1))
noncomputable def gX9_longestClear (U : zCS) (x0 : Nat) : Option (Int32) :=
  zb1 (zf3 (gX9_longestClear_l6 U x0) zfu 0 0 0 : Option (Int32)) fun (x1_6 : Int32) =>
  some x1_6
set_option maxRecDepth 100000 in
theorem eX9_longestClear_l6 {ν : zM} {sh : Nat → Nat} {U : zCS} {x0 : Nat} {x1_1 : Int32} {x2_2 : Int32} {x3_3 : Int32} (h0 : isX9 sh x0)  (n : Nat) : zf3 (fX9_longestClear_l6 (cmem ν sh U) x0) n x1_1 x2_2 x3_3 = zf3 (gX9_longestClear_l6 U x0) n x1_1 x2_2 x3_3 := by
  refine zf3_c (fun F4 G4 hF4 x1_1 x2_2 x3_3 => ?_) n x1_1 x2_2 x3_3
  simp only [fX9_longestClear_l6, gX9_longestClear_l6, zgd_t, zmap_ite, zmap_some, zmap_none, zmap_zb0, zmap_zni, zq2_k, zq3_k, zq4_k, zq5_k, zzb1_q, zzb2_q, zzb3_q, zzb4_q, zzb5_q, zmap_zb1, zmap_zb2, zmap_zb3, zmap_zb4, zmap_zb5, zmap_zb6, zmap_zc1, zmap_zc2, zmap_zc3, zmap_zc4, ca_1100 (isX9_10 h0), cg_X9_12 h0, ck_X9 h0, hF4]
set_option maxRecDepth 100000 in
theorem eX9_longestClear {ν : zM} {sh : Nat → Nat} {U : zCS} {x0 : Nat} (h0 : isX9 sh x0) : fX9_longestClear (cmem ν sh U) x0 = gX9_longestClear U x0 := by simp only [fX9_longestClear, gX9_longestClear, zgd_t, zmap_ite, zmap_some, zmap_none, zmap_zb0, zmap_zni, zq2_k, zq3_k, zq4_k, zq5_k, zzb1_q, zzb2_q, zzb3_q, zzb4_q, zzb5_q, zmap_zb1, zmap_zb2, zmap_zb3, zmap_zb4, zmap_zb5, zmap_zb6, zmap_zc1, zmap_zc2, zmap_zc3, zmap_zc4, ca_1100 (isX9_10 h0), cg_X9_12 h0, ck_X9 h0, (eX9_longestClear_l6 (h0 := h0))]
noncomputable def gX10_sayingsUntil_l5 (U : zCS) (x0 : Nat) (x2 : Int32) (F3 : Int32 → Int32 → Option (Int32)) (x3_1 : Int32) (x4_2 : Int32) : Option (Int32) :=
  if 8 < x4_2 then (
  some (-1))
  else (
  zb1 (zag 8 (U.2.1 (x0 + 1)) x3_1) fun v7 =>
  if v7 = x2 then (
  some x4_2)
  else (
  F3 v7 (x4_2 + 1)))
noncomputable def gX10_sayingsUntil (U : zCS) (x0 : Nat) (x1 : Int32) (x2 : Int32) : Option (Int32) :=
  zf2 (gX10_sayingsUntil_l5 U x0 x2) zfu x1 1
set_option maxRecDepth 100000 in
theorem eX10_sayingsUntil_l5 {ν : zM} {sh : Nat → Nat} {U : zCS} {x0 : Nat} {x2 : Int32} {x3_1 : Int32} {x4_2 : Int32} (h0 : isX9 sh x0)  (n : Nat) : zf2 (fX10_sayingsUntil_l5 (cmem ν sh U) x0 x2) n x3_1 x4_2 = zf2 (gX10_sayingsUntil_l5 U x0 x2) n x3_1 x4_2 := by
  refine zf2_c (fun F3 G3 hF3 x3_1 x4_2 => ?_) n x3_1 x4_2
  simp only [fX10_sayingsUntil_l5, gX10_sayingsUntil_l5, zgd_t, zmap_ite, zmap_some, zmap_none, zmap_zb0, zmap_zni, zq2_k, zq3_k, zq4_k, zq5_k, zzb1_q, zzb2_q, zzb3_q, zzb4_q, zzb5_q, zmap_zb1, zmap_zb2, zmap_zb3, zmap_zb4, zmap_zb5, zmap_zb6, zmap_zc1, zmap_zc2, zmap_zc3, zmap_zc4, ca_1008 (isX9_1 h0), cg_X9_1 h0, hF3]
set_option maxRecDepth 100000 in
theorem eX10_sayingsUntil {ν : zM} {sh : Nat → Nat} {U : zCS} {x0 : Nat} {x1 : Int32} {x2 : Int32} (h0 : isX9 sh x0) : fX10_sayingsUntil (cmem ν sh U) x0 x1 x2 = gX10_sayingsUntil U x0 x1 x2 := by simp only [fX10_sayingsUntil, gX10_sayingsUntil, zgd_t, zmap_ite, zmap_some, zmap_none, zmap_zb0, zmap_zni, zq2_k, zq3_k, zq4_k, zq5_k, zzb1_q, zzb2_q, zzb3_q, zzb4_q, zzb5_q, zmap_zb1, zmap_zb2, zmap_zb3, zmap_zb4, zmap_zb5, zmap_zb6, zmap_zc1, zmap_zc2, zmap_zc3, zmap_zc4, ca_1008 (isX9_1 h0), cg_X9_1 h0, (eX10_sayingsUntil_l5 (h0 := h0))]
noncomputable def gX10_isLeastOfRing_l12 (v2 : Int32) (U : zCS) (x0 : Nat) (x1 : Int32) (F5 : Int32 → Int32 → Option (Int32)) (x3_3 : Int32) (x4_4 : Int32) : Option (Int32) :=
  if v2 ≤ x4_4 then (
  zb1 (if v2 = (-1) then (
  some 0)
  else (
  some 1) : Option (Int32)) fun (s7 : Int32) =>
  zb1 (zbz s7) fun v9 =>
  some v9)
  else (
  zb1 (zag 8 (U.2.1 (x0 + 1)) x3_3) fun v13 =>
  if x1 ≤ v13 then (
  F5 v13 (x4_4 + 1))
  else (
  some 0))
noncomputable def gX10_isLeastOfRing (U : zCS) (x0 : Nat) (x1 : Int32) : Option (Int32) :=
  zb1 (gX10_sayingsUntil U x0 x1 x1) fun v2 =>
  zf2 (gX10_isLeastOfRing_l12 v2 U x0 x1) zfu x1 0
set_option maxRecDepth 100000 in
theorem eX10_isLeastOfRing_l12 {ν : zM} {sh : Nat → Nat} {v2 : Int32} {U : zCS} {x0 : Nat} {x1 : Int32} {x3_3 : Int32} {x4_4 : Int32} (h0 : isX9 sh x0)  (n : Nat) : zf2 (fX10_isLeastOfRing_l12 v2 (cmem ν sh U) x0 x1) n x3_3 x4_4 = zf2 (gX10_isLeastOfRing_l12 v2 U x0 x1) n x3_3 x4_4 := by
  refine zf2_c (fun F5 G5 hF5 x3_3 x4_4 => ?_) n x3_3 x4_4
  simp only [fX10_isLeastOfRing_l12, gX10_isLeastOfRing_l12, zgd_t, zmap_ite, zmap_some, zmap_none, zmap_zb0, zmap_zni, zq2_k, zq3_k, zq4_k, zq5_k, zzb1_q, zzb2_q, zzb3_q, zzb4_q, zzb5_q, zmap_zb1, zmap_zb2, zmap_zb3, zmap_zb4, zmap_zb5, zmap_zb6, zmap_zc1, zmap_zc2, zmap_zc3, zmap_zc4, (eX10_sayingsUntil (h0 := h0)), ca_1008 (isX9_1 h0), cg_X9_1 h0, hF5]
set_option maxRecDepth 100000 in
theorem eX10_isLeastOfRing {ν : zM} {sh : Nat → Nat} {U : zCS} {x0 : Nat} {x1 : Int32} (h0 : isX9 sh x0) : fX10_isLeastOfRing (cmem ν sh U) x0 x1 = gX10_isLeastOfRing U x0 x1 := by simp only [fX10_isLeastOfRing, gX10_isLeastOfRing, zgd_t, zmap_ite, zmap_some, zmap_none, zmap_zb0, zmap_zni, zq2_k, zq3_k, zq4_k, zq5_k, zzb1_q, zzb2_q, zzb3_q, zzb4_q, zzb5_q, zmap_zb1, zmap_zb2, zmap_zb3, zmap_zb4, zmap_zb5, zmap_zb6, zmap_zc1, zmap_zc2, zmap_zc3, zmap_zc4, (eX10_sayingsUntil (h0 := h0)), ca_1008 (isX9_1 h0), cg_X9_1 h0, (eX10_isLeastOfRing_l12 (h0 := h0))]
noncomputable def gX10_ringCount_l4 (U : zCS) (x0 : Nat) (F3 : Int32 → Int32 → Option (Int32)) (x1_1 : Int32) (x2_2 : Int32) : Option (Int32) :=
  if 8 ≤ x2_2 then (
  some x1_1)
  else (
  zb1 (gX10_isLeastOfRing U x0 x2_2) fun v8 =>
  zb1 (if v8 = 0 then (
  some x1_1)
  else (
  some (x1_1 + 1)) : Option (Int32)) fun (x1_9 : Int32) =>
  F3 x1_9 (x2_2 + 1))
noncomputable def gX10_ringCount (U : zCS) (x0 : Nat) : Option (Int32) :=
  zb1 (zf2 (gX10_ringCount_l4 U x0) zfu 0 0 : Option (Int32)) fun (x1_5 : Int32) =>
  some x1_5
set_option maxRecDepth 100000 in
theorem eX10_ringCount_l4 {ν : zM} {sh : Nat → Nat} {U : zCS} {x0 : Nat} {x1_1 : Int32} {x2_2 : Int32} (h0 : isX9 sh x0)  (n : Nat) : zf2 (fX10_ringCount_l4 (cmem ν sh U) x0) n x1_1 x2_2 = zf2 (gX10_ringCount_l4 U x0) n x1_1 x2_2 := by
  refine zf2_c (fun F3 G3 hF3 x1_1 x2_2 => ?_) n x1_1 x2_2
  simp only [fX10_ringCount_l4, gX10_ringCount_l4, zgd_t, zmap_ite, zmap_some, zmap_none, zmap_zb0, zmap_zni, zq2_k, zq3_k, zq4_k, zq5_k, zzb1_q, zzb2_q, zzb3_q, zzb4_q, zzb5_q, zmap_zb1, zmap_zb2, zmap_zb3, zmap_zb4, zmap_zb5, zmap_zb6, zmap_zc1, zmap_zc2, zmap_zc3, zmap_zc4, (eX10_isLeastOfRing (h0 := h0)), hF3]
set_option maxRecDepth 100000 in
theorem eX10_ringCount {ν : zM} {sh : Nat → Nat} {U : zCS} {x0 : Nat} (h0 : isX9 sh x0) : fX10_ringCount (cmem ν sh U) x0 = gX10_ringCount U x0 := by simp only [fX10_ringCount, gX10_ringCount, zgd_t, zmap_ite, zmap_some, zmap_none, zmap_zb0, zmap_zni, zq2_k, zq3_k, zq4_k, zq5_k, zzb1_q, zzb2_q, zzb3_q, zzb4_q, zzb5_q, zmap_zb1, zmap_zb2, zmap_zb3, zmap_zb4, zmap_zb5, zmap_zb6, zmap_zc1, zmap_zc2, zmap_zc3, zmap_zc4, (eX10_isLeastOfRing (h0 := h0)), (eX10_ringCount_l4 (h0 := h0))]
noncomputable def gX10_longestRing_l4 (U : zCS) (x0 : Nat) (F3 : Int32 → Int32 → Option (Int32)) (x1_1 : Int32) (x2_2 : Int32) : Option (Int32) :=
  if 8 ≤ x2_2 then (
  some x1_1)
  else (
  zb1 (gX10_sayingsUntil U x0 x2_2 x2_2) fun v8 =>
  F3 (if x1_1 < v8 then v8 else x1_1 : Int32) (x2_2 + 1))
noncomputable def gX10_longestRing (U : zCS) (x0 : Nat) : Option (Int32) :=
  zb1 (zf2 (gX10_longestRing_l4 U x0) zfu 0 0 : Option (Int32)) fun (x1_5 : Int32) =>
  some x1_5
set_option maxRecDepth 100000 in
theorem eX10_longestRing_l4 {ν : zM} {sh : Nat → Nat} {U : zCS} {x0 : Nat} {x1_1 : Int32} {x2_2 : Int32} (h0 : isX9 sh x0)  (n : Nat) : zf2 (fX10_longestRing_l4 (cmem ν sh U) x0) n x1_1 x2_2 = zf2 (gX10_longestRing_l4 U x0) n x1_1 x2_2 := by
  refine zf2_c (fun F3 G3 hF3 x1_1 x2_2 => ?_) n x1_1 x2_2
  simp only [fX10_longestRing_l4, gX10_longestRing_l4, zgd_t, zmap_ite, zmap_some, zmap_none, zmap_zb0, zmap_zni, zq2_k, zq3_k, zq4_k, zq5_k, zzb1_q, zzb2_q, zzb3_q, zzb4_q, zzb5_q, zmap_zb1, zmap_zb2, zmap_zb3, zmap_zb4, zmap_zb5, zmap_zb6, zmap_zc1, zmap_zc2, zmap_zc3, zmap_zc4, (eX10_sayingsUntil (h0 := h0)), hF3]
set_option maxRecDepth 100000 in
theorem eX10_longestRing {ν : zM} {sh : Nat → Nat} {U : zCS} {x0 : Nat} (h0 : isX9 sh x0) : fX10_longestRing (cmem ν sh U) x0 = gX10_longestRing U x0 := by simp only [fX10_longestRing, gX10_longestRing, zgd_t, zmap_ite, zmap_some, zmap_none, zmap_zb0, zmap_zni, zq2_k, zq3_k, zq4_k, zq5_k, zzb1_q, zzb2_q, zzb3_q, zzb4_q, zzb5_q, zmap_zb1, zmap_zb2, zmap_zb3, zmap_zb4, zmap_zb5, zmap_zb6, zmap_zc1, zmap_zc2, zmap_zc3, zmap_zc4, (eX10_sayingsUntil (h0 := h0)), (eX10_longestRing_l4 (h0 := h0))]
noncomputable def gX10_wordsInRings_l4 (U : zCS) (x0 : Nat) (F3 : Int32 → Int32 → Option (Int32)) (x1_1 : Int32) (x2_2 : Int32) : Option (Int32) :=
  if 8 ≤ x2_2 then (
  some x1_1)
  else (
  zb1 (gX10_sayingsUntil U x0 x2_2 x2_2) fun v8 =>
  zb1 (if v8 = (-1) then (
  some x1_1)
  else (
  some (x1_1 ||| (1 <<< (x2_2 &&& 31)))) : Option (Int32)) fun (x1_9 : Int32) =>
  F3 x1_9 (x2_2 + 1))
noncomputable def gX10_wordsInRings (U : zCS) (x0 : Nat) : Option (Int32) :=
  zb1 (zf2 (gX10_wordsInRings_l4 U x0) zfu 0 0 : Option (Int32)) fun (x1_5 : Int32) =>
  some x1_5
set_option maxRecDepth 100000 in
theorem eX10_wordsInRings_l4 {ν : zM} {sh : Nat → Nat} {U : zCS} {x0 : Nat} {x1_1 : Int32} {x2_2 : Int32} (h0 : isX9 sh x0)  (n : Nat) : zf2 (fX10_wordsInRings_l4 (cmem ν sh U) x0) n x1_1 x2_2 = zf2 (gX10_wordsInRings_l4 U x0) n x1_1 x2_2 := by
  refine zf2_c (fun F3 G3 hF3 x1_1 x2_2 => ?_) n x1_1 x2_2
  simp only [fX10_wordsInRings_l4, gX10_wordsInRings_l4, zgd_t, zmap_ite, zmap_some, zmap_none, zmap_zb0, zmap_zni, zq2_k, zq3_k, zq4_k, zq5_k, zzb1_q, zzb2_q, zzb3_q, zzb4_q, zzb5_q, zmap_zb1, zmap_zb2, zmap_zb3, zmap_zb4, zmap_zb5, zmap_zb6, zmap_zc1, zmap_zc2, zmap_zc3, zmap_zc4, (eX10_sayingsUntil (h0 := h0)), hF3]
set_option maxRecDepth 100000 in
theorem eX10_wordsInRings {ν : zM} {sh : Nat → Nat} {U : zCS} {x0 : Nat} (h0 : isX9 sh x0) : fX10_wordsInRings (cmem ν sh U) x0 = gX10_wordsInRings U x0 := by simp only [fX10_wordsInRings, gX10_wordsInRings, zgd_t, zmap_ite, zmap_some, zmap_none, zmap_zb0, zmap_zni, zq2_k, zq3_k, zq4_k, zq5_k, zzb1_q, zzb2_q, zzb3_q, zzb4_q, zzb5_q, zmap_zb1, zmap_zb2, zmap_zb3, zmap_zb4, zmap_zb5, zmap_zb6, zmap_zc1, zmap_zc2, zmap_zc3, zmap_zc4, (eX10_sayingsUntil (h0 := h0)), (eX10_wordsInRings_l4 (h0 := h0))]
noncomputable def gX10_weightFrom_l4 (U : zCS) (x0 : Nat) (F3 : Int32 → Int32 → Option (Int32)) (x2_1 : Int32) (x3_2 : Int32) : Option (Int32) :=
  if 8 ≤ x3_2 then (
  some x2_1)
  else (
  zb1 (zag 8 (U.2.1 x0) x3_2) fun v7 =>
  F3 (x2_1 + v7) (x3_2 + 1))
noncomputable def gX10_weightFrom (U : zCS) (x0 : Nat) (x1 : Int32) : Option (Int32) :=
  zb1 (zf2 (gX10_weightFrom_l4 U x0) zfu 0 x1 : Option (Int32)) fun (x2_5 : Int32) =>
  some x2_5
set_option maxRecDepth 100000 in
theorem eX10_weightFrom_l4 {ν : zM} {sh : Nat → Nat} {U : zCS} {x0 : Nat} {x2_1 : Int32} {x3_2 : Int32} (h0 : sh x0 = 1008)  (n : Nat) : zf2 (fX10_weightFrom_l4 (cmem ν sh U) x0) n x2_1 x3_2 = zf2 (gX10_weightFrom_l4 U x0) n x2_1 x3_2 := by
  refine zf2_c (fun F3 G3 hF3 x2_1 x3_2 => ?_) n x2_1 x3_2
  simp only [fX10_weightFrom_l4, gX10_weightFrom_l4, zgd_t, zmap_ite, zmap_some, zmap_none, zmap_zb0, zmap_zni, zq2_k, zq3_k, zq4_k, zq5_k, zzb1_q, zzb2_q, zzb3_q, zzb4_q, zzb5_q, zmap_zb1, zmap_zb2, zmap_zb3, zmap_zb4, zmap_zb5, zmap_zb6, zmap_zc1, zmap_zc2, zmap_zc3, zmap_zc4, ca_1008 h0, hF3]
set_option maxRecDepth 100000 in
theorem eX10_weightFrom {ν : zM} {sh : Nat → Nat} {U : zCS} {x0 : Nat} {x1 : Int32} (h0 : sh x0 = 1008) : fX10_weightFrom (cmem ν sh U) x0 x1 = gX10_weightFrom U x0 x1 := by simp only [fX10_weightFrom, gX10_weightFrom, zgd_t, zmap_ite, zmap_some, zmap_none, zmap_zb0, zmap_zni, zq2_k, zq3_k, zq4_k, zq5_k, zzb1_q, zzb2_q, zzb3_q, zzb4_q, zzb5_q, zmap_zb1, zmap_zb2, zmap_zb3, zmap_zb4, zmap_zb5, zmap_zb6, zmap_zc1, zmap_zc2, zmap_zc3, zmap_zc4, ca_1008 h0, (eX10_weightFrom_l4 (h0 := h0))]
noncomputable def gX10_weightOfAll_l4 (U : zCS) (x0 : Nat) (F3 : Int64 → Int32 → Option (Int64)) (x1_1 : Int64) (x3_2 : Int32) : Option (Int64) :=
  if 8 ≤ x3_2 then (
  some x1_1)
  else (
  zb1 (zag 8 (U.2.1 (x0 + 3)) x3_2) fun v9 =>
  F3 (x1_1 + ((v9 : Int32).toInt64)) (x3_2 + 1))
noncomputable def gX10_weightOfAll (U : zCS) (x0 : Nat) : Option (Int64) :=
  zb1 (zf2 (gX10_weightOfAll_l4 U x0) zfu 0 0 : Option (Int64)) fun (x1_5 : Int64) =>
  some x1_5
set_option maxRecDepth 100000 in
theorem eX10_weightOfAll_l4 {ν : zM} {sh : Nat → Nat} {U : zCS} {x0 : Nat} {x1_1 : Int64} {x3_2 : Int32} (h0 : isX9 sh x0)  (n : Nat) : zf2 (fX10_weightOfAll_l4 (cmem ν sh U) x0) n x1_1 x3_2 = zf2 (gX10_weightOfAll_l4 U x0) n x1_1 x3_2 := by
  refine zf2_c (fun F3 G3 hF3 x1_1 x3_2 => ?_) n x1_1 x3_2
  simp only [fX10_weightOfAll_l4, gX10_weightOfAll_l4, zgd_t, zmap_ite, zmap_some, zmap_none, zmap_zb0, zmap_zni, zq2_k, zq3_k, zq4_k, zq5_k, zzb1_q, zzb2_q, zzb3_q, zzb4_q, zzb5_q, zmap_zb1, zmap_zb2, zmap_zb3, zmap_zb4, zmap_zb5, zmap_zb6, zmap_zc1, zmap_zc2, zmap_zc3, zmap_zc4, ca_1008 (isX9_3 h0), cg_X9_3 h0, hF3]
set_option maxRecDepth 100000 in
theorem eX10_weightOfAll {ν : zM} {sh : Nat → Nat} {U : zCS} {x0 : Nat} (h0 : isX9 sh x0) : fX10_weightOfAll (cmem ν sh U) x0 = gX10_weightOfAll U x0 := by simp only [fX10_weightOfAll, gX10_weightOfAll, zgd_t, zmap_ite, zmap_some, zmap_none, zmap_zb0, zmap_zni, zq2_k, zq3_k, zq4_k, zq5_k, zzb1_q, zzb2_q, zzb3_q, zzb4_q, zzb5_q, zmap_zb1, zmap_zb2, zmap_zb3, zmap_zb4, zmap_zb5, zmap_zb6, zmap_zc1, zmap_zc2, zmap_zc3, zmap_zc4, ca_1008 (isX9_3 h0), cg_X9_3 h0, (eX10_weightOfAll_l4 (h0 := h0))]
noncomputable def gX10_weightOfSelfSame_l4 (U : zCS) (x0 : Nat) (F3 : Int64 → Int32 → Option (Int64)) (x1_1 : Int64) (x3_2 : Int32) : Option (Int64) :=
  if 8 ≤ x3_2 then (
  some x1_1)
  else (
  zb1 (zag 8 (U.2.1 (x0 + 1)) x3_2) fun v9 =>
  zb1 (if v9 = x3_2 then (
  zb1 (zag 8 (U.2.1 (x0 + 3)) x3_2) fun v15 =>
  some ((v15 : Int32).toInt64))
  else (
  some 0) : Option (Int64)) fun (s11 : Int64) =>
  F3 (x1_1 + s11) (x3_2 + 1))
noncomputable def gX10_weightOfSelfSame (U : zCS) (x0 : Nat) : Option (Int64) :=
  zb1 (zf2 (gX10_weightOfSelfSame_l4 U x0) zfu 0 0 : Option (Int64)) fun (x1_5 : Int64) =>
  some x1_5
set_option maxRecDepth 100000 in
theorem eX10_weightOfSelfSame_l4 {ν : zM} {sh : Nat → Nat} {U : zCS} {x0 : Nat} {x1_1 : Int64} {x3_2 : Int32} (h0 : isX9 sh x0)  (n : Nat) : zf2 (fX10_weightOfSelfSame_l4 (cmem ν sh U) x0) n x1_1 x3_2 = zf2 (gX10_weightOfSelfSame_l4 U x0) n x1_1 x3_2 := by
  refine zf2_c (fun F3 G3 hF3 x1_1 x3_2 => ?_) n x1_1 x3_2
  simp only [fX10_weightOfSelfSame_l4, gX10_weightOfSelfSame_l4, zgd_t, zmap_ite, zmap_some, zmap_none, zmap_zb0, zmap_zni, zq2_k, zq3_k, zq4_k, zq5_k, zzb1_q, zzb2_q, zzb3_q, zzb4_q, zzb5_q, zmap_zb1, zmap_zb2, zmap_zb3, zmap_zb4, zmap_zb5, zmap_zb6, zmap_zc1, zmap_zc2, zmap_zc3, zmap_zc4, ca_1008 (isX9_1 h0), ca_1008 (isX9_3 h0), cg_X9_1 h0, cg_X9_3 h0, hF3]
set_option maxRecDepth 100000 in
theorem eX10_weightOfSelfSame {ν : zM} {sh : Nat → Nat} {U : zCS} {x0 : Nat} (h0 : isX9 sh x0) : fX10_weightOfSelfSame (cmem ν sh U) x0 = gX10_weightOfSelfSame U x0 := by simp only [fX10_weightOfSelfSame, gX10_weightOfSelfSame, zgd_t, zmap_ite, zmap_some, zmap_none, zmap_zb0, zmap_zni, zq2_k, zq3_k, zq4_k, zq5_k, zzb1_q, zzb2_q, zzb3_q, zzb4_q, zzb5_q, zmap_zb1, zmap_zb2, zmap_zb3, zmap_zb4, zmap_zb5, zmap_zb6, zmap_zc1, zmap_zc2, zmap_zc3, zmap_zc4, ca_1008 (isX9_1 h0), ca_1008 (isX9_3 h0), cg_X9_1 h0, cg_X9_3 h0, (eX10_weightOfSelfSame_l4 (h0 := h0))]
noncomputable def gX10_commonDivisor_l9  (F4 : Int64 → Int64 → Int32 → Option (Int64)) (x4_1 : Int64) (x6_2 : Int64) (x8_3 : Int32) : Option (Int64) :=
  if 100 ≤ x8_3 then (
  some x4_1)
  else (
  if (lg_cmp x6_2 0) = 0 then (
  some x4_1)
  else (
  zni (x6_2 = 0) <|
  F4 x6_2 (x4_1 - x4_1 / x6_2 * x6_2) (x8_3 + 1)))
noncomputable def gX10_commonDivisor  (x0 : Int64) (x2 : Int64) : Option (Int64) :=
  zb1 (zf3 gX10_commonDivisor_l9 zfu x0 x2 0 : Option (Int64)) fun (x4_6 : Int64) =>
  some x4_6
set_option maxRecDepth 100000 in
theorem eX10_commonDivisor_l9 {x4_1 : Int64} {x6_2 : Int64} {x8_3 : Int32}   (n : Nat) : zf3 fX10_commonDivisor_l9 n x4_1 x6_2 x8_3 = zf3 gX10_commonDivisor_l9 n x4_1 x6_2 x8_3 := by
  refine zf3_c (fun F4 G4 hF4 x4_1 x6_2 x8_3 => ?_) n x4_1 x6_2 x8_3
  simp only [fX10_commonDivisor_l9, gX10_commonDivisor_l9, zgd_t, zmap_ite, zmap_some, zmap_none, zmap_zb0, zmap_zni, zq2_k, zq3_k, zq4_k, zq5_k, zzb1_q, zzb2_q, zzb3_q, zzb4_q, zzb5_q, zmap_zb1, zmap_zb2, zmap_zb3, zmap_zb4, zmap_zb5, zmap_zb6, zmap_zc1, zmap_zc2, zmap_zc3, zmap_zc4, hF4]
set_option maxRecDepth 100000 in
theorem eX10_commonDivisor {μ : zM} {x0 : Int64} {x2 : Int64} : fX10_commonDivisor μ x0 x2 = gX10_commonDivisor x0 x2 := by simp only [fX10_commonDivisor, gX10_commonDivisor, zgd_t, zmap_ite, zmap_some, zmap_none, zmap_zb0, zmap_zni, zq2_k, zq3_k, zq4_k, zq5_k, zzb1_q, zzb2_q, zzb3_q, zzb4_q, zzb5_q, zmap_zb1, zmap_zb2, zmap_zb3, zmap_zb4, zmap_zb5, zmap_zb6, zmap_zc1, zmap_zc2, zmap_zc3, zmap_zc4, (eX10_commonDivisor_l9)]
noncomputable def gX10_power_l5 (x2 : Int32) (x0 : Int64) (F3 : Int64 → Int32 → Option (Int64)) (x3_1 : Int64) (x5_2 : Int32) : Option (Int64) :=
  if x2 ≤ x5_2 then (
  some x3_1)
  else (
  F3 (x3_1 * x0) (x5_2 + 1))
noncomputable def gX10_power  (x0 : Int64) (x2 : Int32) : Option (Int64) :=
  zb1 (zf2 (gX10_power_l5 x2 x0) zfu 1 0 : Option (Int64)) fun (x3_5 : Int64) =>
  some x3_5
set_option maxRecDepth 100000 in
theorem eX10_power_l5 {x2 : Int32} {x0 : Int64} {x3_1 : Int64} {x5_2 : Int32}   (n : Nat) : zf2 (fX10_power_l5 x2 x0) n x3_1 x5_2 = zf2 (gX10_power_l5 x2 x0) n x3_1 x5_2 := by
  refine zf2_c (fun F3 G3 hF3 x3_1 x5_2 => ?_) n x3_1 x5_2
  simp only [fX10_power_l5, gX10_power_l5, zgd_t, zmap_ite, zmap_some, zmap_none, zmap_zb0, zmap_zni, zq2_k, zq3_k, zq4_k, zq5_k, zzb1_q, zzb2_q, zzb3_q, zzb4_q, zzb5_q, zmap_zb1, zmap_zb2, zmap_zb3, zmap_zb4, zmap_zb5, zmap_zb6, zmap_zc1, zmap_zc2, zmap_zc3, zmap_zc4, hF3]
set_option maxRecDepth 100000 in
theorem eX10_power {μ : zM} {x0 : Int64} {x2 : Int32} : fX10_power μ x0 x2 = gX10_power x0 x2 := by simp only [fX10_power, gX10_power, zgd_t, zmap_ite, zmap_some, zmap_none, zmap_zb0, zmap_zni, zq2_k, zq3_k, zq4_k, zq5_k, zzb1_q, zzb2_q, zzb3_q, zzb4_q, zzb5_q, zmap_zb1, zmap_zb2, zmap_zb3, zmap_zb4, zmap_zb5, zmap_zb6, zmap_zc1, zmap_zc2, zmap_zc3, zmap_zc4, (eX10_power_l5)]
noncomputable def gX11_isLoud  (x0 : Int32) : Option (Int32) :=
  zb1 (if x0 < 0 then (
  some 0)
  else (
  if 2 < x0 then (
  some 0)
  else (
  some 1)) : Option (Int32)) fun (s1 : Int32) =>
  zb1 (zbz s1) fun v3 =>
  some v3
set_option maxRecDepth 100000 in
theorem eX11_isLoud {μ : zM} {x0 : Int32} : fX11_isLoud μ x0 = gX11_isLoud x0 := by simp only [fX11_isLoud, gX11_isLoud, zgd_t, zmap_ite, zmap_some, zmap_none, zmap_zb0, zmap_zni, zq2_k, zq3_k, zq4_k, zq5_k, zzb1_q, zzb2_q, zzb3_q, zzb4_q, zzb5_q, zmap_zb1, zmap_zb2, zmap_zb3, zmap_zb4, zmap_zb5, zmap_zb6, zmap_zc1, zmap_zc2, zmap_zc3, zmap_zc4]
