noncomputable def gX4_leastNumber_b35  : Option (Int32) :=
  some 0
noncomputable def gX4_leastNumber_b26 (x2 : Int32) : Option (Int32) :=
  if x2 = 1 then (
  some 1)
  else (
  gX4_leastNumber_b35)
noncomputable def gX4_leastNumber (U : zCS) (x0 : Nat) (x1 : Int32) (x2 : Int32) : Option (Int32) :=
  if x1 = 0 then (
  some 2)
  else (
  if x1 = 13 then (
  some 1)
  else (
  zb1 (if x1 = 7 then (
  gX4_leastNumber_b26 x2)
  else (
  if x1 = 8 then (
  gX4_leastNumber_b26 x2)
  else (
  gX4_leastNumber_b35)) : Option (Int32)) fun (s1 : Int32) =>
  zb1 (if s1 = 0 then (
  some 0)
  else (
  zb1 (zag 3 (U.2.1 (x0 + 24)) 0) fun v9 =>
  some v9) : Option (Int32)) fun (s5 : Int32) =>
  some s5))
set_option maxRecDepth 100000 in
theorem eX4_leastNumber_b35    : fX4_leastNumber_b35  = gX4_leastNumber_b35  := by simp only [fX4_leastNumber_b35, gX4_leastNumber_b35, zgd_t, zmap_ite, zmap_some, zmap_none, zmap_zb0, zmap_zni, zq2_k, zq3_k, zq4_k, zq5_k, zzb1_q, zzb2_q, zzb3_q, zzb4_q, zzb5_q, zmap_zb1, zmap_zb2, zmap_zb3, zmap_zb4, zmap_zb5, zmap_zb6, zmap_zc1, zmap_zc2, zmap_zc3, zmap_zc4]
set_option maxRecDepth 100000 in
theorem eX4_leastNumber_b26 {x2 : Int32}   : fX4_leastNumber_b26 x2  = gX4_leastNumber_b26 x2  := by simp only [fX4_leastNumber_b26, gX4_leastNumber_b26, zgd_t, zmap_ite, zmap_some, zmap_none, zmap_zb0, zmap_zni, zq2_k, zq3_k, zq4_k, zq5_k, zzb1_q, zzb2_q, zzb3_q, zzb4_q, zzb5_q, zmap_zb1, zmap_zb2, zmap_zb3, zmap_zb4, zmap_zb5, zmap_zb6, zmap_zc1, zmap_zc2, zmap_zc3, zmap_zc4, (eX4_leastNumber_b35)]
set_option maxRecDepth 100000 in
theorem eX4_leastNumber {ν : zM} {sh : Nat → Nat} {U : zCS} {x0 : Nat} {x1 : Int32} {x2 : Int32} (h0 : isX4 sh x0) : fX4_leastNumber (cmem ν sh U) x0 x1 x2 = gX4_leastNumber U x0 x1 x2 := by simp only [fX4_leastNumber, gX4_leastNumber, zgd_t, zmap_ite, zmap_some, zmap_none, zmap_zb0, zmap_zni, zq2_k, zq3_k, zq4_k, zq5_k, zzb1_q, zzb2_q, zzb3_q, zzb4_q, zzb5_q, zmap_zb1, zmap_zb2, zmap_zb3, zmap_zb4, zmap_zb5, zmap_zb6, zmap_zc1, zmap_zc2, zmap_zc3, zmap_zc4, ca_1003 (isX4_24 h0), cg_X4_11 h0, ck_X4 h0, (eX4_leastNumber_b35), (eX4_leastNumber_b26)]
noncomputable def gX4_check_b58 (m6 : zCS) (x0 : Nat) (x3_5 : Int32) : Option (zCS) :=
  zb1 (zag 3 (m6.2.1 (x0 + 25)) x3_5) fun v23 =>
  zb1 (gX4_mark m6 x0 2 v23) fun U26 =>
  some U26
noncomputable def gX4_check_l16 (x1 : Int32) (x0 : Nat) (F7 : Int32 → zCS → Option (zCS)) (x3_5 : Int32) (m6 : zCS) : Option (zCS) :=
  zb1 (zag 18 (fun j => (zrow 4).getD j 0) x1) fun v11 =>
  if v11 ≤ x3_5 then (
  some m6)
  else (
  zb1 (zag 3 (m6.2.1 (x0 + 24)) x3_5) fun v15 =>
  zb1 (gX4_leastNumber m6 x0 x1 x3_5) fun v18 =>
  zc1 (if v15 < v18 then (
  gX4_check_b58 m6 x0 x3_5)
  else (
  zb1 (zag 3 (m6.2.1 (x0 + 24)) x3_5) fun v30 =>
  zb1 (zag 54 (fun j => (zrow 3).getD j 0) ((3 * x1) + x3_5)) fun v32 =>
  if v30 ≤ v32 then (
  some m6)
  else (
  gX4_check_b58 m6 x0 x3_5)) : Option (zCS)) fun (m19 : zCS) =>
  F7 (x3_5 + 1) m19)
noncomputable def gX4_check (U : zCS) (x0 : Nat) (x1 : Int32) (x2 : Int32) : Option (zCS) :=
  zb1 (gX4_isFull U x0 x1) fun v2 =>
  zc1 (if v2 = 0 then (
  some U)
  else (
  zb1 (gX4_mark U x0 3 x2) fun U36 =>
  some U36) : Option (zCS)) fun (m3 : zCS) =>
  zb1 (zf2 (gX4_check_l16 x1 x0) zfu 0 m3 : Option (zCS)) fun (m9 : zCS) =>
  some m9
set_option maxRecDepth 100000 in
theorem eX4_check_b58 {ν : zM} {sh : Nat → Nat} {m6 : zCS} {x0 : Nat} {x3_5 : Int32} (h0 : isX4 sh x0) (hst : stOk ν sh)  : fX4_check_b58 (cmem ν sh m6) x0 x3_5  = Option.map (cmem ν sh) (gX4_check_b58 m6 x0 x3_5 ) := by simp only [fX4_check_b58, gX4_check_b58, zgd_t, zmap_ite, zmap_some, zmap_none, zmap_zb0, zmap_zni, zq2_k, zq3_k, zq4_k, zq5_k, zzc1_some, zzc2_some, zzc3_some, zzc4_some, zzc5_some, zzc6_some, zzb1_q, zzb2_q, zzb3_q, zzb4_q, zzb5_q, zzc1_q, zzc2_q, zzc3_q, zzc4_q, zzc5_q, zmap_zb1, zmap_zb2, zmap_zb3, zmap_zb4, zmap_zb5, zmap_zb6, zzc1_ite, zzc2_ite, zzc3_ite, zzc4_ite, zmap_zc1, zmap_zc2, zmap_zc3, zmap_zc4, zzc1_zb0, zzc1_zb1, zzc1_zb2, zzc1_zb3, zzc1_zb4, zzc2_zb0, zzc2_zb1, zzc2_zb2, zzc2_zb3, zzc2_zb4, zzc3_zb0, zzc3_zb1, zzc3_zb2, zzc3_zb3, zzc3_zb4, zzc4_zb0, zzc4_zb1, zzc4_zb2, zzc4_zb3, zzc4_zb4, (eX4_isFull (h0 := h0)), (eX4_leastNumber (h0 := h0)), (eX4_mark (h0 := h0)), ca_1003 (isX4_24 h0), ca_1003 (isX4_25 h0), cg_X4_11 h0, cg_X4_12 h0, cr_3 hst, cr_4 hst, ck_X4 h0]
set_option maxRecDepth 100000 in
theorem eX4_check_l16 {ν : zM} {sh : Nat → Nat} {x1 : Int32} {x0 : Nat} {x3_5 : Int32} {m6 : zCS} (h0 : isX4 sh x0) (hst : stOk ν sh)  (n : Nat) : zf2 (fX4_check_l16 x1 x0) n x3_5 (cmem ν sh m6) = Option.map (cmem ν sh) (zf2 (gX4_check_l16 x1 x0) n x3_5 m6) := by
  refine zf2_m (fun F7 G7 hF7 x3_5 m6 => ?_) n x3_5 m6
  simp only [fX4_check_l16, gX4_check_l16, zgd_t, zmap_ite, zmap_some, zmap_none, zmap_zb0, zmap_zni, zq2_k, zq3_k, zq4_k, zq5_k, zzc1_some, zzc2_some, zzc3_some, zzc4_some, zzc5_some, zzc6_some, zzb1_q, zzb2_q, zzb3_q, zzb4_q, zzb5_q, zzc1_q, zzc2_q, zzc3_q, zzc4_q, zzc5_q, zmap_zb1, zmap_zb2, zmap_zb3, zmap_zb4, zmap_zb5, zmap_zb6, zzc1_ite, zzc2_ite, zzc3_ite, zzc4_ite, zmap_zc1, zmap_zc2, zmap_zc3, zmap_zc4, zzc1_zb0, zzc1_zb1, zzc1_zb2, zzc1_zb3, zzc1_zb4, zzc2_zb0, zzc2_zb1, zzc2_zb2, zzc2_zb3, zzc2_zb4, zzc3_zb0, zzc3_zb1, zzc3_zb2, zzc3_zb3, zzc3_zb4, zzc4_zb0, zzc4_zb1, zzc4_zb2, zzc4_zb3, zzc4_zb4, (eX4_isFull (h0 := h0)), (eX4_leastNumber (h0 := h0)), (eX4_mark (h0 := h0)), ca_1003 (isX4_24 h0), ca_1003 (isX4_25 h0), cg_X4_11 h0, cg_X4_12 h0, cr_3 hst, cr_4 hst, ck_X4 h0, (eX4_check_b58 (h0 := h0) (hst := hst)), hF7]
set_option maxRecDepth 100000 in
theorem eX4_check {ν : zM} {sh : Nat → Nat} {U : zCS} {x0 : Nat} {x1 : Int32} {x2 : Int32} (h0 : isX4 sh x0) (hst : stOk ν sh) : fX4_check (cmem ν sh U) x0 x1 x2 = Option.map (cmem ν sh) (gX4_check U x0 x1 x2) := by simp only [fX4_check, gX4_check, zgd_t, zmap_ite, zmap_some, zmap_none, zmap_zb0, zmap_zni, zq2_k, zq3_k, zq4_k, zq5_k, zzc1_some, zzc2_some, zzc3_some, zzc4_some, zzc5_some, zzc6_some, zzb1_q, zzb2_q, zzb3_q, zzb4_q, zzb5_q, zzc1_q, zzc2_q, zzc3_q, zzc4_q, zzc5_q, zmap_zb1, zmap_zb2, zmap_zb3, zmap_zb4, zmap_zb5, zmap_zb6, zzc1_ite, zzc2_ite, zzc3_ite, zzc4_ite, zmap_zc1, zmap_zc2, zmap_zc3, zmap_zc4, zzc1_zb0, zzc1_zb1, zzc1_zb2, zzc1_zb3, zzc1_zb4, zzc2_zb0, zzc2_zb1, zzc2_zb2, zzc2_zb3, zzc2_zb4, zzc3_zb0, zzc3_zb1, zzc3_zb2, zzc3_zb3, zzc3_zb4, zzc4_zb0, zzc4_zb1, zzc4_zb2, zzc4_zb3, zzc4_zb4, (eX4_isFull (h0 := h0)), (eX4_leastNumber (h0 := h0)), (eX4_mark (h0 := h0)), ca_1003 (isX4_24 h0), ca_1003 (isX4_25 h0), cg_X4_11 h0, cg_X4_12 h0, cr_3 hst, cr_4 hst, ck_X4 h0, (eX4_check_b58 (h0 := h0) (hst := hst)), (eX4_check_l16 (h0 := h0) (hst := hst))]
noncomputable def gX6_add (U : zCS) (x0 : Nat) (x1 : Int32) (x2 : Int32) (x3 : Int32) (x4 : Int32) : Option (zCS) :=
  if (U.1 x0 0) < 8 then (
  zb1 (zas 8 (U.2.1 (x0 + 1)) (U.1 x0 0) x1) fun f7 =>
  zb1 (some (csA U (x0 + 1) f7)) fun U7 =>
  zb1 (zas 8 (U7.2.1 (x0 + 2)) (U7.1 x0 0) x2) fun f13 =>
  zb1 (some (csA U7 (x0 + 2) f13)) fun U13 =>
  zb1 (zas 8 (U13.2.1 (x0 + 3)) (U13.1 x0 0) x3) fun f19 =>
  zb1 (some (csA U13 (x0 + 3) f19)) fun U19 =>
  zb1 (zas 8 (U19.2.1 (x0 + 4)) (U19.1 x0 0) x4) fun f25 =>
  zb1 (some (csA U19 (x0 + 4) f25)) fun U25 =>
  zb1 (some (csI U25 x0 0 ((U25.1 x0 0) + 1))) fun U29 =>
  some U29)
  else (
  some U)
set_option maxRecDepth 100000 in
theorem eX6_add {ν : zM} {sh : Nat → Nat} {U : zCS} {x0 : Nat} {x1 : Int32} {x2 : Int32} {x3 : Int32} {x4 : Int32} (h0 : isX6 sh x0) : fX6_add (cmem ν sh U) x0 x1 x2 x3 x4 = Option.map (cmem ν sh) (gX6_add U x0 x1 x2 x3 x4) := by simp only [fX6_add, gX6_add, zgd_t, zmap_ite, zmap_some, zmap_none, zmap_zb0, zmap_zni, zq2_k, zq3_k, zq4_k, zq5_k, zzb1_q, zzb2_q, zzb3_q, zzb4_q, zzb5_q, zmap_zb1, zmap_zb2, zmap_zb3, zmap_zb4, zmap_zb5, zmap_zb6, zmap_zc1, zmap_zc2, zmap_zc3, zmap_zc4, cg_X6_0 h0, cg_X6_1 h0, cg_X6_2 h0, cg_X6_3 h0, cg_X6_4 h0, cp_X6_0 h0, cs_1008 (isX6_1 h0), cs_1008 (isX6_2 h0), cs_1008 (isX6_3 h0), cs_1008 (isX6_4 h0), ck_X6 h0]
noncomputable def gX4_takeOfLesson (U : zCS) (x0 : Nat) (x1 : Int32) : Option (zCS) :=
  zc1 (if x1 = 15 then (
  zb1 (zag 3 (U.2.1 (x0 + 24)) 0) fun v19 =>
  zb1 (some (csI U (x0 + 16) 0 v19)) fun U21 =>
  some U21)
  else (
  zb1 (zag 3 (U.2.1 (x0 + 24)) 0) fun v7 =>
  zb1 (zag 3 (U.2.1 (x0 + 24)) 1) fun v11 =>
  zb1 (gX3_add U (x0 + 16) v7 v11) fun U14 =>
  some U14) : Option (zCS)) fun (m1 : zCS) =>
  some m1
set_option maxRecDepth 100000 in
theorem eX4_takeOfLesson {ν : zM} {sh : Nat → Nat} {U : zCS} {x0 : Nat} {x1 : Int32} (h0 : isX4 sh x0) : fX4_takeOfLesson (cmem ν sh U) x0 x1 = Option.map (cmem ν sh) (gX4_takeOfLesson U x0 x1) := by simp only [fX4_takeOfLesson, gX4_takeOfLesson, zgd_t, zmap_ite, zmap_some, zmap_none, zmap_zb0, zmap_zni, zq2_k, zq3_k, zq4_k, zq5_k, zzc1_some, zzc2_some, zzc3_some, zzc4_some, zzc5_some, zzc6_some, zzb1_q, zzb2_q, zzb3_q, zzb4_q, zzb5_q, zzc1_q, zzc2_q, zzc3_q, zzc4_q, zzc5_q, zmap_zb1, zmap_zb2, zmap_zb3, zmap_zb4, zmap_zb5, zmap_zb6, zzc1_ite, zzc2_ite, zzc3_ite, zzc4_ite, zmap_zc1, zmap_zc2, zmap_zc3, zmap_zc4, zzc1_zb0, zzc1_zb1, zzc1_zb2, zzc1_zb3, zzc1_zb4, zzc2_zb0, zzc2_zb1, zzc2_zb2, zzc2_zb3, zzc2_zb4, zzc3_zb0, zzc3_zb1, zzc3_zb2, zzc3_zb3, zzc3_zb4, zzc4_zb0, zzc4_zb1, zzc4_zb2, zzc4_zb3, zzc4_zb4, (eX3_add (h0 := (isX4_16 h0))), ca_1003 (isX4_24 h0), cg_X4_11 h0, cg_X4_2 h0, cp_X3_0 (isX4_16 h0), ck_X4 h0]
noncomputable def gX9_addSky_l61 (x3 : Int32) (x0 : Nat) (x1 : Int32) (F29 : Int32 → zCS → Option (zCS)) (x4_27 : Int32) (m28 : zCS) : Option (zCS) :=
  if x3 < x4_27 then (
  some m28)
  else (
  if 100 ≤ x4_27 then (
  some m28)
  else (
  zb1 (zag 100 (m28.2.1 (x0 + 10)) x4_27) fun v35 =>
  zb1 (zas 100 (m28.2.1 (x0 + 10)) x4_27 (v35 ||| x1)) fun f37 =>
  zb1 (some (csA m28 (x0 + 10) f37)) fun U37 =>
  F29 (x4_27 + 1) U37))
noncomputable def gX9_addSky (U : zCS) (x0 : Nat) (x1 : Int32) (x2 : Int32) (x3 : Int32) : Option (zCS) :=
  if (U.1 x0 8) < 4 then (
  zb1 (if x1 = 1 then (
  some 0)
  else (
  some 1) : Option (Int32)) fun (s7 : Int32) =>
  zb1 (zas 4 (U.2.1 (x0 + 7)) (U.1 x0 8) s7) fun f9 =>
  zb1 (some (csA U (x0 + 7) f9)) fun U9 =>
  zb1 (zas 4 (U9.2.1 (x0 + 8)) (U9.1 x0 8) x2) fun f15 =>
  zb1 (some (csA U9 (x0 + 8) f15)) fun U15 =>
  zb1 (zas 4 (U15.2.1 (x0 + 9)) (U15.1 x0 8) x3) fun f21 =>
  zb1 (some (csA U15 (x0 + 9) f21)) fun U21 =>
  zb1 (some (csI U21 x0 8 ((U21.1 x0 8) + 1))) fun U25 =>
  zb1 (zf2 (gX9_addSky_l61 x3 x0 x1) zfu x2 U25 : Option (zCS)) fun (m31 : zCS) =>
  some m31)
  else (
  some U)
set_option maxRecDepth 100000 in
theorem eX9_addSky_l61 {ν : zM} {sh : Nat → Nat} {x3 : Int32} {x0 : Nat} {x1 : Int32} {x4_27 : Int32} {m28 : zCS} (h0 : isX9 sh x0)  (n : Nat) : zf2 (fX9_addSky_l61 x3 x0 x1) n x4_27 (cmem ν sh m28) = Option.map (cmem ν sh) (zf2 (gX9_addSky_l61 x3 x0 x1) n x4_27 m28) := by
  refine zf2_m (fun F29 G29 hF29 x4_27 m28 => ?_) n x4_27 m28
  simp only [fX9_addSky_l61, gX9_addSky_l61, zgd_t, zmap_ite, zmap_some, zmap_none, zmap_zb0, zmap_zni, zq2_k, zq3_k, zq4_k, zq5_k, zzb1_q, zzb2_q, zzb3_q, zzb4_q, zzb5_q, zmap_zb1, zmap_zb2, zmap_zb3, zmap_zb4, zmap_zb5, zmap_zb6, zmap_zc1, zmap_zc2, zmap_zc3, zmap_zc4, ca_1100 (isX9_10 h0), cg_X9_10 h0, cg_X9_11 h0, cg_X9_12 h0, cg_X9_8 h0, cg_X9_9 h0, cp_X9_8 h0, cs_1004 (isX9_7 h0), cs_1004 (isX9_8 h0), cs_1004 (isX9_9 h0), cs_1100 (isX9_10 h0), ck_X9 h0, hF29]
set_option maxRecDepth 100000 in
theorem eX9_addSky {ν : zM} {sh : Nat → Nat} {U : zCS} {x0 : Nat} {x1 : Int32} {x2 : Int32} {x3 : Int32} (h0 : isX9 sh x0) : fX9_addSky (cmem ν sh U) x0 x1 x2 x3 = Option.map (cmem ν sh) (gX9_addSky U x0 x1 x2 x3) := by simp only [fX9_addSky, gX9_addSky, zgd_t, zmap_ite, zmap_some, zmap_none, zmap_zb0, zmap_zni, zq2_k, zq3_k, zq4_k, zq5_k, zzb1_q, zzb2_q, zzb3_q, zzb4_q, zzb5_q, zmap_zb1, zmap_zb2, zmap_zb3, zmap_zb4, zmap_zb5, zmap_zb6, zmap_zc1, zmap_zc2, zmap_zc3, zmap_zc4, ca_1100 (isX9_10 h0), cg_X9_10 h0, cg_X9_11 h0, cg_X9_12 h0, cg_X9_8 h0, cg_X9_9 h0, cp_X9_8 h0, cs_1004 (isX9_7 h0), cs_1004 (isX9_8 h0), cs_1004 (isX9_9 h0), cs_1100 (isX9_10 h0), ck_X9 h0, (eX9_addSky_l61 (h0 := h0))]
noncomputable def gX9_addPerson (U : zCS) (x0 : Nat) (x1 : Int32) (x2 : Int32) (x3 : Int32) : Option (zCS) :=
  if (U.1 x0 4) < 6 then (
  zb1 (zas 6 (U.2.1 (x0 + 4)) (U.1 x0 4) x1) fun f7 =>
  zb1 (some (csA U (x0 + 4) f7)) fun U7 =>
  zb1 (zas 6 (U7.2.1 (x0 + 5)) (U7.1 x0 4) x2) fun f13 =>
  zb1 (some (csA U7 (x0 + 5) f13)) fun U13 =>
  zb1 (zas 6 (U13.2.1 (x0 + 6)) (U13.1 x0 4) x3) fun f19 =>
  zb1 (some (csA U13 (x0 + 6) f19)) fun U19 =>
  zb1 (some (csI U19 x0 4 ((U19.1 x0 4) + 1))) fun U23 =>
  some U23)
  else (
  some U)
set_option maxRecDepth 100000 in
theorem eX9_addPerson {ν : zM} {sh : Nat → Nat} {U : zCS} {x0 : Nat} {x1 : Int32} {x2 : Int32} {x3 : Int32} (h0 : isX9 sh x0) : fX9_addPerson (cmem ν sh U) x0 x1 x2 x3 = Option.map (cmem ν sh) (gX9_addPerson U x0 x1 x2 x3) := by simp only [fX9_addPerson, gX9_addPerson, zgd_t, zmap_ite, zmap_some, zmap_none, zmap_zb0, zmap_zni, zq2_k, zq3_k, zq4_k, zq5_k, zzb1_q, zzb2_q, zzb3_q, zzb4_q, zzb5_q, zmap_zb1, zmap_zb2, zmap_zb3, zmap_zb4, zmap_zb5, zmap_zb6, zmap_zc1, zmap_zc2, zmap_zc3, zmap_zc4, cg_X9_4 h0, cg_X9_5 h0, cg_X9_6 h0, cg_X9_7 h0, cp_X9_4 h0, cs_1006 (isX9_4 h0), cs_1006 (isX9_5 h0), cs_1006 (isX9_6 h0), ck_X9 h0]
noncomputable def gX11_isWord  (x0 : Int32) : Option (Int32) :=
  zb1 (if x0 < 0 then (
  some 0)
  else (
  if 8 ≤ x0 then (
  some 0)
  else (
  some 1)) : Option (Int32)) fun (s1 : Int32) =>
  zb1 (zbz s1) fun v3 =>
  some v3
set_option maxRecDepth 100000 in
theorem eX11_isWord {μ : zM} {x0 : Int32} : fX11_isWord μ x0 = gX11_isWord x0 := by simp only [fX11_isWord, gX11_isWord, zgd_t, zmap_ite, zmap_some, zmap_none, zmap_zb0, zmap_zni, zq2_k, zq3_k, zq4_k, zq5_k, zzb1_q, zzb2_q, zzb3_q, zzb4_q, zzb5_q, zmap_zb1, zmap_zb2, zmap_zb3, zmap_zb4, zmap_zb5, zmap_zb6, zmap_zc1, zmap_zc2, zmap_zc3, zmap_zc4]
noncomputable def gX4_takeOfWord (U : zCS) (x0 : Nat) (x1 : Int32) (x2 : Int32) (x3 : Int32) : Option (zCS) :=
  zc1 (if x1 = 1 then (
  zb1 (zas 8 (U.2.1 ((x0 + 1) + 1)) x2 x3) fun f19 =>
  zb1 (some (csA U ((x0 + 1) + 1) f19)) fun U19 =>
  some U19)
  else (
  if x1 = 2 then (
  zb1 (zas 8 (U.2.1 ((x0 + 1) + 2)) x2 x3) fun f13 =>
  zb1 (some (csA U ((x0 + 1) + 2) f13)) fun U13 =>
  some U13)
  else (
  if x1 = 3 then (
  zb1 (zas 8 (U.2.1 ((x0 + 1) + 3)) x2 x3) fun f7 =>
  zb1 (some (csA U ((x0 + 1) + 3) f7)) fun U7 =>
  some U7)
  else (
  some U))) : Option (zCS)) fun (m1 : zCS) =>
  some m1
set_option maxRecDepth 100000 in
theorem eX4_takeOfWord {ν : zM} {sh : Nat → Nat} {U : zCS} {x0 : Nat} {x1 : Int32} {x2 : Int32} {x3 : Int32} (h0 : isX4 sh x0) : fX4_takeOfWord (cmem ν sh U) x0 x1 x2 x3 = Option.map (cmem ν sh) (gX4_takeOfWord U x0 x1 x2 x3) := by simp only [fX4_takeOfWord, gX4_takeOfWord, zgd_t, zmap_ite, zmap_some, zmap_none, zmap_zb0, zmap_zni, zq2_k, zq3_k, zq4_k, zq5_k, zzc1_some, zzc2_some, zzc3_some, zzc4_some, zzc5_some, zzc6_some, zzb1_q, zzb2_q, zzb3_q, zzb4_q, zzb5_q, zzc1_q, zzc2_q, zzc3_q, zzc4_q, zzc5_q, zmap_zb1, zmap_zb2, zmap_zb3, zmap_zb4, zmap_zb5, zmap_zb6, zzc1_ite, zzc2_ite, zzc3_ite, zzc4_ite, zmap_zc1, zmap_zc2, zmap_zc3, zmap_zc4, zzc1_zb0, zzc1_zb1, zzc1_zb2, zzc1_zb3, zzc1_zb4, zzc2_zb0, zzc2_zb1, zzc2_zb2, zzc2_zb3, zzc2_zb4, zzc3_zb0, zzc3_zb1, zzc3_zb2, zzc3_zb3, zzc3_zb4, zzc4_zb0, zzc4_zb1, zzc4_zb2, zzc4_zb3, zzc4_zb4, cg_X4_0 h0, cg_X9_1 (isX4_1 h0), cg_X9_2 (isX4_1 h0), cg_X9_3 (isX4_1 h0), cs_1008 (isX9_1 (isX4_1 h0)), cs_1008 (isX9_2 (isX4_1 h0)), cs_1008 (isX9_3 (isX4_1 h0)), ck_X4 h0]
noncomputable def gX4_takeOfValley (U : zCS) (x0 : Nat) (x1 : Int32) : Option (zCS) :=
  zc1 (if x1 < 7 then (
  if x1 < 4 then (
  if x1 = 0 then (
  zb1 (zag 3 (U.2.1 (x0 + 24)) 0) fun v23 =>
  zb1 (some (csI U (x0 + 1) 0 v23)) fun U25 =>
  some U25)
  else (
  zb1 (zag 3 (U.2.1 (x0 + 24)) 0) fun v5 =>
  zb1 (gX11_isWord v5) fun v8 =>
  if v8 = 0 then (
  some U)
  else (
  zb1 (zag 3 (U.2.1 (x0 + 24)) 0) fun v11 =>
  zb1 (zag 3 (U.2.1 (x0 + 24)) 1) fun v15 =>
  zb1 (gX4_takeOfWord U x0 x1 v11 v15) fun U18 =>
  some U18)))
  else (
  zb1 (zag 3 (U.2.1 (x0 + 24)) 0) fun v31 =>
  zb1 (zag 3 (U.2.1 (x0 + 24)) 1) fun v35 =>
  zb1 (gX9_addPerson U (x0 + 1) (x1 - 4) v31 v35) fun U38 =>
  some U38))
  else (
  zb1 (if x1 = 7 then (
  some 1)
  else (
  some 2) : Option (Int32)) fun (s41 : Int32) =>
  zb1 (zag 3 (U.2.1 (x0 + 24)) 0) fun v45 =>
  zb1 (zag 3 (U.2.1 (x0 + 24)) 1) fun v49 =>
  zb1 (gX9_addSky U (x0 + 1) s41 v45 v49) fun U52 =>
  some U52) : Option (zCS)) fun (m1 : zCS) =>
  some m1
set_option maxRecDepth 100000 in
theorem eX4_takeOfValley {ν : zM} {sh : Nat → Nat} {U : zCS} {x0 : Nat} {x1 : Int32} (h0 : isX4 sh x0) : fX4_takeOfValley (cmem ν sh U) x0 x1 = Option.map (cmem ν sh) (gX4_takeOfValley U x0 x1) := by simp only [fX4_takeOfValley, gX4_takeOfValley, zgd_t, zmap_ite, zmap_some, zmap_none, zmap_zb0, zmap_zni, zq2_k, zq3_k, zq4_k, zq5_k, zzc1_some, zzc2_some, zzc3_some, zzc4_some, zzc5_some, zzc6_some, zzb1_q, zzb2_q, zzb3_q, zzb4_q, zzb5_q, zzc1_q, zzc2_q, zzc3_q, zzc4_q, zzc5_q, zmap_zb1, zmap_zb2, zmap_zb3, zmap_zb4, zmap_zb5, zmap_zb6, zzc1_ite, zzc2_ite, zzc3_ite, zzc4_ite, zmap_zc1, zmap_zc2, zmap_zc3, zmap_zc4, zzc1_zb0, zzc1_zb1, zzc1_zb2, zzc1_zb3, zzc1_zb4, zzc2_zb0, zzc2_zb1, zzc2_zb2, zzc2_zb3, zzc2_zb4, zzc3_zb0, zzc3_zb1, zzc3_zb2, zzc3_zb3, zzc3_zb4, zzc4_zb0, zzc4_zb1, zzc4_zb2, zzc4_zb3, zzc4_zb4, (eX4_takeOfWord (h0 := h0)), (eX9_addPerson (h0 := (isX4_1 h0))), (eX9_addSky (h0 := (isX4_1 h0))), ca_1003 (isX4_24 h0), cg_X4_0 h0, cg_X4_11 h0, cp_X9_0 (isX4_1 h0), eX11_isWord, ck_X4 h0]
noncomputable def gX4_take (U : zCS) (x0 : Nat) (x1 : Int32) : Option (zCS) :=
  zc1 (if x1 < 16 then (
  if x1 < 14 then (
  if x1 < 9 then (
  zb1 (gX4_takeOfValley U x0 x1) fun U4 =>
  some U4)
  else (
  zb1 (zag 3 (U.2.1 (x0 + 24)) 0) fun v9 =>
  zb1 (if x1 = 13 then (
  some (-1))
  else (
  zb1 (zag 3 (U.2.1 (x0 + 24)) 1) fun v17 =>
  some v17) : Option (Int32)) fun (s11 : Int32) =>
  zb1 (gX2_add U (x0 + 12) (x1 - 9) v9 s11) fun U14 =>
  some U14))
  else (
  zb1 (gX4_takeOfLesson U x0 x1) fun U20 =>
  some U20))
  else (
  zb1 (zag 3 (U.2.1 (x0 + 24)) 0) fun v25 =>
  zb1 (zag 3 (U.2.1 (x0 + 24)) 1) fun v29 =>
  zb1 (zag 3 (U.2.1 (x0 + 24)) 2) fun v33 =>
  zb1 (gX6_add U (x0 + 19) (x1 - 16) v25 v29 v33) fun U36 =>
  some U36) : Option (zCS)) fun (m1 : zCS) =>
  some m1
set_option maxRecDepth 100000 in
theorem eX4_take {ν : zM} {sh : Nat → Nat} {U : zCS} {x0 : Nat} {x1 : Int32} (h0 : isX4 sh x0) : fX4_take (cmem ν sh U) x0 x1 = Option.map (cmem ν sh) (gX4_take U x0 x1) := by simp only [fX4_take, gX4_take, zgd_t, zmap_ite, zmap_some, zmap_none, zmap_zb0, zmap_zni, zq2_k, zq3_k, zq4_k, zq5_k, zzc1_some, zzc2_some, zzc3_some, zzc4_some, zzc5_some, zzc6_some, zzb1_q, zzb2_q, zzb3_q, zzb4_q, zzb5_q, zzc1_q, zzc2_q, zzc3_q, zzc4_q, zzc5_q, zmap_zb1, zmap_zb2, zmap_zb3, zmap_zb4, zmap_zb5, zmap_zb6, zzc1_ite, zzc2_ite, zzc3_ite, zzc4_ite, zmap_zc1, zmap_zc2, zmap_zc3, zmap_zc4, zzc1_zb0, zzc1_zb1, zzc1_zb2, zzc1_zb3, zzc1_zb4, zzc2_zb0, zzc2_zb1, zzc2_zb2, zzc2_zb3, zzc2_zb4, zzc3_zb0, zzc3_zb1, zzc3_zb2, zzc3_zb3, zzc3_zb4, zzc4_zb0, zzc4_zb1, zzc4_zb2, zzc4_zb3, zzc4_zb4, (eX2_add (h0 := (isX4_12 h0))), (eX4_takeOfLesson (h0 := h0)), (eX4_takeOfValley (h0 := h0)), (eX6_add (h0 := (isX4_19 h0))), ca_1003 (isX4_24 h0), cg_X4_1 h0, cg_X4_11 h0, cg_X4_3 h0, ck_X4 h0]
noncomputable def gX9_holdsItsPeople_l2 (U : zCS) (x0 : Nat) (F2 : Int32 → Option (Int32)) (x1_1 : Int32) : Option (Int32) :=
  if (U.1 x0 4) ≤ x1_1 then (
  some 1)
  else (
  zb1 (zag 6 (U.2.1 (x0 + 5)) x1_1) fun v8 =>
  zb1 (gX9_hasPlace U x0 v8) fun v11 =>
  if v11 = 0 then (
  some 0)
  else (
  F2 (x1_1 + 1)))
noncomputable def gX9_holdsItsPeople (U : zCS) (x0 : Nat) : Option (Int32) :=
  zf1 (gX9_holdsItsPeople_l2 U x0) zfu 0
set_option maxRecDepth 100000 in
theorem eX9_holdsItsPeople_l2 {ν : zM} {sh : Nat → Nat} {U : zCS} {x0 : Nat} {x1_1 : Int32} (h0 : isX9 sh x0)  (n : Nat) : zf1 (fX9_holdsItsPeople_l2 (cmem ν sh U) x0) n x1_1 = zf1 (gX9_holdsItsPeople_l2 U x0) n x1_1 := by
  refine zf1_c (fun F2 G2 hF2 x1_1 => ?_) n x1_1
  simp only [fX9_holdsItsPeople_l2, gX9_holdsItsPeople_l2, zgd_t, zmap_ite, zmap_some, zmap_none, zmap_zb0, zmap_zni, zq2_k, zq3_k, zq4_k, zq5_k, zzb1_q, zzb2_q, zzb3_q, zzb4_q, zzb5_q, zmap_zb1, zmap_zb2, zmap_zb3, zmap_zb4, zmap_zb5, zmap_zb6, zmap_zc1, zmap_zc2, zmap_zc3, zmap_zc4, (eX9_hasPlace (h0 := h0)), ca_1006 (isX9_5 h0), cg_X9_4 h0, cg_X9_6 h0, ck_X9 h0, hF2]
set_option maxRecDepth 100000 in
theorem eX9_holdsItsPeople {ν : zM} {sh : Nat → Nat} {U : zCS} {x0 : Nat} (h0 : isX9 sh x0) : fX9_holdsItsPeople (cmem ν sh U) x0 = gX9_holdsItsPeople U x0 := by simp only [fX9_holdsItsPeople, gX9_holdsItsPeople, zgd_t, zmap_ite, zmap_some, zmap_none, zmap_zb0, zmap_zni, zq2_k, zq3_k, zq4_k, zq5_k, zzb1_q, zzb2_q, zzb3_q, zzb4_q, zzb5_q, zmap_zb1, zmap_zb2, zmap_zb3, zmap_zb4, zmap_zb5, zmap_zb6, zmap_zc1, zmap_zc2, zmap_zc3, zmap_zc4, (eX9_hasPlace (h0 := h0)), ca_1006 (isX9_5 h0), cg_X9_4 h0, cg_X9_6 h0, ck_X9 h0, (eX9_holdsItsPeople_l2 (h0 := h0))]
noncomputable def gX5_wordsJudged_l5 (x2 : Int32) (U : zCS) (x0 : Nat) (x1 : Int32) (F3 : Int32 → Int32 → Option (Int32)) (x3_1 : Int32) (x4_2 : Int32) : Option (Int32) :=
  if 8 ≤ x4_2 then (
  some x3_1)
  else (
  if 10 ≤ x2 then (
  some x3_1)
  else (
  zb1 (zag 8 (U.2.1 (x0 + 1)) x4_2) fun v9 =>
  zb1 (if v9 = x1 then (
  zb1 (zag 8 (U.2.1 (x0 + 2)) x4_2) fun v15 =>
  if v15 = x2 then (
  some (x3_1 ||| (1 <<< (x4_2 &&& 31))))
  else (
  some x3_1))
  else (
  some x3_1) : Option (Int32)) fun (x3_11 : Int32) =>
  F3 x3_11 (x4_2 + 1)))
noncomputable def gX5_wordsJudged (U : zCS) (x0 : Nat) (x1 : Int32) (x2 : Int32) : Option (Int32) :=
  zb1 (zf2 (gX5_wordsJudged_l5 x2 U x0 x1) zfu 0 0 : Option (Int32)) fun (x3_5 : Int32) =>
  some x3_5
set_option maxRecDepth 100000 in
theorem eX5_wordsJudged_l5 {ν : zM} {sh : Nat → Nat} {x2 : Int32} {U : zCS} {x0 : Nat} {x1 : Int32} {x3_1 : Int32} {x4_2 : Int32} (h0 : isX9 sh x0)  (n : Nat) : zf2 (fX5_wordsJudged_l5 x2 (cmem ν sh U) x0 x1) n x3_1 x4_2 = zf2 (gX5_wordsJudged_l5 x2 U x0 x1) n x3_1 x4_2 := by
  refine zf2_c (fun F3 G3 hF3 x3_1 x4_2 => ?_) n x3_1 x4_2
  simp only [fX5_wordsJudged_l5, gX5_wordsJudged_l5, zgd_t, zmap_ite, zmap_some, zmap_none, zmap_zb0, zmap_zni, zq2_k, zq3_k, zq4_k, zq5_k, zzb1_q, zzb2_q, zzb3_q, zzb4_q, zzb5_q, zmap_zb1, zmap_zb2, zmap_zb3, zmap_zb4, zmap_zb5, zmap_zb6, zmap_zc1, zmap_zc2, zmap_zc3, zmap_zc4, ca_1008 (isX9_1 h0), ca_1008 (isX9_2 h0), cg_X9_1 h0, cg_X9_2 h0, hF3]
set_option maxRecDepth 100000 in
theorem eX5_wordsJudged {ν : zM} {sh : Nat → Nat} {U : zCS} {x0 : Nat} {x1 : Int32} {x2 : Int32} (h0 : isX9 sh x0) : fX5_wordsJudged (cmem ν sh U) x0 x1 x2 = gX5_wordsJudged U x0 x1 x2 := by simp only [fX5_wordsJudged, gX5_wordsJudged, zgd_t, zmap_ite, zmap_some, zmap_none, zmap_zb0, zmap_zni, zq2_k, zq3_k, zq4_k, zq5_k, zzb1_q, zzb2_q, zzb3_q, zzb4_q, zzb5_q, zmap_zb1, zmap_zb2, zmap_zb3, zmap_zb4, zmap_zb5, zmap_zb6, zmap_zc1, zmap_zc2, zmap_zc3, zmap_zc4, ca_1008 (isX9_1 h0), ca_1008 (isX9_2 h0), cg_X9_1 h0, cg_X9_2 h0, (eX5_wordsJudged_l5 (h0 := h0))]
noncomputable def gX5_wordsHeardAs_l17 (v3 : Int32) (x4 : Int32) (U : zCS) (x1 : Nat) (x2 : Int32) (x0 : Nat) (x3 : Int32) (F7 : Int32 → Int32 → Option (Int32)) (x5_5 : Int32) (x7_6 : Int32) : Option (Int32) :=
  if 2 < x7_6 then (
  some x5_5)
  else (
  if (v3 - x4) < 0 then (
  some x5_5)
  else (
  zb1 (zag 8 (U.2.1 (x1 + 2)) x2) fun v13 =>
  zb1 (gX9_way U x0 x3 v13 x7_6) fun v16 =>
  zb1 (if ((v3 - x4) - v16) < 0 then (
  some x5_5)
  else (
  zb1 (gX9_isMute U x0 x7_6 x4) fun v20 =>
  if v20 = 0 then (
  zb1 (gX9_judge U x0 x4) fun v22 =>
  if x7_6 = v22 then (
  zb1 (zag 8 (U.2.1 (x1 + 4)) x2) fun v29 =>
  zb1 (gX5_wordsJudged U x0 v29 ((v3 - x4) - v16)) fun v32 =>
  some (x5_5 ||| v32))
  else (
  if ((v3 - x4) - v16) = 0 then (
  zb1 (zag 8 (U.2.1 (x1 + 4)) x2) fun v25 =>
  some (x5_5 ||| (1 <<< (v25 &&& 31))))
  else (
  some x5_5)))
  else (
  some x5_5)) : Option (Int32)) fun (x5_17 : Int32) =>
  F7 x5_17 (x7_6 + 1)))
noncomputable def gX5_wordsHeardAs (U : zCS) (x0 : Nat) (x1 : Nat) (x2 : Int32) (x3 : Int32) (x4 : Int32) : Option (Int32) :=
  zb1 (zag 8 (U.2.1 (x1 + 3)) x2) fun v3 =>
  zb1 (zf2 (gX5_wordsHeardAs_l17 v3 x4 U x1 x2 x0 x3) zfu 0 0 : Option (Int32)) fun (x5_9 : Int32) =>
  some x5_9
set_option maxRecDepth 100000 in
theorem eX5_wordsHeardAs_l17 {ν : zM} {sh : Nat → Nat} {v3 : Int32} {x4 : Int32} {U : zCS} {x1 : Nat} {x2 : Int32} {x0 : Nat} {x3 : Int32} {x5_5 : Int32} {x7_6 : Int32} (h0 : isX9 sh x0) (h1 : isX6 sh x1)  (n : Nat) : zf2 (fX5_wordsHeardAs_l17 v3 x4 (cmem ν sh U) x1 x2 x0 x3) n x5_5 x7_6 = zf2 (gX5_wordsHeardAs_l17 v3 x4 U x1 x2 x0 x3) n x5_5 x7_6 := by
  refine zf2_c (fun F7 G7 hF7 x5_5 x7_6 => ?_) n x5_5 x7_6
  simp only [fX5_wordsHeardAs_l17, gX5_wordsHeardAs_l17, zgd_t, zmap_ite, zmap_some, zmap_none, zmap_zb0, zmap_zni, zq2_k, zq3_k, zq4_k, zq5_k, zzb1_q, zzb2_q, zzb3_q, zzb4_q, zzb5_q, zmap_zb1, zmap_zb2, zmap_zb3, zmap_zb4, zmap_zb5, zmap_zb6, zmap_zc1, zmap_zc2, zmap_zc3, zmap_zc4, (eX5_wordsJudged (h0 := h0)), (eX9_isMute (h0 := h0)), (eX9_judge (h0 := h0)), (eX9_way (h0 := h0)), ca_1008 (isX6_2 h1), ca_1008 (isX6_3 h1), ca_1008 (isX6_4 h1), cg_X6_2 h1, cg_X6_3 h1, cg_X6_4 h1, hF7]
set_option maxRecDepth 100000 in
theorem eX5_wordsHeardAs {ν : zM} {sh : Nat → Nat} {U : zCS} {x0 : Nat} {x1 : Nat} {x2 : Int32} {x3 : Int32} {x4 : Int32} (h0 : isX9 sh x0) (h1 : isX6 sh x1) : fX5_wordsHeardAs (cmem ν sh U) x0 x1 x2 x3 x4 = gX5_wordsHeardAs U x0 x1 x2 x3 x4 := by simp only [fX5_wordsHeardAs, gX5_wordsHeardAs, zgd_t, zmap_ite, zmap_some, zmap_none, zmap_zb0, zmap_zni, zq2_k, zq3_k, zq4_k, zq5_k, zzb1_q, zzb2_q, zzb3_q, zzb4_q, zzb5_q, zmap_zb1, zmap_zb2, zmap_zb3, zmap_zb4, zmap_zb5, zmap_zb6, zmap_zc1, zmap_zc2, zmap_zc3, zmap_zc4, (eX5_wordsJudged (h0 := h0)), (eX9_isMute (h0 := h0)), (eX9_judge (h0 := h0)), (eX9_way (h0 := h0)), ca_1008 (isX6_2 h1), ca_1008 (isX6_3 h1), ca_1008 (isX6_4 h1), cg_X6_2 h1, cg_X6_3 h1, cg_X6_4 h1, (eX5_wordsHeardAs_l17 (h0 := h0) (h1 := h1))]
noncomputable def gX5_wordsMaybe_l8 (U : zCS) (x1 : Nat) (x0 : Nat) (x2 : Int32) (x3 : Int32) (F3 : Int32 → Int32 → Option (Int32)) (x4_1 : Int32) (x5_2 : Int32) : Option (Int32) :=
  if (U.1 x1 0) ≤ x5_2 then (
  some x4_1)
  else (
  if x4_1 = 0 then (
  some x4_1)
  else (
  zb1 (gX5_wordsHeardAs U x0 x1 x5_2 x2 x3) fun v10 =>
  zb1 (zag 8 (U.2.1 (x1 + 1)) x5_2) fun v13 =>
  zb1 (if v13 = 1 then (
  some v10)
  else (
  some (v10 ^^^ (-1))) : Option (Int32)) fun (s15 : Int32) =>
  F3 (x4_1 &&& s15) (x5_2 + 1)))
noncomputable def gX5_wordsMaybe (U : zCS) (x0 : Nat) (x1 : Nat) (x2 : Int32) (x3 : Int32) : Option (Int32) :=
  zb1 (zf2 (gX5_wordsMaybe_l8 U x1 x0 x2 x3) zfu 255 0 : Option (Int32)) fun (x4_5 : Int32) =>
  some x4_5
set_option maxRecDepth 100000 in
theorem eX5_wordsMaybe_l8 {ν : zM} {sh : Nat → Nat} {U : zCS} {x1 : Nat} {x0 : Nat} {x2 : Int32} {x3 : Int32} {x4_1 : Int32} {x5_2 : Int32} (h0 : isX9 sh x0) (h1 : isX6 sh x1)  (n : Nat) : zf2 (fX5_wordsMaybe_l8 (cmem ν sh U) x1 x0 x2 x3) n x4_1 x5_2 = zf2 (gX5_wordsMaybe_l8 U x1 x0 x2 x3) n x4_1 x5_2 := by
  refine zf2_c (fun F3 G3 hF3 x4_1 x5_2 => ?_) n x4_1 x5_2
  simp only [fX5_wordsMaybe_l8, gX5_wordsMaybe_l8, zgd_t, zmap_ite, zmap_some, zmap_none, zmap_zb0, zmap_zni, zq2_k, zq3_k, zq4_k, zq5_k, zzb1_q, zzb2_q, zzb3_q, zzb4_q, zzb5_q, zmap_zb1, zmap_zb2, zmap_zb3, zmap_zb4, zmap_zb5, zmap_zb6, zmap_zc1, zmap_zc2, zmap_zc3, zmap_zc4, (eX5_wordsHeardAs (h0 := h0) (h1 := h1)), ca_1008 (isX6_1 h1), cg_X6_0 h1, cg_X6_1 h1, hF3]
set_option maxRecDepth 100000 in
theorem eX5_wordsMaybe {ν : zM} {sh : Nat → Nat} {U : zCS} {x0 : Nat} {x1 : Nat} {x2 : Int32} {x3 : Int32} (h0 : isX9 sh x0) (h1 : isX6 sh x1) : fX5_wordsMaybe (cmem ν sh U) x0 x1 x2 x3 = gX5_wordsMaybe U x0 x1 x2 x3 := by simp only [fX5_wordsMaybe, gX5_wordsMaybe, zgd_t, zmap_ite, zmap_some, zmap_none, zmap_zb0, zmap_zni, zq2_k, zq3_k, zq4_k, zq5_k, zzb1_q, zzb2_q, zzb3_q, zzb4_q, zzb5_q, zmap_zb1, zmap_zb2, zmap_zb3, zmap_zb4, zmap_zb5, zmap_zb6, zmap_zc1, zmap_zc2, zmap_zc3, zmap_zc4, (eX5_wordsHeardAs (h0 := h0) (h1 := h1)), ca_1008 (isX6_1 h1), cg_X6_0 h1, cg_X6_1 h1, (eX5_wordsMaybe_l8 (h0 := h0) (h1 := h1))]
noncomputable def gX5_howManyAt_l5 (U : zCS) (x0 : Nat) (x1 : Nat) (x2 : Int32) (F3 : Int32 → Int32 → Option (Int32)) (x3_1 : Int32) (x4_2 : Int32) : Option (Int32) :=
  if 100 ≤ x4_2 then (
  some x3_1)
  else (
  zb1 (gX5_wordsMaybe U x0 x1 x2 x4_2) fun v8 =>
  zb1 (gJ6_bitCount_0f7a4 v8) fun v10 =>
  F3 (x3_1 + v10) (x4_2 + 1))
noncomputable def gX5_howManyAt (U : zCS) (x0 : Nat) (x1 : Nat) (x2 : Int32) : Option (Int32) :=
  zb1 (zf2 (gX5_howManyAt_l5 U x0 x1 x2) zfu 0 0 : Option (Int32)) fun (x3_5 : Int32) =>
  some x3_5
set_option maxRecDepth 100000 in
theorem eX5_howManyAt_l5 {ν : zM} {sh : Nat → Nat} {U : zCS} {x0 : Nat} {x1 : Nat} {x2 : Int32} {x3_1 : Int32} {x4_2 : Int32} (h0 : isX9 sh x0) (h1 : isX6 sh x1)  (n : Nat) : zf2 (fX5_howManyAt_l5 (cmem ν sh U) x0 x1 x2) n x3_1 x4_2 = zf2 (gX5_howManyAt_l5 U x0 x1 x2) n x3_1 x4_2 := by
  refine zf2_c (fun F3 G3 hF3 x3_1 x4_2 => ?_) n x3_1 x4_2
  simp only [fX5_howManyAt_l5, gX5_howManyAt_l5, zgd_t, zmap_ite, zmap_some, zmap_none, zmap_zb0, zmap_zni, zq2_k, zq3_k, zq4_k, zq5_k, zzb1_q, zzb2_q, zzb3_q, zzb4_q, zzb5_q, zmap_zb1, zmap_zb2, zmap_zb3, zmap_zb4, zmap_zb5, zmap_zb6, zmap_zc1, zmap_zc2, zmap_zc3, zmap_zc4, (eX5_wordsMaybe (h0 := h0) (h1 := h1)), eJ6_bitCount_0f7a4, hF3]
set_option maxRecDepth 100000 in
theorem eX5_howManyAt {ν : zM} {sh : Nat → Nat} {U : zCS} {x0 : Nat} {x1 : Nat} {x2 : Int32} (h0 : isX9 sh x0) (h1 : isX6 sh x1) : fX5_howManyAt (cmem ν sh U) x0 x1 x2 = gX5_howManyAt U x0 x1 x2 := by simp only [fX5_howManyAt, gX5_howManyAt, zgd_t, zmap_ite, zmap_some, zmap_none, zmap_zb0, zmap_zni, zq2_k, zq3_k, zq4_k, zq5_k, zzb1_q, zzb2_q, zzb3_q, zzb4_q, zzb5_q, zmap_zb1, zmap_zb2, zmap_zb3, zmap_zb4, zmap_zb5, zmap_zb6, zmap_zc1, zmap_zc2, zmap_zc3, zmap_zc4, (eX5_wordsMaybe (h0 := h0) (h1 := h1)), eJ6_bitCount_0f7a4, (eX5_howManyAt_l5 (h0 := h0) (h1 := h1))]
noncomputable def gX5_howMany_l4 (U : zCS) (x0 : Nat) (x1 : Nat) (F3 : Int32 → Int32 → Option (Int32)) (x2_1 : Int32) (x3_2 : Int32) : Option (Int32) :=
  if (U.1 x0 0) < x3_2 then (
  some x2_1)
  else (
  zb1 (gX5_howManyAt U x0 x1 x3_2) fun v10 =>
  F3 (x2_1 + v10) (x3_2 + 1))
noncomputable def gX5_howMany (U : zCS) (x0 : Nat) (x1 : Nat) : Option (Int32) :=
  zb1 (zf2 (gX5_howMany_l4 U x0 x1) zfu 0 0 : Option (Int32)) fun (x2_5 : Int32) =>
  some x2_5
set_option maxRecDepth 100000 in
theorem eX5_howMany_l4 {ν : zM} {sh : Nat → Nat} {U : zCS} {x0 : Nat} {x1 : Nat} {x2_1 : Int32} {x3_2 : Int32} (h0 : isX9 sh x0) (h1 : isX6 sh x1)  (n : Nat) : zf2 (fX5_howMany_l4 (cmem ν sh U) x0 x1) n x2_1 x3_2 = zf2 (gX5_howMany_l4 U x0 x1) n x2_1 x3_2 := by
  refine zf2_c (fun F3 G3 hF3 x2_1 x3_2 => ?_) n x2_1 x3_2
  simp only [fX5_howMany_l4, gX5_howMany_l4, zgd_t, zmap_ite, zmap_some, zmap_none, zmap_zb0, zmap_zni, zq2_k, zq3_k, zq4_k, zq5_k, zzb1_q, zzb2_q, zzb3_q, zzb4_q, zzb5_q, zmap_zb1, zmap_zb2, zmap_zb3, zmap_zb4, zmap_zb5, zmap_zb6, zmap_zc1, zmap_zc2, zmap_zc3, zmap_zc4, (eX5_howManyAt (h0 := h0) (h1 := h1)), cg_X9_0 h0, hF3]
set_option maxRecDepth 100000 in
theorem eX5_howMany {ν : zM} {sh : Nat → Nat} {U : zCS} {x0 : Nat} {x1 : Nat} (h0 : isX9 sh x0) (h1 : isX6 sh x1) : fX5_howMany (cmem ν sh U) x0 x1 = gX5_howMany U x0 x1 := by simp only [fX5_howMany, gX5_howMany, zgd_t, zmap_ite, zmap_some, zmap_none, zmap_zb0, zmap_zni, zq2_k, zq3_k, zq4_k, zq5_k, zzb1_q, zzb2_q, zzb3_q, zzb4_q, zzb5_q, zmap_zb1, zmap_zb2, zmap_zb3, zmap_zb4, zmap_zb5, zmap_zb6, zmap_zc1, zmap_zc2, zmap_zc3, zmap_zc4, (eX5_howManyAt (h0 := h0) (h1 := h1)), cg_X9_0 h0, (eX5_howMany_l4 (h0 := h0) (h1 := h1))]
noncomputable def gX5_wordNumbered_l4 (x0 : Int32) (F3 : Int32 → Int32 → Option (Int32)) (x2_1 : Int32) (x3_2 : Int32) : Option (Int32) :=
  if 8 ≤ x3_2 then (
  some (-1))
  else (
  if ((x0 >>> (x3_2 &&& 31)) &&& 1) = 0 then (
  F3 x2_1 (x3_2 + 1))
  else (
  if x2_1 = 0 then (
  some x3_2)
  else (
  F3 (x2_1 + (-1)) (x3_2 + 1))))
noncomputable def gX5_wordNumbered  (x0 : Int32) (x1 : Int32) : Option (Int32) :=
  zf2 (gX5_wordNumbered_l4 x0) zfu x1 0
set_option maxRecDepth 100000 in
theorem eX5_wordNumbered_l4 {x0 : Int32} {x2_1 : Int32} {x3_2 : Int32}   (n : Nat) : zf2 (fX5_wordNumbered_l4 x0) n x2_1 x3_2 = zf2 (gX5_wordNumbered_l4 x0) n x2_1 x3_2 := by
  refine zf2_c (fun F3 G3 hF3 x2_1 x3_2 => ?_) n x2_1 x3_2
  simp only [fX5_wordNumbered_l4, gX5_wordNumbered_l4, zgd_t, zmap_ite, zmap_some, zmap_none, zmap_zb0, zmap_zni, zq2_k, zq3_k, zq4_k, zq5_k, zzb1_q, zzb2_q, zzb3_q, zzb4_q, zzb5_q, zmap_zb1, zmap_zb2, zmap_zb3, zmap_zb4, zmap_zb5, zmap_zb6, zmap_zc1, zmap_zc2, zmap_zc3, zmap_zc4, hF3]
set_option maxRecDepth 100000 in
theorem eX5_wordNumbered {μ : zM} {x0 : Int32} {x1 : Int32} : fX5_wordNumbered μ x0 x1 = gX5_wordNumbered x0 x1 := by simp only [fX5_wordNumbered, gX5_wordNumbered, zgd_t, zmap_ite, zmap_some, zmap_none, zmap_zb0, zmap_zni, zq2_k, zq3_k, zq4_k, zq5_k, zzb1_q, zzb2_q, zzb3_q, zzb4_q, zzb5_q, zmap_zb1, zmap_zb2, zmap_zb3, zmap_zb4, zmap_zb5, zmap_zb6, zmap_zc1, zmap_zc2, zmap_zc3, zmap_zc4, (eX5_wordNumbered_l4)]
noncomputable def gX5_numbered_l21 (F3 : Int32 → Int32 → Option (Int32)) (x4_2 : Int32) (U : zCS) (x0 : Nat) (x1 : Nat) (F9 : Int32 → Int32 → Option (Int32)) (x3_7 : Int32) (x5_8 : Int32) : Option (Int32) :=
  if 100 ≤ x5_8 then (
  F3 x3_7 (x4_2 + 1))
  else (
  zb1 (gX5_wordsMaybe U x0 x1 x4_2 x5_8) fun v12 =>
  zb1 (gJ6_bitCount_0f7a4 v12) fun v14 =>
  if v14 ≤ x3_7 then (
  F9 (x3_7 - v14) (x5_8 + 1))
  else (
  zb1 (gX5_wordNumbered v12 x3_7) fun v16 =>
  some (((1000 * x4_2) + (10 * x5_8)) + v16)))
noncomputable def gX5_numbered_l5 (U : zCS) (x0 : Nat) (x1 : Nat) (F3 : Int32 → Int32 → Option (Int32)) (x3_1 : Int32) (x4_2 : Int32) : Option (Int32) :=
  if (U.1 x0 0) < x4_2 then (
  some (-1))
  else (
  if x3_1 < 0 then (
  some (-1))
  else (
  zf2 (gX5_numbered_l21 F3 x4_2 U x0 x1) zfu x3_1 0))
noncomputable def gX5_numbered (U : zCS) (x0 : Nat) (x1 : Nat) (x2 : Int32) : Option (Int32) :=
  zf2 (gX5_numbered_l5 U x0 x1) zfu x2 0
set_option maxRecDepth 100000 in
theorem eX5_numbered_l21 {ν : zM} {sh : Nat → Nat} {x4_2 : Int32} {U : zCS} {x0 : Nat} {x1 : Nat} {x3_7 : Int32} {x5_8 : Int32} (h0 : isX9 sh x0) (h1 : isX6 sh x1) {F3 : Int32 → Int32 → Option (Int32)} {G3 : Int32 → Int32 → Option (Int32)} (hF3 : ∀ (x3_1 : Int32) (x4_2 : Int32), F3 x3_1 x4_2 = G3 x3_1 x4_2) (n : Nat) : zf2 (fX5_numbered_l21 F3 x4_2 (cmem ν sh U) x0 x1) n x3_7 x5_8 = zf2 (gX5_numbered_l21 G3 x4_2 U x0 x1) n x3_7 x5_8 := by
  refine zf2_c (fun F9 G9 hF9 x3_7 x5_8 => ?_) n x3_7 x5_8
  simp only [fX5_numbered_l21, gX5_numbered_l21, zgd_t, zmap_ite, zmap_some, zmap_none, zmap_zb0, zmap_zni, zq2_k, zq3_k, zq4_k, zq5_k, zzb1_q, zzb2_q, zzb3_q, zzb4_q, zzb5_q, zmap_zb1, zmap_zb2, zmap_zb3, zmap_zb4, zmap_zb5, zmap_zb6, zmap_zc1, zmap_zc2, zmap_zc3, zmap_zc4, (eX5_wordsMaybe (h0 := h0) (h1 := h1)), cg_X9_0 h0, eJ6_bitCount_0f7a4, eX5_wordNumbered, hF3, hF9]
set_option maxRecDepth 100000 in
theorem eX5_numbered_l5 {ν : zM} {sh : Nat → Nat} {U : zCS} {x0 : Nat} {x1 : Nat} {x3_1 : Int32} {x4_2 : Int32} (h0 : isX9 sh x0) (h1 : isX6 sh x1)  (n : Nat) : zf2 (fX5_numbered_l5 (cmem ν sh U) x0 x1) n x3_1 x4_2 = zf2 (gX5_numbered_l5 U x0 x1) n x3_1 x4_2 := by
  refine zf2_c (fun F3 G3 hF3 x3_1 x4_2 => ?_) n x3_1 x4_2
  simp only [fX5_numbered_l5, gX5_numbered_l5, zgd_t, zmap_ite, zmap_some, zmap_none, zmap_zb0, zmap_zni, zq2_k, zq3_k, zq4_k, zq5_k, zzb1_q, zzb2_q, zzb3_q, zzb4_q, zzb5_q, zmap_zb1, zmap_zb2, zmap_zb3, zmap_zb4, zmap_zb5, zmap_zb6, zmap_zc1, zmap_zc2, zmap_zc3, zmap_zc4, (eX5_wordsMaybe (h0 := h0) (h1 := h1)), cg_X9_0 h0, eJ6_bitCount_0f7a4, eX5_wordNumbered, (eX5_numbered_l21 (h0 := h0) (h1 := h1) (hF3 := hF3)), hF3]
set_option maxRecDepth 100000 in
theorem eX5_numbered {ν : zM} {sh : Nat → Nat} {U : zCS} {x0 : Nat} {x1 : Nat} {x2 : Int32} (h0 : isX9 sh x0) (h1 : isX6 sh x1) : fX5_numbered (cmem ν sh U) x0 x1 x2 = gX5_numbered U x0 x1 x2 := by simp only [fX5_numbered, gX5_numbered, zgd_t, zmap_ite, zmap_some, zmap_none, zmap_zb0, zmap_zni, zq2_k, zq3_k, zq4_k, zq5_k, zzb1_q, zzb2_q, zzb3_q, zzb4_q, zzb5_q, zmap_zb1, zmap_zb2, zmap_zb3, zmap_zb4, zmap_zb5, zmap_zb6, zmap_zc1, zmap_zc2, zmap_zc3, zmap_zc4, (eX5_wordsMaybe (h0 := h0) (h1 := h1)), cg_X9_0 h0, eJ6_bitCount_0f7a4, eX5_wordNumbered, (eX5_numbered_l5 (h0 := h0) (h1 := h1))]
noncomputable def gX5_onlyPlace_l4 (U : zCS) (x0 : Nat) (x1 : Nat) (F3 : Int32 → Int32 → Option (Int32)) (x2_1 : Int32) (x3_2 : Int32) : Option (Int32) :=
  if (U.1 x0 0) < x3_2 then (
  some x2_1)
  else (
  zb1 (gX5_howManyAt U x0 x1 x3_2) fun v8 =>
  if v8 = 0 then (
  F3 x2_1 (x3_2 + 1))
  else (
  if x2_1 = (-1) then (
  F3 x3_2 (x3_2 + 1))
  else (
  some (-1))))
noncomputable def gX5_onlyPlace (U : zCS) (x0 : Nat) (x1 : Nat) : Option (Int32) :=
  zf2 (gX5_onlyPlace_l4 U x0 x1) zfu (-1) 0
set_option maxRecDepth 100000 in
theorem eX5_onlyPlace_l4 {ν : zM} {sh : Nat → Nat} {U : zCS} {x0 : Nat} {x1 : Nat} {x2_1 : Int32} {x3_2 : Int32} (h0 : isX9 sh x0) (h1 : isX6 sh x1)  (n : Nat) : zf2 (fX5_onlyPlace_l4 (cmem ν sh U) x0 x1) n x2_1 x3_2 = zf2 (gX5_onlyPlace_l4 U x0 x1) n x2_1 x3_2 := by
  refine zf2_c (fun F3 G3 hF3 x2_1 x3_2 => ?_) n x2_1 x3_2
  simp only [fX5_onlyPlace_l4, gX5_onlyPlace_l4, zgd_t, zmap_ite, zmap_some, zmap_none, zmap_zb0, zmap_zni, zq2_k, zq3_k, zq4_k, zq5_k, zzb1_q, zzb2_q, zzb3_q, zzb4_q, zzb5_q, zmap_zb1, zmap_zb2, zmap_zb3, zmap_zb4, zmap_zb5, zmap_zb6, zmap_zc1, zmap_zc2, zmap_zc3, zmap_zc4, (eX5_howManyAt (h0 := h0) (h1 := h1)), cg_X9_0 h0, hF3]
set_option maxRecDepth 100000 in
theorem eX5_onlyPlace {ν : zM} {sh : Nat → Nat} {U : zCS} {x0 : Nat} {x1 : Nat} (h0 : isX9 sh x0) (h1 : isX6 sh x1) : fX5_onlyPlace (cmem ν sh U) x0 x1 = gX5_onlyPlace U x0 x1 := by simp only [fX5_onlyPlace, gX5_onlyPlace, zgd_t, zmap_ite, zmap_some, zmap_none, zmap_zb0, zmap_zni, zq2_k, zq3_k, zq4_k, zq5_k, zzb1_q, zzb2_q, zzb3_q, zzb4_q, zzb5_q, zmap_zb1, zmap_zb2, zmap_zb3, zmap_zb4, zmap_zb5, zmap_zb6, zmap_zc1, zmap_zc2, zmap_zc3, zmap_zc4, (eX5_howManyAt (h0 := h0) (h1 := h1)), cg_X9_0 h0, (eX5_onlyPlace_l4 (h0 := h0) (h1 := h1))]
noncomputable def gX5_countByThought_l15 (x2 : Int32) (x1 : Nat) (x0 : Nat) (F9 : Int32 → zCS → Option (zCS)) (x3_7 : Int32) (m8 : zCS) : Option (zCS) :=
  if 8 ≤ x3_7 then (
  some m8)
  else (
  zc1 (if ((x2 >>> (x3_7 &&& 31)) &&& 1) = 0 then (
  some m8)
  else (
  zb1 (zag 8 (m8.2.1 (x1 + 2)) x3_7) fun v19 =>
  zb1 (zag 10 (m8.2.1 (x0 + 2)) v19) fun v21 =>
  zb1 (zas 10 (m8.2.1 (x0 + 2)) v19 (v21 + 1)) fun f23 =>
  zb1 (some (csA m8 (x0 + 2) f23)) fun U23 =>
  zb1 (zag 8 (U23.2.1 (x1 + 2)) x3_7) fun v29 =>
  zb1 (some (csI U23 x0 2 (if (U23.1 x0 2) < v29 then v29 else (U23.1 x0 2) : Int32))) fun U31 =>
  some U31) : Option (zCS)) fun (m13 : zCS) =>
  F9 (x3_7 + 1) m13)
noncomputable def gX5_countByThought (U : zCS) (x0 : Nat) (x1 : Nat) (x2 : Int32) : Option (zCS) :=
  zb1 (gfill 10 U (x0 + 2) 0) fun U4 =>
  zb1 (some (csI U4 x0 2 0)) fun U5 =>
  zb1 (zf2 (gX5_countByThought_l15 x2 x1 x0) zfu 0 U5 : Option (zCS)) fun (m11 : zCS) =>
  some m11
set_option maxRecDepth 100000 in
theorem eX5_countByThought_l15 {ν : zM} {sh : Nat → Nat} {x2 : Int32} {x0 : Nat} {x1 : Nat} {x3_7 : Int32} {m8 : zCS} (h0 : isX5 sh x0) (h1 : isX9 sh x1)  (n : Nat) : zf2 (fX5_countByThought_l15 x2 x0 x1) n x3_7 (cmem ν sh m8) = Option.map (cmem ν sh) (zf2 (gX5_countByThought_l15 x2 x1 x0) n x3_7 m8) := by
  refine zf2_m (fun F9 G9 hF9 x3_7 m8 => ?_) n x3_7 m8
  simp only [fX5_countByThought_l15, gX5_countByThought_l15, zgd_t, zmap_ite, zmap_some, zmap_none, zmap_zb0, zmap_zni, zq2_k, zq3_k, zq4_k, zq5_k, zzc1_some, zzc2_some, zzc3_some, zzc4_some, zzc5_some, zzc6_some, zzb1_q, zzb2_q, zzb3_q, zzb4_q, zzb5_q, zzc1_q, zzc2_q, zzc3_q, zzc4_q, zzc5_q, zmap_zb1, zmap_zb2, zmap_zb3, zmap_zb4, zmap_zb5, zmap_zb6, zzc1_ite, zzc2_ite, zzc3_ite, zzc4_ite, zmap_zc1, zmap_zc2, zmap_zc3, zmap_zc4, zzc1_zb0, zzc1_zb1, zzc1_zb2, zzc1_zb3, zzc1_zb4, zzc2_zb0, zzc2_zb1, zzc2_zb2, zzc2_zb3, zzc2_zb4, zzc3_zb0, zzc3_zb1, zzc3_zb2, zzc3_zb3, zzc3_zb4, zzc4_zb0, zzc4_zb1, zzc4_zb2, zzc4_zb3, zzc4_zb4, (eJ7_fill_53178_1010 (h0 := (isX5_2 h0))), ca_1008 (isX9_2 h1), ca_1010 (isX5_2 h0), cg_X5_1 h0, cg_X5_2 h0, cg_X9_2 h1, cp_X5_2 h0, cs_1010 (isX5_2 h0), ck_X5 h0, hF9]
set_option maxRecDepth 100000 in
theorem eX5_countByThought {ν : zM} {sh : Nat → Nat} {U : zCS} {x0 : Nat} {x1 : Nat} {x2 : Int32} (h0 : isX5 sh x0) (h1 : isX9 sh x1) : fX5_countByThought (cmem ν sh U) x0 x1 x2 = Option.map (cmem ν sh) (gX5_countByThought U x0 x1 x2) := by simp only [fX5_countByThought, gX5_countByThought, zgd_t, zmap_ite, zmap_some, zmap_none, zmap_zb0, zmap_zni, zq2_k, zq3_k, zq4_k, zq5_k, zzc1_some, zzc2_some, zzc3_some, zzc4_some, zzc5_some, zzc6_some, zzb1_q, zzb2_q, zzb3_q, zzb4_q, zzb5_q, zzc1_q, zzc2_q, zzc3_q, zzc4_q, zzc5_q, zmap_zb1, zmap_zb2, zmap_zb3, zmap_zb4, zmap_zb5, zmap_zb6, zzc1_ite, zzc2_ite, zzc3_ite, zzc4_ite, zmap_zc1, zmap_zc2, zmap_zc3, zmap_zc4, zzc1_zb0, zzc1_zb1, zzc1_zb2, zzc1_zb3, zzc1_zb4, zzc2_zb0, zzc2_zb1, zzc2_zb2, zzc2_zb3, zzc2_zb4, zzc3_zb0, zzc3_zb1, zzc3_zb2, zzc3_zb3, zzc3_zb4, zzc4_zb0, zzc4_zb1, zzc4_zb2, zzc4_zb3, zzc4_zb4, (eJ7_fill_53178_1010 (h0 := (isX5_2 h0))), ca_1008 (isX9_2 h1), ca_1010 (isX5_2 h0), cg_X5_1 h0, cg_X5_2 h0, cg_X9_2 h1, cp_X5_2 h0, cs_1010 (isX5_2 h0), ck_X5 h0, (eX5_countByThought_l15 (h0 := h0) (h1 := h1))]
noncomputable def gX5_hit (U : zCS) (x0 : Nat) (x1 : Int32) (x2 : Int32) (x3 : Int32) : Option (zCS) :=
  zb1 (gX11_isMinute x2) fun v2 =>
  zc1 (if v2 = 0 then (
  some U)
  else (
  zb1 (zag 3100 (U.2.1 (x0 + 1)) ((x1 * 100) + x2)) fun v7 =>
  zb1 (zas 3100 (U.2.1 (x0 + 1)) ((x1 * 100) + x2) (v7 + x3)) fun f9 =>
  zb1 (some (csA U (x0 + 1) f9)) fun U9 =>
  some U9) : Option (zCS)) fun (m3 : zCS) =>
  some m3
set_option maxRecDepth 100000 in
theorem eX5_hit {ν : zM} {sh : Nat → Nat} {U : zCS} {x0 : Nat} {x1 : Int32} {x2 : Int32} {x3 : Int32} (h0 : isX5 sh x0) : fX5_hit (cmem ν sh U) x0 x1 x2 x3 = Option.map (cmem ν sh) (gX5_hit U x0 x1 x2 x3) := by simp only [fX5_hit, gX5_hit, zgd_t, zmap_ite, zmap_some, zmap_none, zmap_zb0, zmap_zni, zq2_k, zq3_k, zq4_k, zq5_k, zzc1_some, zzc2_some, zzc3_some, zzc4_some, zzc5_some, zzc6_some, zzb1_q, zzb2_q, zzb3_q, zzb4_q, zzb5_q, zzc1_q, zzc2_q, zzc3_q, zzc4_q, zzc5_q, zmap_zb1, zmap_zb2, zmap_zb3, zmap_zb4, zmap_zb5, zmap_zb6, zzc1_ite, zzc2_ite, zzc3_ite, zzc4_ite, zmap_zc1, zmap_zc2, zmap_zc3, zmap_zc4, zzc1_zb0, zzc1_zb1, zzc1_zb2, zzc1_zb3, zzc1_zb4, zzc2_zb0, zzc2_zb1, zzc2_zb2, zzc2_zb3, zzc2_zb4, zzc3_zb0, zzc3_zb1, zzc3_zb2, zzc3_zb3, zzc3_zb4, zzc4_zb0, zzc4_zb1, zzc4_zb2, zzc4_zb3, zzc4_zb4, ca_4100 (isX5_1 h0), cg_X5_0 h0, cs_4100 (isX5_1 h0), eX11_isMinute, ck_X5 h0]
noncomputable def gX5_hitByJudge_l3 (x0 : Nat) (x2 : Int32) (x3 : Int32) (x4 : Int32) (x1 : Int32) (F3 : Int32 → zCS → Option (zCS)) (x5_1 : Int32) (m2 : zCS) : Option (zCS) :=
  if (m2.1 x0 2) < x5_1 then (
  some m2)
  else (
  zc1 (if (x2 + x5_1) = x3 then (
  some m2)
  else (
  if (x2 + x5_1) = x4 then (
  some m2)
  else (
  zb1 (zag 10 (m2.2.1 (x0 + 2)) x5_1) fun v13 =>
  zb1 (gX5_hit m2 x0 x1 (x2 + x5_1) v13) fun U16 =>
  some U16)) : Option (zCS)) fun (m9 : zCS) =>
  F3 (x5_1 + 1) m9)
noncomputable def gX5_hitByJudge (U : zCS) (x0 : Nat) (x1 : Int32) (x2 : Int32) (x3 : Int32) (x4 : Int32) : Option (zCS) :=
  zb1 (zf2 (gX5_hitByJudge_l3 x0 x2 x3 x4 x1) zfu 0 U : Option (zCS)) fun (m5 : zCS) =>
  some m5
set_option maxRecDepth 100000 in
theorem eX5_hitByJudge_l3 {ν : zM} {sh : Nat → Nat} {x0 : Nat} {x2 : Int32} {x3 : Int32} {x4 : Int32} {x1 : Int32} {x5_1 : Int32} {m2 : zCS} (h0 : isX5 sh x0)  (n : Nat) : zf2 (fX5_hitByJudge_l3 x0 x2 x3 x4 x1) n x5_1 (cmem ν sh m2) = Option.map (cmem ν sh) (zf2 (gX5_hitByJudge_l3 x0 x2 x3 x4 x1) n x5_1 m2) := by
  refine zf2_m (fun F3 G3 hF3 x5_1 m2 => ?_) n x5_1 m2
  simp only [fX5_hitByJudge_l3, gX5_hitByJudge_l3, zgd_t, zmap_ite, zmap_some, zmap_none, zmap_zb0, zmap_zni, zq2_k, zq3_k, zq4_k, zq5_k, zzc1_some, zzc2_some, zzc3_some, zzc4_some, zzc5_some, zzc6_some, zzb1_q, zzb2_q, zzb3_q, zzb4_q, zzb5_q, zzc1_q, zzc2_q, zzc3_q, zzc4_q, zzc5_q, zmap_zb1, zmap_zb2, zmap_zb3, zmap_zb4, zmap_zb5, zmap_zb6, zzc1_ite, zzc2_ite, zzc3_ite, zzc4_ite, zmap_zc1, zmap_zc2, zmap_zc3, zmap_zc4, zzc1_zb0, zzc1_zb1, zzc1_zb2, zzc1_zb3, zzc1_zb4, zzc2_zb0, zzc2_zb1, zzc2_zb2, zzc2_zb3, zzc2_zb4, zzc3_zb0, zzc3_zb1, zzc3_zb2, zzc3_zb3, zzc3_zb4, zzc4_zb0, zzc4_zb1, zzc4_zb2, zzc4_zb3, zzc4_zb4, (eX5_hit (h0 := h0)), ca_1010 (isX5_2 h0), cg_X5_1 h0, cg_X5_2 h0, ck_X5 h0, hF3]
set_option maxRecDepth 100000 in
theorem eX5_hitByJudge {ν : zM} {sh : Nat → Nat} {U : zCS} {x0 : Nat} {x1 : Int32} {x2 : Int32} {x3 : Int32} {x4 : Int32} (h0 : isX5 sh x0) : fX5_hitByJudge (cmem ν sh U) x0 x1 x2 x3 x4 = Option.map (cmem ν sh) (gX5_hitByJudge U x0 x1 x2 x3 x4) := by simp only [fX5_hitByJudge, gX5_hitByJudge, zgd_t, zmap_ite, zmap_some, zmap_none, zmap_zb0, zmap_zni, zq2_k, zq3_k, zq4_k, zq5_k, zzc1_some, zzc2_some, zzc3_some, zzc4_some, zzc5_some, zzc6_some, zzb1_q, zzb2_q, zzb3_q, zzb4_q, zzb5_q, zzc1_q, zzc2_q, zzc3_q, zzc4_q, zzc5_q, zmap_zb1, zmap_zb2, zmap_zb3, zmap_zb4, zmap_zb5, zmap_zb6, zzc1_ite, zzc2_ite, zzc3_ite, zzc4_ite, zmap_zc1, zmap_zc2, zmap_zc3, zmap_zc4, zzc1_zb0, zzc1_zb1, zzc1_zb2, zzc1_zb3, zzc1_zb4, zzc2_zb0, zzc2_zb1, zzc2_zb2, zzc2_zb3, zzc2_zb4, zzc3_zb0, zzc3_zb1, zzc3_zb2, zzc3_zb3, zzc3_zb4, zzc4_zb0, zzc4_zb1, zzc4_zb2, zzc4_zb3, zzc4_zb4, (eX5_hit (h0 := h0)), ca_1010 (isX5_2 h0), cg_X5_1 h0, cg_X5_2 h0, ck_X5 h0, (eX5_hitByJudge_l3 (h0 := h0))]
noncomputable def gX5_hitByWords_l55 (x1 : Nat) (v2 : Int32) (x2 : Int32) (v8 : Int32) (s5 : Int32) (x3 : Int32) (x0 : Nat) (v10 : Int32) (v4 : Int32) (F15 : Int32 → zCS → Option (zCS)) (x10_13 : Int32) (m14 : zCS) : Option (zCS) :=
  if (m14.1 x1 0) < x10_13 then (
  some m14)
  else (
  if v2 ≤ 0 then (
  some m14)
  else (
  zb1 (gX9_way m14 x1 x2 x10_13 0) fun v22 =>
  zb1 (if v8 = 0 then (
  zb1 (gX9_way m14 x1 x2 x10_13 s5) fun v38 =>
  some (x3 + v38))
  else (
  some (-1)) : Option (Int32)) fun (s23 : Int32) =>
  zb1 (gX5_hit m14 x0 x10_13 (x3 + v22) v2) fun U26 =>
  zc1 (if s23 = (x3 + v22) then (
  some U26)
  else (
  zb1 (gX5_hit U26 x0 x10_13 s23 v2) fun U36 =>
  some U36) : Option (zCS)) fun (m27 : zCS) =>
  zc1 (if v10 = 0 then (
  zb1 (gX9_way m27 x1 x2 x10_13 v4) fun v32 =>
  zb1 (gX5_hitByJudge m27 x0 x10_13 (x3 + v32) (x3 + v22) s23) fun U34 =>
  some U34)
  else (
  some m27) : Option (zCS)) fun (m29 : zCS) =>
  F15 (x10_13 + 1) m29))
noncomputable def gX5_hitByWords (U : zCS) (x0 : Nat) (x1 : Nat) (x2 : Int32) (x3 : Int32) (x4 : Int32) : Option (zCS) :=
  zb1 (gJ6_bitCount_0f7a4 x4) fun v2 =>
  zb1 (gX9_judge U x1 x3) fun v4 =>
  zb1 (if v4 = 1 then (
  some 2)
  else (
  some 1) : Option (Int32)) fun (s5 : Int32) =>
  zb1 (gX9_isMute U x1 s5 x3) fun v8 =>
  zb1 (gX9_isMute U x1 v4 x3) fun v10 =>
  zb1 (gX5_countByThought U x0 x1 x4) fun U12 =>
  zb1 (zf2 (gX5_hitByWords_l55 x1 v2 x2 v8 s5 x3 x0 v10 v4) zfu 0 U12 : Option (zCS)) fun (m17 : zCS) =>
  some m17
set_option maxRecDepth 100000 in
theorem eX5_hitByWords_l55 {ν : zM} {sh : Nat → Nat} {x1 : Nat} {v2 : Int32} {x2 : Int32} {v8 : Int32} {s5 : Int32} {x3 : Int32} {x0 : Nat} {v10 : Int32} {v4 : Int32} {x10_13 : Int32} {m14 : zCS} (h0 : isX5 sh x0) (h1 : isX9 sh x1)  (n : Nat) : zf2 (fX5_hitByWords_l55 x1 v2 x2 v8 s5 x3 x0 v10 v4) n x10_13 (cmem ν sh m14) = Option.map (cmem ν sh) (zf2 (gX5_hitByWords_l55 x1 v2 x2 v8 s5 x3 x0 v10 v4) n x10_13 m14) := by
  refine zf2_m (fun F15 G15 hF15 x10_13 m14 => ?_) n x10_13 m14
  simp only [fX5_hitByWords_l55, gX5_hitByWords_l55, zgd_t, zmap_ite, zmap_some, zmap_none, zmap_zb0, zmap_zni, zq2_k, zq3_k, zq4_k, zq5_k, zzc1_some, zzc2_some, zzc3_some, zzc4_some, zzc5_some, zzc6_some, zzb1_q, zzb2_q, zzb3_q, zzb4_q, zzb5_q, zzc1_q, zzc2_q, zzc3_q, zzc4_q, zzc5_q, zmap_zb1, zmap_zb2, zmap_zb3, zmap_zb4, zmap_zb5, zmap_zb6, zzc1_ite, zzc2_ite, zzc3_ite, zzc4_ite, zmap_zc1, zmap_zc2, zmap_zc3, zmap_zc4, zzc1_zb0, zzc1_zb1, zzc1_zb2, zzc1_zb3, zzc1_zb4, zzc2_zb0, zzc2_zb1, zzc2_zb2, zzc2_zb3, zzc2_zb4, zzc3_zb0, zzc3_zb1, zzc3_zb2, zzc3_zb3, zzc3_zb4, zzc4_zb0, zzc4_zb1, zzc4_zb2, zzc4_zb3, zzc4_zb4, (eX5_countByThought (h0 := h0) (h1 := h1)), (eX5_hit (h0 := h0)), (eX5_hitByJudge (h0 := h0)), (eX9_isMute (h0 := h1)), (eX9_judge (h0 := h1)), (eX9_way (h0 := h1)), cg_X9_0 h1, eJ6_bitCount_0f7a4, ck_X5 h0, hF15]
set_option maxRecDepth 100000 in
theorem eX5_hitByWords {ν : zM} {sh : Nat → Nat} {U : zCS} {x0 : Nat} {x1 : Nat} {x2 : Int32} {x3 : Int32} {x4 : Int32} (h0 : isX5 sh x0) (h1 : isX9 sh x1) : fX5_hitByWords (cmem ν sh U) x0 x1 x2 x3 x4 = Option.map (cmem ν sh) (gX5_hitByWords U x0 x1 x2 x3 x4) := by simp only [fX5_hitByWords, gX5_hitByWords, zgd_t, zmap_ite, zmap_some, zmap_none, zmap_zb0, zmap_zni, zq2_k, zq3_k, zq4_k, zq5_k, zzc1_some, zzc2_some, zzc3_some, zzc4_some, zzc5_some, zzc6_some, zzb1_q, zzb2_q, zzb3_q, zzb4_q, zzb5_q, zzc1_q, zzc2_q, zzc3_q, zzc4_q, zzc5_q, zmap_zb1, zmap_zb2, zmap_zb3, zmap_zb4, zmap_zb5, zmap_zb6, zzc1_ite, zzc2_ite, zzc3_ite, zzc4_ite, zmap_zc1, zmap_zc2, zmap_zc3, zmap_zc4, zzc1_zb0, zzc1_zb1, zzc1_zb2, zzc1_zb3, zzc1_zb4, zzc2_zb0, zzc2_zb1, zzc2_zb2, zzc2_zb3, zzc2_zb4, zzc3_zb0, zzc3_zb1, zzc3_zb2, zzc3_zb3, zzc3_zb4, zzc4_zb0, zzc4_zb1, zzc4_zb2, zzc4_zb3, zzc4_zb4, (eX5_countByThought (h0 := h0) (h1 := h1)), (eX5_hit (h0 := h0)), (eX5_hitByJudge (h0 := h0)), (eX9_isMute (h0 := h1)), (eX9_judge (h0 := h1)), (eX9_way (h0 := h1)), cg_X9_0 h1, eJ6_bitCount_0f7a4, ck_X5 h0, (eX5_hitByWords_l55 (h0 := h0) (h1 := h1))]
noncomputable def gX5_whereToListen_l25 (x1 : Nat) (x2 : Nat) (x4_6 : Int32) (x0 : Nat) (F18 : Int32 → Int32 → zCS → Option (Int32 × zCS)) (x3_15 : Int32) (x5_16 : Int32) (m17 : zCS) : Option (Int32 × zCS) :=
  if 100 ≤ x5_16 then (
  some (x3_15, m17))
  else (
  zb1 (gX5_wordsMaybe m17 x1 x2 x4_6 x5_16) fun v24 =>
  zb1 (gJ6_bitCount_0f7a4 v24) fun v26 =>
  zb1 (gX5_hitByWords m17 x0 x1 x4_6 x5_16 v24) fun U28 =>
  F18 (x3_15 + v26) (x5_16 + 1) U28)
noncomputable def gX5_whereToListen_l13 (x1 : Nat) (x2 : Nat) (x0 : Nat) (F8 : Int32 → Int32 → zCS → Option (Int32 × zCS)) (x3_5 : Int32) (x4_6 : Int32) (m7 : zCS) : Option (Int32 × zCS) :=
  if (m7.1 x1 0) < x4_6 then (
  some (x3_5, m7))
  else (
  zb2 (zf3 (gX5_whereToListen_l25 x1 x2 x4_6 x0) zfu x3_5 0 m7 : Option (Int32 × zCS)) fun (x3_20 : Int32) (m21 : zCS) =>
  F8 x3_20 (x4_6 + 1) m21)
noncomputable def gX5_whereToListen_l83 (m11 : zCS) (x1 : Nat) (x3_10 : Int32) (x0 : Nat) (F34 : Int32 → Int32 → Int32 → Option (Int32)) (x4_31 : Int32) (x5_32 : Int32) (x6_33 : Int32) : Option (Int32) :=
  if (((m11.1 x1 0) + 1) * 100) ≤ x6_33 then (
  some x4_31)
  else (
  if x3_10 ≤ 0 then (
  some x4_31)
  else (
  zb1 (zag 3100 (m11.2.1 (x0 + 1)) x6_33) fun v42 =>
  zb1 (zag 3100 (m11.2.1 (x0 + 1)) x6_33) fun v46 =>
  zb2 (if x4_31 = (-1) then (
  some (x6_33, (if v42 < (x3_10 - v46) then (x3_10 - v46) else v42 : Int32)))
  else (
  if x5_32 ≤ (if v42 < (x3_10 - v46) then (x3_10 - v46) else v42 : Int32) then (
  some (x4_31, x5_32))
  else (
  some (x6_33, (if v42 < (x3_10 - v46) then (x3_10 - v46) else v42 : Int32)))) : Option (Int32 × Int32)) fun (x4_48 : Int32) (x5_49 : Int32) =>
  F34 x4_48 x5_49 (x6_33 + 1)))
noncomputable def gX5_whereToListen (U : zCS) (x0 : Nat) (x1 : Nat) (x2 : Nat) : Option (Int32 × zCS) :=
  zb1 (gfill 3100 U (x0 + 1) 0) fun U4 =>
  zb2 (zf3 (gX5_whereToListen_l13 x1 x2 x0) zfu 0 0 U4 : Option (Int32 × zCS)) fun (x3_10 : Int32) (m11 : zCS) =>
  zb1 (zf3 (gX5_whereToListen_l83 m11 x1 x3_10 x0) zfu (-1) x3_10 0 : Option (Int32)) fun (x4_36 : Int32) =>
  some (x4_36, m11)
set_option maxRecDepth 100000 in
theorem eX5_whereToListen_l25 {ν : zM} {sh : Nat → Nat} {x1 : Nat} {x2 : Nat} {x4_6 : Int32} {x0 : Nat} {x3_15 : Int32} {x5_16 : Int32} {m17 : zCS} (h0 : isX5 sh x0) (h1 : isX9 sh x1) (h2 : isX6 sh x2)  (n : Nat) : zf3 (fX5_whereToListen_l25 x1 x2 x4_6 x0) n x3_15 x5_16 (cmem ν sh m17) = Option.map (zq2 (cmem ν sh)) (zf3 (gX5_whereToListen_l25 x1 x2 x4_6 x0) n x3_15 x5_16 m17) := by
  refine zf3_m (fun F18 G18 hF18 x3_15 x5_16 m17 => ?_) n x3_15 x5_16 m17
  simp only [fX5_whereToListen_l25, gX5_whereToListen_l25, zgd_t, zmap_ite, zmap_some, zmap_none, zmap_zb0, zmap_zni, zq2_k, zq3_k, zq4_k, zq5_k, zzb1_q, zzb2_q, zzb3_q, zzb4_q, zzb5_q, zmap_zb1, zmap_zb2, zmap_zb3, zmap_zb4, zmap_zb5, zmap_zb6, zmap_zc1, zmap_zc2, zmap_zc3, zmap_zc4, (eJ7_fill_53178_4100 (h0 := (isX5_1 h0))), (eX5_hitByWords (h0 := h0) (h1 := h1)), (eX5_wordsMaybe (h0 := h1) (h1 := h2)), ca_4100 (isX5_1 h0), cg_X5_0 h0, cg_X9_0 h1, eJ6_bitCount_0f7a4, ck_X5 h0, hF18]
set_option maxRecDepth 100000 in
theorem eX5_whereToListen_l13 {ν : zM} {sh : Nat → Nat} {x1 : Nat} {x2 : Nat} {x0 : Nat} {x3_5 : Int32} {x4_6 : Int32} {m7 : zCS} (h0 : isX5 sh x0) (h1 : isX9 sh x1) (h2 : isX6 sh x2)  (n : Nat) : zf3 (fX5_whereToListen_l13 x1 x2 x0) n x3_5 x4_6 (cmem ν sh m7) = Option.map (zq2 (cmem ν sh)) (zf3 (gX5_whereToListen_l13 x1 x2 x0) n x3_5 x4_6 m7) := by
  refine zf3_m (fun F8 G8 hF8 x3_5 x4_6 m7 => ?_) n x3_5 x4_6 m7
  simp only [fX5_whereToListen_l13, gX5_whereToListen_l13, zgd_t, zmap_ite, zmap_some, zmap_none, zmap_zb0, zmap_zni, zq2_k, zq3_k, zq4_k, zq5_k, zzb1_q, zzb2_q, zzb3_q, zzb4_q, zzb5_q, zmap_zb1, zmap_zb2, zmap_zb3, zmap_zb4, zmap_zb5, zmap_zb6, zmap_zc1, zmap_zc2, zmap_zc3, zmap_zc4, (eJ7_fill_53178_4100 (h0 := (isX5_1 h0))), (eX5_hitByWords (h0 := h0) (h1 := h1)), (eX5_wordsMaybe (h0 := h1) (h1 := h2)), ca_4100 (isX5_1 h0), cg_X5_0 h0, cg_X9_0 h1, eJ6_bitCount_0f7a4, ck_X5 h0, (eX5_whereToListen_l25 (h0 := h0) (h1 := h1) (h2 := h2)), hF8]
set_option maxRecDepth 100000 in
theorem eX5_whereToListen_l83 {ν : zM} {sh : Nat → Nat} {m11 : zCS} {x1 : Nat} {x3_10 : Int32} {x0 : Nat} {x4_31 : Int32} {x5_32 : Int32} {x6_33 : Int32} {x2 : Nat} (h0 : isX5 sh x0) (h1 : isX9 sh x1) (h2 : isX6 sh x2)  (n : Nat) : zf3 (fX5_whereToListen_l83 (cmem ν sh m11) x1 x3_10 x0) n x4_31 x5_32 x6_33 = zf3 (gX5_whereToListen_l83 m11 x1 x3_10 x0) n x4_31 x5_32 x6_33 := by
  refine zf3_c (fun F34 G34 hF34 x4_31 x5_32 x6_33 => ?_) n x4_31 x5_32 x6_33
  simp only [fX5_whereToListen_l83, gX5_whereToListen_l83, zgd_t, zmap_ite, zmap_some, zmap_none, zmap_zb0, zmap_zni, zq2_k, zq3_k, zq4_k, zq5_k, zzb1_q, zzb2_q, zzb3_q, zzb4_q, zzb5_q, zmap_zb1, zmap_zb2, zmap_zb3, zmap_zb4, zmap_zb5, zmap_zb6, zmap_zc1, zmap_zc2, zmap_zc3, zmap_zc4, (eJ7_fill_53178_4100 (h0 := (isX5_1 h0))), (eX5_hitByWords (h0 := h0) (h1 := h1)), (eX5_wordsMaybe (h0 := h1) (h1 := h2)), ca_4100 (isX5_1 h0), cg_X5_0 h0, cg_X9_0 h1, eJ6_bitCount_0f7a4, ck_X5 h0, (eX5_whereToListen_l25 (h0 := h0) (h1 := h1) (h2 := h2)), (eX5_whereToListen_l13 (h0 := h0) (h1 := h1) (h2 := h2)), hF34]
set_option maxRecDepth 100000 in
theorem eX5_whereToListen {ν : zM} {sh : Nat → Nat} {U : zCS} {x0 : Nat} {x1 : Nat} {x2 : Nat} (h0 : isX5 sh x0) (h1 : isX9 sh x1) (h2 : isX6 sh x2) : fX5_whereToListen (cmem ν sh U) x0 x1 x2 = Option.map (zq2 (cmem ν sh)) (gX5_whereToListen U x0 x1 x2) := by simp only [fX5_whereToListen, gX5_whereToListen, zgd_t, zmap_ite, zmap_some, zmap_none, zmap_zb0, zmap_zni, zq2_k, zq3_k, zq4_k, zq5_k, zzb1_q, zzb2_q, zzb3_q, zzb4_q, zzb5_q, zmap_zb1, zmap_zb2, zmap_zb3, zmap_zb4, zmap_zb5, zmap_zb6, zmap_zc1, zmap_zc2, zmap_zc3, zmap_zc4, (eJ7_fill_53178_4100 (h0 := (isX5_1 h0))), (eX5_hitByWords (h0 := h0) (h1 := h1)), (eX5_wordsMaybe (h0 := h1) (h1 := h2)), ca_4100 (isX5_1 h0), cg_X5_0 h0, cg_X9_0 h1, eJ6_bitCount_0f7a4, ck_X5 h0, (eX5_whereToListen_l25 (h0 := h0) (h1 := h1) (h2 := h2)), (eX5_whereToListen_l13 (h0 := h0) (h1 := h1) (h2 := h2)), (eX5_whereToListen_l83 (h0 := h0) (h1 := h1) (h2 := h2))]
noncomputable def gX6_copyFrom (U : zCS) (x0 : Nat) (x1 : Nat) : Option (zCS) :=
  zb1 (some (csI U x0 0 (U.1 x1 0))) fun U3 =>
  zb1 (zcp 0 8 8 (U3.2.1 (x1 + 1)) (U3.2.1 (x0 + 1)) 0 0 8) fun f9 =>
  zb1 (some (csA U3 (x0 + 1) f9)) fun U9 =>
  zb1 (zcp 0 8 8 (U9.2.1 (x1 + 2)) (U9.2.1 (x0 + 2)) 0 0 8) fun f15 =>
  zb1 (some (csA U9 (x0 + 2) f15)) fun U15 =>
  zb1 (zcp 0 8 8 (U15.2.1 (x1 + 3)) (U15.2.1 (x0 + 3)) 0 0 8) fun f21 =>
  zb1 (some (csA U15 (x0 + 3) f21)) fun U21 =>
  zb1 (zcp 0 8 8 (U21.2.1 (x1 + 4)) (U21.2.1 (x0 + 4)) 0 0 8) fun f27 =>
  zb1 (some (csA U21 (x0 + 4) f27)) fun U27 =>
  some U27
set_option maxRecDepth 100000 in
theorem eX6_copyFrom {ν : zM} {sh : Nat → Nat} {U : zCS} {x0 : Nat} {x1 : Nat} (h0 : isX6 sh x0) (h1 : isX6 sh x1) : fX6_copyFrom (cmem ν sh U) x0 x1 = Option.map (cmem ν sh) (gX6_copyFrom U x0 x1) := by simp only [fX6_copyFrom, gX6_copyFrom, zgd_t, zmap_ite, zmap_some, zmap_none, zmap_zb0, zmap_zni, zq2_k, zq3_k, zq4_k, zq5_k, zzb1_q, zzb2_q, zzb3_q, zzb4_q, zzb5_q, zmap_zb1, zmap_zb2, zmap_zb3, zmap_zb4, zmap_zb5, zmap_zb6, zmap_zc1, zmap_zc2, zmap_zc3, zmap_zc4, cg_X6_0 h1, cg_X6_1 h0, cg_X6_1 h1, cg_X6_2 h0, cg_X6_2 h1, cg_X6_3 h0, cg_X6_3 h1, cg_X6_4 h0, cg_X6_4 h1, cp_X6_0 h0, cy_1008 (isX6_1 h1) (isX6_1 h0), cy_1008 (isX6_2 h1) (isX6_2 h0), cy_1008 (isX6_3 h1) (isX6_3 h0), cy_1008 (isX6_4 h1) (isX6_4 h0), ck_X6 h0]
noncomputable def gX6_tell (U : zCS) (x0 : Nat) (x1 : Int32) (x2 : Int32) : Option (Int32) :=
  if x1 = (-1) then (
  zb1 (if x2 = 0 then (
  some (U.1 x0 0))
  else (
  some (-2)) : Option (Int32)) fun (s23 : Int32) =>
  some s23)
  else (
  if x1 < 0 then (
  some (-2))
  else (
  if x1 < (U.1 x0 0) then (
  if x2 = 0 then (
  zb1 (zag 8 (U.2.1 (x0 + 1)) x1) fun v5 =>
  some v5)
  else (
  if x2 = 1 then (
  zb1 (zag 8 (U.2.1 (x0 + 2)) x1) fun v10 =>
  some v10)
  else (
  if x2 = 2 then (
  zb1 (zag 8 (U.2.1 (x0 + 3)) x1) fun v15 =>
  some v15)
  else (
  if x2 = 3 then (
  zb1 (zag 8 (U.2.1 (x0 + 4)) x1) fun v20 =>
  some v20)
  else (
  some (-2))))))
  else (
  some (-2))))
set_option maxRecDepth 100000 in
theorem eX6_tell {ν : zM} {sh : Nat → Nat} {U : zCS} {x0 : Nat} {x1 : Int32} {x2 : Int32} (h0 : isX6 sh x0) : fX6_tell (cmem ν sh U) x0 x1 x2 = gX6_tell U x0 x1 x2 := by simp only [fX6_tell, gX6_tell, zgd_t, zmap_ite, zmap_some, zmap_none, zmap_zb0, zmap_zni, zq2_k, zq3_k, zq4_k, zq5_k, zzb1_q, zzb2_q, zzb3_q, zzb4_q, zzb5_q, zmap_zb1, zmap_zb2, zmap_zb3, zmap_zb4, zmap_zb5, zmap_zb6, zmap_zc1, zmap_zc2, zmap_zc3, zmap_zc4, ca_1008 (isX6_1 h0), ca_1008 (isX6_2 h0), ca_1008 (isX6_3 h0), ca_1008 (isX6_4 h0), cg_X6_0 h0, cg_X6_1 h0, cg_X6_2 h0, cg_X6_3 h0, cg_X6_4 h0, ck_X6 h0]
noncomputable def gX6_isWithin_l2 (U : zCS) (x0 : Nat) (x1 : Nat) (F2 : Int32 → Option (Int32)) (x2_1 : Int32) : Option (Int32) :=
  if (U.1 x0 0) ≤ x2_1 then (
  some 1)
  else (
  zb1 (zag 8 (U.2.1 (x0 + 2)) x2_1) fun v8 =>
  zb1 (gX9_hasPlace U x1 v8) fun v11 =>
  if v11 = 0 then (
  some 0)
  else (
  F2 (x2_1 + 1)))
noncomputable def gX6_isWithin (U : zCS) (x0 : Nat) (x1 : Nat) : Option (Int32) :=
  zf1 (gX6_isWithin_l2 U x0 x1) zfu 0
set_option maxRecDepth 100000 in
theorem eX6_isWithin_l2 {ν : zM} {sh : Nat → Nat} {U : zCS} {x0 : Nat} {x1 : Nat} {x2_1 : Int32} (h0 : isX6 sh x0) (h1 : isX9 sh x1)  (n : Nat) : zf1 (fX6_isWithin_l2 (cmem ν sh U) x0 x1) n x2_1 = zf1 (gX6_isWithin_l2 U x0 x1) n x2_1 := by
  refine zf1_c (fun F2 G2 hF2 x2_1 => ?_) n x2_1
  simp only [fX6_isWithin_l2, gX6_isWithin_l2, zgd_t, zmap_ite, zmap_some, zmap_none, zmap_zb0, zmap_zni, zq2_k, zq3_k, zq4_k, zq5_k, zzb1_q, zzb2_q, zzb3_q, zzb4_q, zzb5_q, zmap_zb1, zmap_zb2, zmap_zb3, zmap_zb4, zmap_zb5, zmap_zb6, zmap_zc1, zmap_zc2, zmap_zc3, zmap_zc4, (eX9_hasPlace (h0 := h1)), ca_1008 (isX6_2 h0), cg_X6_0 h0, cg_X6_2 h0, ck_X6 h0, hF2]
set_option maxRecDepth 100000 in
theorem eX6_isWithin {ν : zM} {sh : Nat → Nat} {U : zCS} {x0 : Nat} {x1 : Nat} (h0 : isX6 sh x0) (h1 : isX9 sh x1) : fX6_isWithin (cmem ν sh U) x0 x1 = gX6_isWithin U x0 x1 := by simp only [fX6_isWithin, gX6_isWithin, zgd_t, zmap_ite, zmap_some, zmap_none, zmap_zb0, zmap_zni, zq2_k, zq3_k, zq4_k, zq5_k, zzb1_q, zzb2_q, zzb3_q, zzb4_q, zzb5_q, zmap_zb1, zmap_zb2, zmap_zb3, zmap_zb4, zmap_zb5, zmap_zb6, zmap_zc1, zmap_zc2, zmap_zc3, zmap_zc4, (eX9_hasPlace (h0 := h1)), ca_1008 (isX6_2 h0), cg_X6_0 h0, cg_X6_2 h0, ck_X6 h0, (eX6_isWithin_l2 (h0 := h0) (h1 := h1))]
noncomputable def gX7_put_l3 (x0 : Nat) (x1 : Int32) (F3 : Int32 → zCS → Option (zCS)) (x2_1 : Int32) (m2 : zCS) : Option (zCS) :=
  if x2_1 < 0 then (
  some m2)
  else (
  if 600 ≤ (m2.1 x0 1) then (
  some m2)
  else (
  zb1 (zas 600 (m2.2.1 (x0 + 1)) (m2.1 x0 1) (vp_nar .byte ((((x1 : Int32).toUInt32 >>> ((x2_1 : Int32).toUInt32 &&& Int32.toUInt32 31)).toInt32 : Int32).toInt8.toInt32))) fun f13 =>
  zb1 (some (csA m2 (x0 + 1) f13)) fun U13 =>
  zb1 (some (csI U13 x0 1 ((U13.1 x0 1) + 1))) fun U17 =>
  F3 (x2_1 + (-8)) U17))
noncomputable def gX7_put (U : zCS) (x0 : Nat) (x1 : Int32) : Option (zCS) :=
  zb1 (zf2 (gX7_put_l3 x0 x1) zfu 24 U : Option (zCS)) fun (m5 : zCS) =>
  some m5
set_option maxRecDepth 100000 in
theorem eX7_put_l3 {ν : zM} {sh : Nat → Nat} {x0 : Nat} {x1 : Int32} {x2_1 : Int32} {m2 : zCS} (h0 : isX7 sh x0)  (n : Nat) : zf2 (fX7_put_l3 x0 x1) n x2_1 (cmem ν sh m2) = Option.map (cmem ν sh) (zf2 (gX7_put_l3 x0 x1) n x2_1 m2) := by
  refine zf2_m (fun F3 G3 hF3 x2_1 m2 => ?_) n x2_1 m2
  simp only [fX7_put_l3, gX7_put_l3, zgd_t, zmap_ite, zmap_some, zmap_none, zmap_zb0, zmap_zni, zq2_k, zq3_k, zq4_k, zq5_k, zzb1_q, zzb2_q, zzb3_q, zzb4_q, zzb5_q, zmap_zb1, zmap_zb2, zmap_zb3, zmap_zb4, zmap_zb5, zmap_zb6, zmap_zc1, zmap_zc2, zmap_zc3, zmap_zc4, cg_X7_0 h0, cg_X7_1 h0, cp_X7_1 h0, cs_9001 (isX7_1 h0), ck_X7 h0, hF3]
set_option maxRecDepth 100000 in
theorem eX7_put {ν : zM} {sh : Nat → Nat} {U : zCS} {x0 : Nat} {x1 : Int32} (h0 : isX7 sh x0) : fX7_put (cmem ν sh U) x0 x1 = Option.map (cmem ν sh) (gX7_put U x0 x1) := by simp only [fX7_put, gX7_put, zgd_t, zmap_ite, zmap_some, zmap_none, zmap_zb0, zmap_zni, zq2_k, zq3_k, zq4_k, zq5_k, zzb1_q, zzb2_q, zzb3_q, zzb4_q, zzb5_q, zmap_zb1, zmap_zb2, zmap_zb3, zmap_zb4, zmap_zb5, zmap_zb6, zmap_zc1, zmap_zc2, zmap_zc3, zmap_zc4, cg_X7_0 h0, cg_X7_1 h0, cp_X7_1 h0, cs_9001 (isX7_1 h0), ck_X7 h0, (eX7_put_l3 (h0 := h0))]
noncomputable def gX7_slotFor (U : zCS) (x0 : Nat) (x1 : Int32) (x2 : Int32) : Option (Int32) :=
  if x1 < 0 then (
  some (-1))
  else (
  if x1 < 4 then (
  if x2 = (-1) then (
  zb1 (zag 4 (U.2.1 (x0 + 2)) x1) fun v9 =>
  zb1 (if 2 ≤ v9 then (
  some (-1))
  else (
  zb1 (zag 4 (U.2.1 (x0 + 2)) x1) fun v15 =>
  some v15) : Option (Int32)) fun (s11 : Int32) =>
  some s11)
  else (
  zb1 (if x2 < 0 then (
  some (-1))
  else (
  zb1 (zag 4 (U.2.1 (x0 + 2)) x1) fun v5 =>
  if v5 ≤ x2 then (
  some (-1))
  else (
  some x2)) : Option (Int32)) fun (s1 : Int32) =>
  some s1))
  else (
  some (-1)))
set_option maxRecDepth 100000 in
theorem eX7_slotFor {ν : zM} {sh : Nat → Nat} {U : zCS} {x0 : Nat} {x1 : Int32} {x2 : Int32} (h0 : isX7 sh x0) : fX7_slotFor (cmem ν sh U) x0 x1 x2 = gX7_slotFor U x0 x1 x2 := by simp only [fX7_slotFor, gX7_slotFor, zgd_t, zmap_ite, zmap_some, zmap_none, zmap_zb0, zmap_zni, zq2_k, zq3_k, zq4_k, zq5_k, zzb1_q, zzb2_q, zzb3_q, zzb4_q, zzb5_q, zmap_zb1, zmap_zb2, zmap_zb3, zmap_zb4, zmap_zb5, zmap_zb6, zmap_zc1, zmap_zc2, zmap_zc3, zmap_zc4, ca_1004 (isX7_2 h0), cg_X7_4 h0, ck_X7 h0]
