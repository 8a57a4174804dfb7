theorem zl_324 : Cond.code yX3_add cX3_add 3 (none) ∈ zt := zt_at 696 (by decide +kernel)
theorem zvs_X3_add : zvS yX3_add cX3_add 3 (none) 2 := ⟨zl_324, zl_207, ⟨by decide +kernel, by decide +kernel, by decide +kernel⟩, by decide⟩
theorem zl_325 : Cond.methodLink RX4 160 yX3_add ∈ zt := zt_at 693 (by decide +kernel)
theorem zl_326 : Cond.instanceMethod yX3_add ∈ zt := zt_at 694 (by decide +kernel)
theorem zl_327 : Cond.selects RX3 yX3_add yX3_add ∈ zt := zt_at 695 (by decide +kernel)
theorem zl_328 : Cond.fieldLink RX4 157 "TwoEchoes$Lesson" "lies" "I" ∈ zt := zt_at 272 (by decide +kernel)
theorem dX4_takeOfLesson_0 : decode cX4_takeOfLesson 0 = .ok (.iload_n 1, 1) := by decide +kernel
theorem dX4_takeOfLesson_1 : decode cX4_takeOfLesson 1 = .ok (.bipush 15, 2) := by decide +kernel
theorem dX4_takeOfLesson_3 : decode cX4_takeOfLesson 3 = .ok (.if_icmp .ne 19, 3) := by decide +kernel
theorem dX4_takeOfLesson_6 : decode cX4_takeOfLesson 6 = .ok (.aload_n 0, 1) := by decide +kernel
theorem dX4_takeOfLesson_7 : decode cX4_takeOfLesson 7 = .ok (.getfield 28, 3) := by decide +kernel
theorem dX4_takeOfLesson_10 : decode cX4_takeOfLesson 10 = .ok (.aload_n 0, 1) := by decide +kernel
theorem dX4_takeOfLesson_11 : decode cX4_takeOfLesson 11 = .ok (.getfield 58, 3) := by decide +kernel
theorem dX4_takeOfLesson_14 : decode cX4_takeOfLesson 14 = .ok (.iconst 0, 1) := by decide +kernel
theorem dX4_takeOfLesson_15 : decode cX4_takeOfLesson 15 = .ok (.iaload, 1) := by decide +kernel
theorem dX4_takeOfLesson_16 : decode cX4_takeOfLesson 16 = .ok (.putfield 157, 3) := by decide +kernel
theorem dX4_takeOfLesson_19 : decode cX4_takeOfLesson 19 = .ok (.goto 22, 3) := by decide +kernel
theorem dX4_takeOfLesson_22 : decode cX4_takeOfLesson 22 = .ok (.aload_n 0, 1) := by decide +kernel
theorem dX4_takeOfLesson_23 : decode cX4_takeOfLesson 23 = .ok (.getfield 28, 3) := by decide +kernel
theorem dX4_takeOfLesson_26 : decode cX4_takeOfLesson 26 = .ok (.aload_n 0, 1) := by decide +kernel
theorem dX4_takeOfLesson_27 : decode cX4_takeOfLesson 27 = .ok (.getfield 58, 3) := by decide +kernel
theorem dX4_takeOfLesson_30 : decode cX4_takeOfLesson 30 = .ok (.iconst 0, 1) := by decide +kernel
theorem dX4_takeOfLesson_31 : decode cX4_takeOfLesson 31 = .ok (.iaload, 1) := by decide +kernel
theorem dX4_takeOfLesson_32 : decode cX4_takeOfLesson 32 = .ok (.aload_n 0, 1) := by decide +kernel
theorem dX4_takeOfLesson_33 : decode cX4_takeOfLesson 33 = .ok (.getfield 58, 3) := by decide +kernel
theorem dX4_takeOfLesson_36 : decode cX4_takeOfLesson 36 = .ok (.iconst 1, 1) := by decide +kernel
theorem dX4_takeOfLesson_37 : decode cX4_takeOfLesson 37 = .ok (.iaload, 1) := by decide +kernel
theorem dX4_takeOfLesson_38 : decode cX4_takeOfLesson 38 = .ok (.invokevirtual 160, 3) := by decide +kernel
theorem dX4_takeOfLesson_41 : decode cX4_takeOfLesson 41 = .ok (.return_, 1) := by decide +kernel
def fX4_takeOfLesson (μ : zM) (x0 : Nat) (x1 : Int32) : Option (zM) := zgd (zm_ck μ 4 x0) <|
  zb1 (if x1 = 15 then (
  zb1 (zm_gR μ 4 x0 2) fun v15 =>
  zb1 (zm_gR μ 4 x0 11) fun v17 =>
  zb1 (zm_aI μ 0 v17 0) fun v19 =>
  zb1 (zm_p μ 3 v15 0 (.int v19)) fun m21 =>
  some m21)
  else (
  zb1 (zm_gR μ 4 x0 2) fun v3 =>
  zb1 (zm_gR μ 4 x0 11) fun v5 =>
  zb1 (zm_aI μ 0 v5 0) fun v7 =>
  zb1 (zm_gR μ 4 x0 11) fun v9 =>
  zb1 (zm_aI μ 0 v9 1) fun v11 =>
  zb1 (fX3_add μ v3 v7 v11) fun m14 =>
  some m14)) fun m1 =>
  some m1
theorem fX4_takeOfLesson_ck {μ : zM} {x0 : Nat} {x1 : Int32} {z : zM} (h : fX4_takeOfLesson μ x0 x1 = some z) : zm_ck μ 4 x0 = true := (zgd_s h).1
set_option maxHeartbeats 4000000 in
set_option maxRecDepth 100000 in
theorem cX4_takeOfLesson_ok {μ : zM} {x0 : Nat} {x1 : Int32} {mo : zM} (hf : fX4_takeOfLesson μ x0 x1 = some mo) : zC yX4_takeOfLesson cX4_takeOfLesson 2 (none) 1 0 0 [.ref x0, .int x1] μ (none) mo := by
  replace hf := (zgd_s hf).2
  refine zC.of (by decide) (Nat.le_of_ble_eq_true rfl) (fun K hin => ?_)
  clear hin
  show zz K cX4_takeOfLesson (2, RX4, none, 1, 0, 0, none, mo) 0 0 0 [(0, .ref x0), (1, .int x1)] [] μ
  refine zr_iload_n 1 dX4_takeOfLesson_0 rfl ?_
  refine zr_bipush 15 dX4_takeOfLesson_1 (by decide) ?_
  replace hf := zb1_s hf
  obtain ⟨m1, hg, hf⟩ := hf
  have hj2 : zz K cX4_takeOfLesson (2, RX4, none, 1, 0, 0, none, mo) 0 0 41 [] [] m1 := by
    cases hf
    exact zr_vret dX4_takeOfLesson_41
  clear hf
  have hf := hg
  clear hg
  refine zr_icmp_ne 22 dX4_takeOfLesson_3 (by decide) (fun hc => ?_) (fun hc => ?_)
  · rw [if_neg hc] at hf
    refine zr_aload_n 0 dX4_takeOfLesson_22 rfl ?_
    replace hf := zb1_s hf
    obtain ⟨v3, h4, hf⟩ := hf
    refine zr_get (zm_gR_g h4) zk4 (by decide) zl_259 dX4_takeOfLesson_23 ?_
    refine zr_aload_n 0 dX4_takeOfLesson_26 rfl ?_
    replace hf := zb1_s hf
    obtain ⟨v5, h6, hf⟩ := hf
    refine zr_get (zm_gR_g h6) zk4 (by decide) zl_273 dX4_takeOfLesson_27 ?_
    refine zr_iconst 0 dX4_takeOfLesson_30 (by decide) ?_
    replace hf := zb1_s hf
    obtain ⟨v7, h8, hf⟩ := hf
    refine zr_iald h8 dX4_takeOfLesson_31 ?_
    refine zr_aload_n 0 dX4_takeOfLesson_32 rfl ?_
    replace hf := zb1_s hf
    obtain ⟨v9, h10, hf⟩ := hf
    refine zr_get (zm_gR_g h10) zk4 (by decide) zl_273 dX4_takeOfLesson_33 ?_
    refine zr_iconst 1 dX4_takeOfLesson_36 (by decide) ?_
    replace hf := zb1_s hf
    obtain ⟨v11, h12, hf⟩ := hf
    refine zr_iald h12 dX4_takeOfLesson_37 ?_
    replace hf := zb1_s hf
    obtain ⟨m14, h13, hf⟩ := hf
    refine zr_callV (ci := 3) [.int v7, .int v11] (cX3_add_ok h13) zvs_X3_add zl_326 zl_327 (fX3_add_ck h13) rfl rfl zl_325 rfl (Nat.le_of_ble_eq_true rfl) (Nat.le_of_ble_eq_true rfl) (Nat.le_of_ble_eq_true rfl) (Nat.le_of_ble_eq_true rfl) dX4_takeOfLesson_38 rfl ?_
    cases hf
    exact zr_lv [] rfl hj2
  · rw [if_pos hc] at hf
    refine zr_aload_n 0 dX4_takeOfLesson_6 rfl ?_
    replace hf := zb1_s hf
    obtain ⟨v15, h16, hf⟩ := hf
    refine zr_get (zm_gR_g h16) zk4 (by decide) zl_259 dX4_takeOfLesson_7 ?_
    refine zr_aload_n 0 dX4_takeOfLesson_10 rfl ?_
    replace hf := zb1_s hf
    obtain ⟨v17, h18, hf⟩ := hf
    refine zr_get (zm_gR_g h18) zk4 (by decide) zl_273 dX4_takeOfLesson_11 ?_
    refine zr_iconst 0 dX4_takeOfLesson_14 (by decide) ?_
    replace hf := zb1_s hf
    obtain ⟨v19, h20, hf⟩ := hf
    refine zr_iald h20 dX4_takeOfLesson_15 ?_
    replace hf := zb1_s hf
    obtain ⟨m21, h22, hf⟩ := hf
    refine zr_put h22 zk3 (by decide) zl_328 rfl rfl rfl dX4_takeOfLesson_16 ?_
    refine zr_goto 41 dX4_takeOfLesson_19 (by decide) ?_
    cases hf
    exact zr_lv [] rfl hj2
theorem dX9_addSky_0 : decode cX9_addSky 0 = .ok (.aload_n 0, 1) := by decide +kernel
theorem dX9_addSky_1 : decode cX9_addSky 1 = .ok (.getfield 49, 3) := by decide +kernel
theorem dX9_addSky_4 : decode cX9_addSky 4 = .ok (.iconst 4, 1) := by decide +kernel
theorem dX9_addSky_5 : decode cX9_addSky 5 = .ok (.if_icmp .lt 4, 3) := by decide +kernel
theorem dX9_addSky_8 : decode cX9_addSky 8 = .ok (.return_, 1) := by decide +kernel
theorem dX9_addSky_9 : decode cX9_addSky 9 = .ok (.aload_n 0, 1) := by decide +kernel
theorem dX9_addSky_10 : decode cX9_addSky 10 = .ok (.getfield 30, 3) := by decide +kernel
theorem dX9_addSky_13 : decode cX9_addSky 13 = .ok (.aload_n 0, 1) := by decide +kernel
theorem dX9_addSky_14 : decode cX9_addSky 14 = .ok (.getfield 49, 3) := by decide +kernel
theorem dX9_addSky_17 : decode cX9_addSky 17 = .ok (.iload_n 1, 1) := by decide +kernel
theorem dX9_addSky_18 : decode cX9_addSky 18 = .ok (.iconst 1, 1) := by decide +kernel
theorem dX9_addSky_19 : decode cX9_addSky 19 = .ok (.if_icmp .ne 7, 3) := by decide +kernel
theorem dX9_addSky_22 : decode cX9_addSky 22 = .ok (.iconst 0, 1) := by decide +kernel
theorem dX9_addSky_23 : decode cX9_addSky 23 = .ok (.goto 4, 3) := by decide +kernel
theorem dX9_addSky_26 : decode cX9_addSky 26 = .ok (.iconst 1, 1) := by decide +kernel
theorem dX9_addSky_27 : decode cX9_addSky 27 = .ok (.iastore, 1) := by decide +kernel
theorem dX9_addSky_28 : decode cX9_addSky 28 = .ok (.aload_n 0, 1) := by decide +kernel
theorem dX9_addSky_29 : decode cX9_addSky 29 = .ok (.getfield 33, 3) := by decide +kernel
theorem dX9_addSky_32 : decode cX9_addSky 32 = .ok (.aload_n 0, 1) := by decide +kernel
theorem dX9_addSky_33 : decode cX9_addSky 33 = .ok (.getfield 49, 3) := by decide +kernel
theorem dX9_addSky_36 : decode cX9_addSky 36 = .ok (.iload_n 2, 1) := by decide +kernel
theorem dX9_addSky_37 : decode cX9_addSky 37 = .ok (.iastore, 1) := by decide +kernel
theorem dX9_addSky_38 : decode cX9_addSky 38 = .ok (.aload_n 0, 1) := by decide +kernel
theorem dX9_addSky_39 : decode cX9_addSky 39 = .ok (.getfield 36, 3) := by decide +kernel
theorem dX9_addSky_42 : decode cX9_addSky 42 = .ok (.aload_n 0, 1) := by decide +kernel
theorem dX9_addSky_43 : decode cX9_addSky 43 = .ok (.getfield 49, 3) := by decide +kernel
theorem dX9_addSky_46 : decode cX9_addSky 46 = .ok (.iload_n 3, 1) := by decide +kernel
theorem dX9_addSky_47 : decode cX9_addSky 47 = .ok (.iastore, 1) := by decide +kernel
theorem dX9_addSky_48 : decode cX9_addSky 48 = .ok (.aload_n 0, 1) := by decide +kernel
theorem dX9_addSky_49 : decode cX9_addSky 49 = .ok (.dup, 1) := by decide +kernel
theorem dX9_addSky_50 : decode cX9_addSky 50 = .ok (.getfield 49, 3) := by decide +kernel
theorem dX9_addSky_53 : decode cX9_addSky 53 = .ok (.iconst 1, 1) := by decide +kernel
theorem dX9_addSky_54 : decode cX9_addSky 54 = .ok (.iadd, 1) := by decide +kernel
theorem dX9_addSky_55 : decode cX9_addSky 55 = .ok (.putfield 49, 3) := by decide +kernel
theorem dX9_addSky_58 : decode cX9_addSky 58 = .ok (.iload_n 2, 1) := by decide +kernel
theorem dX9_addSky_59 : decode cX9_addSky 59 = .ok (.istore 4, 2) := by decide +kernel
theorem dX9_addSky_61 : decode cX9_addSky 61 = .ok (.iload 4, 2) := by decide +kernel
theorem dX9_addSky_63 : decode cX9_addSky 63 = .ok (.iload_n 3, 1) := by decide +kernel
theorem dX9_addSky_64 : decode cX9_addSky 64 = .ok (.if_icmp .gt 27, 3) := by decide +kernel
theorem dX9_addSky_67 : decode cX9_addSky 67 = .ok (.iload 4, 2) := by decide +kernel
theorem dX9_addSky_69 : decode cX9_addSky 69 = .ok (.bipush 100, 2) := by decide +kernel
theorem dX9_addSky_71 : decode cX9_addSky 71 = .ok (.if_icmp .ge 20, 3) := by decide +kernel
theorem dX9_addSky_74 : decode cX9_addSky 74 = .ok (.aload_n 0, 1) := by decide +kernel
theorem dX9_addSky_75 : decode cX9_addSky 75 = .ok (.getfield 39, 3) := by decide +kernel
theorem dX9_addSky_78 : decode cX9_addSky 78 = .ok (.iload 4, 2) := by decide +kernel
theorem dX9_addSky_80 : decode cX9_addSky 80 = .ok (.dup2, 1) := by decide +kernel
theorem dX9_addSky_81 : decode cX9_addSky 81 = .ok (.iaload, 1) := by decide +kernel
theorem dX9_addSky_82 : decode cX9_addSky 82 = .ok (.iload_n 1, 1) := by decide +kernel
theorem dX9_addSky_83 : decode cX9_addSky 83 = .ok (.ior, 1) := by decide +kernel
theorem dX9_addSky_84 : decode cX9_addSky 84 = .ok (.iastore, 1) := by decide +kernel
theorem dX9_addSky_85 : decode cX9_addSky 85 = .ok (.iinc 4 1, 3) := by decide +kernel
theorem dX9_addSky_88 : decode cX9_addSky 88 = .ok (.goto (-27), 3) := by decide +kernel
theorem dX9_addSky_91 : decode cX9_addSky 91 = .ok (.return_, 1) := by decide +kernel
def fX9_addSky_l61 (x3 : Int32) (x0 : Nat) (x1 : Int32) (F29 : Int32 → zM → Option (zM)) (x4_27 : Int32) (m28 : zM) : Option (zM) :=
  if x3 < x4_27 then (
  some m28)
  else (
  if 100 ≤ x4_27 then (
  some m28)
  else (
  zb1 (zm_gR m28 9 x0 12) fun v33 =>
  zb1 (zm_aI m28 0 v33 x4_27) fun v35 =>
  zb1 (zm_sI m28 0 v33 x4_27 (v35 ||| x1)) fun m37 =>
  F29 (x4_27 + 1) m37))
def fX9_addSky (μ : zM) (x0 : Nat) (x1 : Int32) (x2 : Int32) (x3 : Int32) : Option (zM) := zgd (zm_ck μ 9 x0) <|
  zb1 (zm_gI μ 9 x0 8) fun v1 =>
  if v1 < 4 then (
  zb1 (zm_gR μ 9 x0 9) fun v3 =>
  zb1 (zm_gI μ 9 x0 8) fun v5 =>
  zb1 (if x1 = 1 then (
  some 0)
  else (
  some 1)) fun s7 =>
  zb1 (zm_sI μ 0 v3 v5 s7) fun m9 =>
  zb1 (zm_gR m9 9 x0 10) fun v11 =>
  zb1 (zm_gI m9 9 x0 8) fun v13 =>
  zb1 (zm_sI m9 0 v11 v13 x2) fun m15 =>
  zb1 (zm_gR m15 9 x0 11) fun v17 =>
  zb1 (zm_gI m15 9 x0 8) fun v19 =>
  zb1 (zm_sI m15 0 v17 v19 x3) fun m21 =>
  zb1 (zm_gI m21 9 x0 8) fun v23 =>
  zb1 (zm_p m21 9 x0 8 (.int (v23 + 1))) fun m25 =>
  zb1 (zf2 (fX9_addSky_l61 x3 x0 x1) zfu x2 m25) fun m31 =>
  some m31)
  else (
  some μ)
theorem fX9_addSky_ck {μ : zM} {x0 : Nat} {x1 : Int32} {x2 : Int32} {x3 : Int32} {z : zM} (h : fX9_addSky μ x0 x1 x2 x3 = some z) : zm_ck μ 9 x0 = true := (zgd_s h).1
set_option maxHeartbeats 4000000 in
set_option maxRecDepth 100000 in
theorem cX9_addSky_ok {μ : zM} {x0 : Nat} {x1 : Int32} {x2 : Int32} {x3 : Int32} {mo : zM} (hf : fX9_addSky μ x0 x1 x2 x3 = some mo) : zC yX9_addSky cX9_addSky 5 (none) 0 0 0 [.ref x0, .int x1, .int x2, .int x3] μ (none) mo := by
  replace hf := (zgd_s hf).2
  refine zC.of (by decide) (Nat.le_of_ble_eq_true rfl) (fun K hin => ?_)
  clear hin
  show zz K cX9_addSky (5, RX9, none, 0, 0, 0, none, mo) 0 0 0 [(0, .ref x0), (1, .int x1), (2, .int x2), (3, .int x3)] [] μ
  refine zr_aload_n 0 dX9_addSky_0 rfl ?_
  replace hf := zb1_s hf
  obtain ⟨v1, h2, hf⟩ := hf
  refine zr_get (zm_gI_g h2) zk9 (by decide) zl_276 dX9_addSky_1 ?_
  refine zr_iconst 4 dX9_addSky_4 (by decide) ?_
  refine zr_icmp_lt 9 dX9_addSky_5 (by decide) (fun hc => ?_) (fun hc => ?_)
  · rw [if_pos hc] at hf
    refine zr_aload_n 0 dX9_addSky_9 rfl ?_
    replace hf := zb1_s hf
    obtain ⟨v3, h4, hf⟩ := hf
    refine zr_get (zm_gR_g h4) zk9 (by decide) zl_232 dX9_addSky_10 ?_
    refine zr_aload_n 0 dX9_addSky_13 rfl ?_
    replace hf := zb1_s hf
    obtain ⟨v5, h6, hf⟩ := hf
    refine zr_get (zm_gI_g h6) zk9 (by decide) zl_276 dX9_addSky_14 ?_
    refine zr_iload_n 1 dX9_addSky_17 rfl ?_
    refine zr_iconst 1 dX9_addSky_18 (by decide) ?_
    replace hf := zb1_s hf
    obtain ⟨s7, hg, hf⟩ := hf
    have hj8 : zz K cX9_addSky (5, RX9, none, 0, 0, 0, none, mo) 0 0 27 [(0, .ref x0), (1, .int x1), (2, .int x2), (3, .int x3)] [.int s7, .int v5, .ref v3] μ := by
      replace hf := zb1_s hf
      obtain ⟨m9, h10, hf⟩ := hf
      refine zr_iast h10 dX9_addSky_27 ?_
      refine zr_aload_n 0 dX9_addSky_28 rfl ?_
      replace hf := zb1_s hf
      obtain ⟨v11, h12, hf⟩ := hf
      refine zr_get (zm_gR_g h12) zk9 (by decide) zl_233 dX9_addSky_29 ?_
      refine zr_aload_n 0 dX9_addSky_32 rfl ?_
      replace hf := zb1_s hf
      obtain ⟨v13, h14, hf⟩ := hf
      refine zr_get (zm_gI_g h14) zk9 (by decide) zl_276 dX9_addSky_33 ?_
      refine zr_iload_n 2 dX9_addSky_36 rfl ?_
      replace hf := zb1_s hf
      obtain ⟨m15, h16, hf⟩ := hf
      refine zr_iast h16 dX9_addSky_37 ?_
      refine zr_aload_n 0 dX9_addSky_38 rfl ?_
      replace hf := zb1_s hf
      obtain ⟨v17, h18, hf⟩ := hf
      refine zr_get (zm_gR_g h18) zk9 (by decide) zl_234 dX9_addSky_39 ?_
      refine zr_aload_n 0 dX9_addSky_42 rfl ?_
      replace hf := zb1_s hf
      obtain ⟨v19, h20, hf⟩ := hf
      refine zr_get (zm_gI_g h20) zk9 (by decide) zl_276 dX9_addSky_43 ?_
      refine zr_iload_n 3 dX9_addSky_46 rfl ?_
      replace hf := zb1_s hf
      obtain ⟨m21, h22, hf⟩ := hf
      refine zr_iast h22 dX9_addSky_47 ?_
      refine zr_aload_n 0 dX9_addSky_48 rfl ?_
      refine zr_dup dX9_addSky_49 rfl ?_
      replace hf := zb1_s hf
      obtain ⟨v23, h24, hf⟩ := hf
      refine zr_get (zm_gI_g h24) zk9 (by decide) zl_276 dX9_addSky_50 ?_
      refine zr_iconst 1 dX9_addSky_53 (by decide) ?_
      refine zr_iadd dX9_addSky_54 ?_
      replace hf := zb1_s hf
      obtain ⟨m25, h26, hf⟩ := hf
      refine zr_put h26 zk9 (by decide) zl_276 rfl rfl rfl dX9_addSky_55 ?_
      refine zr_iload_n 2 dX9_addSky_58 rfl ?_
      refine zr_istore [(4, .int x2), (0, .ref x0), (1, .int x1), (2, .int x2), (3, .int x3)] dX9_addSky_59 (Nat.le_of_ble_eq_true rfl) rfl ?_
      replace hf := zb1_s hf
      obtain ⟨m31, hg, hf⟩ := hf
      have hj32 : zz K cX9_addSky (5, RX9, none, 0, 0, 0, none, mo) 0 0 91 [] [] m31 := by
        cases hf
        exact zr_vret dX9_addSky_91
      clear hf
      have hf := hg
      clear hg
      have hL39 : ∀ (n : Nat) (x4_27 : Int32) (m28 : zM), zf2 (fX9_addSky_l61 x3 x0 x1) n x4_27 m28 = some m31 → zz K cX9_addSky (5, RX9, none, 0, 0, 0, none, mo) 0 0 61 [(0, .ref x0), (1, .int x1), (3, .int x3), (4, .int x4_27)] [] m28 := by
        intro n
        induction n with
        | zero => intro x4_27 m28 hf; cases hf
        | succ n ih30 =>
          intro x4_27 m28 hf
          replace hf := zf2_s hf
          generalize zf2 (fX9_addSky_l61 x3 x0 x1) n = F29 at hf ih30
          unfold fX9_addSky_l61 at hf
          refine zr_iload 3 dX9_addSky_61 rfl ?_
          refine zr_iload_n 2 dX9_addSky_63 rfl ?_
          refine zr_icmp_gt 91 dX9_addSky_64 (by decide) (fun hc => ?_) (fun hc => ?_)
          · rw [if_pos hc] at hf
            cases hf
            exact zr_lv [] rfl hj32
          · rw [if_neg hc] at hf
            refine zr_iload 3 dX9_addSky_67 rfl ?_
            refine zr_bipush 100 dX9_addSky_69 (by decide) ?_
            refine zr_icmp_ge 91 dX9_addSky_71 (by decide) (fun hc => ?_) (fun hc => ?_)
            · rw [if_pos hc] at hf
              cases hf
              exact zr_lv [] rfl hj32
            · rw [if_neg hc] at hf
              refine zr_aload_n 0 dX9_addSky_74 rfl ?_
              replace hf := zb1_s hf
              obtain ⟨v33, h34, hf⟩ := hf
              refine zr_get (zm_gR_g h34) zk9 (by decide) zl_7 dX9_addSky_75 ?_
              refine zr_iload 3 dX9_addSky_78 rfl ?_
              refine zr_dup2 dX9_addSky_80 rfl rfl ?_
              replace hf := zb1_s hf
              obtain ⟨v35, h36, hf⟩ := hf
              refine zr_iald h36 dX9_addSky_81 ?_
              refine zr_iload_n 1 dX9_addSky_82 rfl ?_
              refine zr_ior dX9_addSky_83 ?_
              replace hf := zb1_s hf
              obtain ⟨m37, h38, hf⟩ := hf
              refine zr_iast h38 dX9_addSky_84 ?_
              refine zr_iinc (j := 3) (x4_27 + 1) [(4, .int (x4_27 + 1)), (0, .ref x0), (1, .int x1), (3, .int x3)] dX9_addSky_85 rfl rfl (Nat.le_of_ble_eq_true rfl) rfl ?_
              refine zr_goto 61 dX9_addSky_88 (by decide) ?_
              exact zr_lv [1, 2, 3, 0] rfl (ih30 (x4_27 + 1) m37 hf)
      exact zr_lv [1, 2, 4, 0] rfl (hL39 _ x2 m25 hf)
    clear hf
    have hf := hg
    clear hg
    refine zr_icmp_ne 26 dX9_addSky_19 (by decide) (fun hc => ?_) (fun hc => ?_)
    · rw [if_neg hc] at hf
      refine zr_iconst 1 dX9_addSky_26 (by decide) ?_
      cases hf
      exact zr_lv [0, 1, 2, 3] rfl hj8
    · rw [if_pos hc] at hf
      refine zr_iconst 0 dX9_addSky_22 (by decide) ?_
      refine zr_goto 27 dX9_addSky_23 (by decide) ?_
      cases hf
      exact zr_lv [0, 1, 2, 3] rfl hj8
  · rw [if_neg hc] at hf
    cases hf
    exact zr_vret dX9_addSky_8
theorem dX9_addPerson_0 : decode cX9_addPerson 0 = .ok (.aload_n 0, 1) := by decide +kernel
theorem dX9_addPerson_1 : decode cX9_addPerson 1 = .ok (.getfield 46, 3) := by decide +kernel
theorem dX9_addPerson_4 : decode cX9_addPerson 4 = .ok (.bipush 6, 2) := by decide +kernel
theorem dX9_addPerson_6 : decode cX9_addPerson 6 = .ok (.if_icmp .lt 4, 3) := by decide +kernel
theorem dX9_addPerson_9 : decode cX9_addPerson 9 = .ok (.return_, 1) := by decide +kernel
theorem dX9_addPerson_10 : decode cX9_addPerson 10 = .ok (.aload_n 0, 1) := by decide +kernel
theorem dX9_addPerson_11 : decode cX9_addPerson 11 = .ok (.getfield 21, 3) := by decide +kernel
theorem dX9_addPerson_14 : decode cX9_addPerson 14 = .ok (.aload_n 0, 1) := by decide +kernel
theorem dX9_addPerson_15 : decode cX9_addPerson 15 = .ok (.getfield 46, 3) := by decide +kernel
theorem dX9_addPerson_18 : decode cX9_addPerson 18 = .ok (.iload_n 1, 1) := by decide +kernel
theorem dX9_addPerson_19 : decode cX9_addPerson 19 = .ok (.iastore, 1) := by decide +kernel
theorem dX9_addPerson_20 : decode cX9_addPerson 20 = .ok (.aload_n 0, 1) := by decide +kernel
theorem dX9_addPerson_21 : decode cX9_addPerson 21 = .ok (.getfield 24, 3) := by decide +kernel
theorem dX9_addPerson_24 : decode cX9_addPerson 24 = .ok (.aload_n 0, 1) := by decide +kernel
theorem dX9_addPerson_25 : decode cX9_addPerson 25 = .ok (.getfield 46, 3) := by decide +kernel
theorem dX9_addPerson_28 : decode cX9_addPerson 28 = .ok (.iload_n 2, 1) := by decide +kernel
theorem dX9_addPerson_29 : decode cX9_addPerson 29 = .ok (.iastore, 1) := by decide +kernel
theorem dX9_addPerson_30 : decode cX9_addPerson 30 = .ok (.aload_n 0, 1) := by decide +kernel
theorem dX9_addPerson_31 : decode cX9_addPerson 31 = .ok (.getfield 27, 3) := by decide +kernel
theorem dX9_addPerson_34 : decode cX9_addPerson 34 = .ok (.aload_n 0, 1) := by decide +kernel
theorem dX9_addPerson_35 : decode cX9_addPerson 35 = .ok (.getfield 46, 3) := by decide +kernel
theorem dX9_addPerson_38 : decode cX9_addPerson 38 = .ok (.iload_n 3, 1) := by decide +kernel
theorem dX9_addPerson_39 : decode cX9_addPerson 39 = .ok (.iastore, 1) := by decide +kernel
theorem dX9_addPerson_40 : decode cX9_addPerson 40 = .ok (.aload_n 0, 1) := by decide +kernel
theorem dX9_addPerson_41 : decode cX9_addPerson 41 = .ok (.dup, 1) := by decide +kernel
theorem dX9_addPerson_42 : decode cX9_addPerson 42 = .ok (.getfield 46, 3) := by decide +kernel
theorem dX9_addPerson_45 : decode cX9_addPerson 45 = .ok (.iconst 1, 1) := by decide +kernel
theorem dX9_addPerson_46 : decode cX9_addPerson 46 = .ok (.iadd, 1) := by decide +kernel
theorem dX9_addPerson_47 : decode cX9_addPerson 47 = .ok (.putfield 46, 3) := by decide +kernel
theorem dX9_addPerson_50 : decode cX9_addPerson 50 = .ok (.return_, 1) := by decide +kernel
def fX9_addPerson (μ : zM) (x0 : Nat) (x1 : Int32) (x2 : Int32) (x3 : Int32) : Option (zM) := zgd (zm_ck μ 9 x0) <|
  zb1 (zm_gI μ 9 x0 4) fun v1 =>
  if v1 < 6 then (
  zb1 (zm_gR μ 9 x0 5) fun v3 =>
  zb1 (zm_gI μ 9 x0 4) fun v5 =>
  zb1 (zm_sI μ 0 v3 v5 x1) fun m7 =>
  zb1 (zm_gR m7 9 x0 6) fun v9 =>
  zb1 (zm_gI m7 9 x0 4) fun v11 =>
  zb1 (zm_sI m7 0 v9 v11 x2) fun m13 =>
  zb1 (zm_gR m13 9 x0 7) fun v15 =>
  zb1 (zm_gI m13 9 x0 4) fun v17 =>
  zb1 (zm_sI m13 0 v15 v17 x3) fun m19 =>
  zb1 (zm_gI m19 9 x0 4) fun v21 =>
  zb1 (zm_p m19 9 x0 4 (.int (v21 + 1))) fun m23 =>
  some m23)
  else (
  some μ)
theorem fX9_addPerson_ck {μ : zM} {x0 : Nat} {x1 : Int32} {x2 : Int32} {x3 : Int32} {z : zM} (h : fX9_addPerson μ x0 x1 x2 x3 = some z) : zm_ck μ 9 x0 = true := (zgd_s h).1
set_option maxHeartbeats 4000000 in
set_option maxRecDepth 100000 in
theorem cX9_addPerson_ok {μ : zM} {x0 : Nat} {x1 : Int32} {x2 : Int32} {x3 : Int32} {mo : zM} (hf : fX9_addPerson μ x0 x1 x2 x3 = some mo) : zC yX9_addPerson cX9_addPerson 4 (none) 0 0 0 [.ref x0, .int x1, .int x2, .int x3] μ (none) mo := by
  replace hf := (zgd_s hf).2
  refine zC.of (by decide) (Nat.le_of_ble_eq_true rfl) (fun K hin => ?_)
  clear hin
  show zz K cX9_addPerson (4, RX9, none, 0, 0, 0, none, mo) 0 0 0 [(0, .ref x0), (1, .int x1), (2, .int x2), (3, .int x3)] [] μ
  refine zr_aload_n 0 dX9_addPerson_0 rfl ?_
  replace hf := zb1_s hf
  obtain ⟨v1, h2, hf⟩ := hf
  refine zr_get (zm_gI_g h2) zk9 (by decide) zl_103 dX9_addPerson_1 ?_
  refine zr_bipush 6 dX9_addPerson_4 (by decide) ?_
  refine zr_icmp_lt 10 dX9_addPerson_6 (by decide) (fun hc => ?_) (fun hc => ?_)
  · rw [if_pos hc] at hf
    refine zr_aload_n 0 dX9_addPerson_10 rfl ?_
    replace hf := zb1_s hf
    obtain ⟨v3, h4, hf⟩ := hf
    refine zr_get (zm_gR_g h4) zk9 (by decide) zl_229 dX9_addPerson_11 ?_
    refine zr_aload_n 0 dX9_addPerson_14 rfl ?_
    replace hf := zb1_s hf
    obtain ⟨v5, h6, hf⟩ := hf
    refine zr_get (zm_gI_g h6) zk9 (by decide) zl_103 dX9_addPerson_15 ?_
    refine zr_iload_n 1 dX9_addPerson_18 rfl ?_
    replace hf := zb1_s hf
    obtain ⟨m7, h8, hf⟩ := hf
    refine zr_iast h8 dX9_addPerson_19 ?_
    refine zr_aload_n 0 dX9_addPerson_20 rfl ?_
    replace hf := zb1_s hf
    obtain ⟨v9, h10, hf⟩ := hf
    refine zr_get (zm_gR_g h10) zk9 (by decide) zl_230 dX9_addPerson_21 ?_
    refine zr_aload_n 0 dX9_addPerson_24 rfl ?_
    replace hf := zb1_s hf
    obtain ⟨v11, h12, hf⟩ := hf
    refine zr_get (zm_gI_g h12) zk9 (by decide) zl_103 dX9_addPerson_25 ?_
    refine zr_iload_n 2 dX9_addPerson_28 rfl ?_
    replace hf := zb1_s hf
    obtain ⟨m13, h14, hf⟩ := hf
    refine zr_iast h14 dX9_addPerson_29 ?_
    refine zr_aload_n 0 dX9_addPerson_30 rfl ?_
    replace hf := zb1_s hf
    obtain ⟨v15, h16, hf⟩ := hf
    refine zr_get (zm_gR_g h16) zk9 (by decide) zl_231 dX9_addPerson_31 ?_
    refine zr_aload_n 0 dX9_addPerson_34 rfl ?_
    replace hf := zb1_s hf
    obtain ⟨v17, h18, hf⟩ := hf
    refine zr_get (zm_gI_g h18) zk9 (by decide) zl_103 dX9_addPerson_35 ?_
    refine zr_iload_n 3 dX9_addPerson_38 rfl ?_
    replace hf := zb1_s hf
    obtain ⟨m19, h20, hf⟩ := hf
    refine zr_iast h20 dX9_addPerson_39 ?_
    refine zr_aload_n 0 dX9_addPerson_40 rfl ?_
    refine zr_dup dX9_addPerson_41 rfl ?_
    replace hf := zb1_s hf
    obtain ⟨v21, h22, hf⟩ := hf
    refine zr_get (zm_gI_g h22) zk9 (by decide) zl_103 dX9_addPerson_42 ?_
    refine zr_iconst 1 dX9_addPerson_45 (by decide) ?_
    refine zr_iadd dX9_addPerson_46 ?_
    replace hf := zb1_s hf
    obtain ⟨m23, h24, hf⟩ := hf
    refine zr_put h24 zk9 (by decide) zl_103 rfl rfl rfl dX9_addPerson_47 ?_
    cases hf
    exact zr_vret dX9_addPerson_50
  · rw [if_neg hc] at hf
    cases hf
    exact zr_vret dX9_addPerson_9
theorem dX11_isWord_0 : decode cX11_isWord 0 = .ok (.iload_n 0, 1) := by decide +kernel
theorem dX11_isWord_1 : decode cX11_isWord 1 = .ok (.ifCond .lt 13, 3) := by decide +kernel
theorem dX11_isWord_4 : decode cX11_isWord 4 = .ok (.iload_n 0, 1) := by decide +kernel
theorem dX11_isWord_5 : decode cX11_isWord 5 = .ok (.bipush 8, 2) := by decide +kernel
theorem dX11_isWord_7 : decode cX11_isWord 7 = .ok (.if_icmp .ge 7, 3) := by decide +kernel
theorem dX11_isWord_10 : decode cX11_isWord 10 = .ok (.iconst 1, 1) := by decide +kernel
theorem dX11_isWord_11 : decode cX11_isWord 11 = .ok (.goto 4, 3) := by decide +kernel
theorem dX11_isWord_14 : decode cX11_isWord 14 = .ok (.iconst 0, 1) := by decide +kernel
theorem dX11_isWord_15 : decode cX11_isWord 15 = .ok (.ireturn, 1) := by decide +kernel
def fX11_isWord (μ : zM) (x0 : Int32) : Option (Int32) :=
  zb1 (if x0 < 0 then (
  some 0)
  else (
  if 8 ≤ x0 then (
  some 0)
  else (
  some 1))) fun s1 =>
  zb1 (zbz s1) fun v3 =>
  some v3
set_option maxHeartbeats 4000000 in
set_option maxRecDepth 100000 in
theorem cX11_isWord_ok {μ : zM} {x0 : Int32} {r : Int32} (hf : fX11_isWord μ x0 = some r) : zC yX11_isWord cX11_isWord 1 (some .boolean) 0 0 0 [.int x0] μ (some (.int r)) μ := by
  unfold fX11_isWord at hf
  refine zC.of (by decide) (Nat.le_of_ble_eq_true rfl) (fun K hin => ?_)
  clear hin
  show zz K cX11_isWord (1, RX11, some .boolean, 0, 0, 0, some (.int r), μ) 0 0 0 [(0, .int x0)] [] μ
  refine zr_iload_n 0 dX11_isWord_0 rfl ?_
  replace hf := zb1_s hf
  obtain ⟨s1, hg, hf⟩ := hf
  have hj2 : zz K cX11_isWord (1, RX11, some .boolean, 0, 0, 0, some (.int r), μ) 0 0 15 [] [.int s1] μ := by
    replace hf := zb1_s hf
    obtain ⟨v3, hn4, hf⟩ := hf
    obtain ⟨hn4, rfl⟩ := zbz_s hn4
    cases hf
    exact zr_zret hn4 dX11_isWord_15
  clear hf
  have hf := hg
  clear hg
  refine zr_if_lt 14 dX11_isWord_1 (by decide) (fun hc => ?_) (fun hc => ?_)
  · rw [if_pos hc] at hf
    refine zr_iconst 0 dX11_isWord_14 (by decide) ?_
    cases hf
    exact zr_lv [] rfl hj2
  · rw [if_neg hc] at hf
    refine zr_iload_n 0 dX11_isWord_4 rfl ?_
    refine zr_bipush 8 dX11_isWord_5 (by decide) ?_
    refine zr_icmp_ge 14 dX11_isWord_7 (by decide) (fun hc => ?_) (fun hc => ?_)
    · rw [if_pos hc] at hf
      refine zr_iconst 0 dX11_isWord_14 (by decide) ?_
      cases hf
      exact zr_lv [] rfl hj2
    · rw [if_neg hc] at hf
      refine zr_iconst 1 dX11_isWord_10 (by decide) ?_
      refine zr_goto 15 dX11_isWord_11 (by decide) ?_
      cases hf
      exact zr_lv [] rfl hj2
theorem zl_329 : Cond.fieldLink RX4 183 "TwoEchoes$Valley" "weight" "[I" ∈ zt := zt_at 186 (by decide +kernel)
theorem zl_330 : Cond.fieldLink RX4 180 "TwoEchoes$Valley" "thought" "[I" ∈ zt := zt_at 182 (by decide +kernel)
theorem zl_331 : Cond.fieldLink RX4 177 "TwoEchoes$Valley" "should" "[I" ∈ zt := zt_at 179 (by decide +kernel)
theorem dX4_takeOfWord_0 : decode cX4_takeOfWord 0 = .ok (.iload_n 1, 1) := by decide +kernel
theorem dX4_takeOfWord_1 : decode cX4_takeOfWord 1 = .ok (.iconst 1, 1) := by decide +kernel
theorem dX4_takeOfWord_2 : decode cX4_takeOfWord 2 = .ok (.if_icmp .ne 16, 3) := by decide +kernel
theorem dX4_takeOfWord_5 : decode cX4_takeOfWord 5 = .ok (.aload_n 0, 1) := by decide +kernel
theorem dX4_takeOfWord_6 : decode cX4_takeOfWord 6 = .ok (.getfield 12, 3) := by decide +kernel
theorem dX4_takeOfWord_9 : decode cX4_takeOfWord 9 = .ok (.getfield 177, 3) := by decide +kernel
theorem dX4_takeOfWord_12 : decode cX4_takeOfWord 12 = .ok (.iload_n 2, 1) := by decide +kernel
theorem dX4_takeOfWord_13 : decode cX4_takeOfWord 13 = .ok (.iload_n 3, 1) := by decide +kernel
theorem dX4_takeOfWord_14 : decode cX4_takeOfWord 14 = .ok (.iastore, 1) := by decide +kernel
theorem dX4_takeOfWord_15 : decode cX4_takeOfWord 15 = .ok (.goto 36, 3) := by decide +kernel
theorem dX4_takeOfWord_18 : decode cX4_takeOfWord 18 = .ok (.iload_n 1, 1) := by decide +kernel
theorem dX4_takeOfWord_19 : decode cX4_takeOfWord 19 = .ok (.iconst 2, 1) := by decide +kernel
theorem dX4_takeOfWord_20 : decode cX4_takeOfWord 20 = .ok (.if_icmp .ne 16, 3) := by decide +kernel
theorem dX4_takeOfWord_23 : decode cX4_takeOfWord 23 = .ok (.aload_n 0, 1) := by decide +kernel
theorem dX4_takeOfWord_24 : decode cX4_takeOfWord 24 = .ok (.getfield 12, 3) := by decide +kernel
theorem dX4_takeOfWord_27 : decode cX4_takeOfWord 27 = .ok (.getfield 180, 3) := by decide +kernel
theorem dX4_takeOfWord_30 : decode cX4_takeOfWord 30 = .ok (.iload_n 2, 1) := by decide +kernel
theorem dX4_takeOfWord_31 : decode cX4_takeOfWord 31 = .ok (.iload_n 3, 1) := by decide +kernel
theorem dX4_takeOfWord_32 : decode cX4_takeOfWord 32 = .ok (.iastore, 1) := by decide +kernel
theorem dX4_takeOfWord_33 : decode cX4_takeOfWord 33 = .ok (.goto 18, 3) := by decide +kernel
theorem dX4_takeOfWord_36 : decode cX4_takeOfWord 36 = .ok (.iload_n 1, 1) := by decide +kernel
theorem dX4_takeOfWord_37 : decode cX4_takeOfWord 37 = .ok (.iconst 3, 1) := by decide +kernel
theorem dX4_takeOfWord_38 : decode cX4_takeOfWord 38 = .ok (.if_icmp .ne 13, 3) := by decide +kernel
theorem dX4_takeOfWord_41 : decode cX4_takeOfWord 41 = .ok (.aload_n 0, 1) := by decide +kernel
theorem dX4_takeOfWord_42 : decode cX4_takeOfWord 42 = .ok (.getfield 12, 3) := by decide +kernel
theorem dX4_takeOfWord_45 : decode cX4_takeOfWord 45 = .ok (.getfield 183, 3) := by decide +kernel
theorem dX4_takeOfWord_48 : decode cX4_takeOfWord 48 = .ok (.iload_n 2, 1) := by decide +kernel
theorem dX4_takeOfWord_49 : decode cX4_takeOfWord 49 = .ok (.iload_n 3, 1) := by decide +kernel
theorem dX4_takeOfWord_50 : decode cX4_takeOfWord 50 = .ok (.iastore, 1) := by decide +kernel
theorem dX4_takeOfWord_51 : decode cX4_takeOfWord 51 = .ok (.return_, 1) := by decide +kernel
def fX4_takeOfWord (μ : zM) (x0 : Nat) (x1 : Int32) (x2 : Int32) (x3 : Int32) : Option (zM) := zgd (zm_ck μ 4 x0) <|
  zb1 (if x1 = 1 then (
  zb1 (zm_gR μ 4 x0 0) fun v15 =>
  zb1 (zm_gR μ 9 v15 1) fun v17 =>
  zb1 (zm_sI μ 0 v17 x2 x3) fun m19 =>
  some m19)
  else (
  if x1 = 2 then (
  zb1 (zm_gR μ 4 x0 0) fun v9 =>
  zb1 (zm_gR μ 9 v9 2) fun v11 =>
  zb1 (zm_sI μ 0 v11 x2 x3) fun m13 =>
  some m13)
  else (
  if x1 = 3 then (
  zb1 (zm_gR μ 4 x0 0) fun v3 =>
  zb1 (zm_gR μ 9 v3 3) fun v5 =>
  zb1 (zm_sI μ 0 v5 x2 x3) fun m7 =>
  some m7)
  else (
  some μ)))) fun m1 =>
  some m1
theorem fX4_takeOfWord_ck {μ : zM} {x0 : Nat} {x1 : Int32} {x2 : Int32} {x3 : Int32} {z : zM} (h : fX4_takeOfWord μ x0 x1 x2 x3 = some z) : zm_ck μ 4 x0 = true := (zgd_s h).1
set_option maxHeartbeats 4000000 in
set_option maxRecDepth 100000 in
theorem cX4_takeOfWord_ok {μ : zM} {x0 : Nat} {x1 : Int32} {x2 : Int32} {x3 : Int32} {mo : zM} (hf : fX4_takeOfWord μ x0 x1 x2 x3 = some mo) : zC yX4_takeOfWord cX4_takeOfWord 4 (none) 0 0 0 [.ref x0, .int x1, .int x2, .int x3] μ (none) mo := by
  replace hf := (zgd_s hf).2
  refine zC.of (by decide) (Nat.le_of_ble_eq_true rfl) (fun K hin => ?_)
  clear hin
  show zz K cX4_takeOfWord (4, RX4, none, 0, 0, 0, none, mo) 0 0 0 [(0, .ref x0), (1, .int x1), (2, .int x2), (3, .int x3)] [] μ
  refine zr_iload_n 1 dX4_takeOfWord_0 rfl ?_
  refine zr_iconst 1 dX4_takeOfWord_1 (by decide) ?_
  replace hf := zb1_s hf
  obtain ⟨m1, hg, hf⟩ := hf
  have hj2 : zz K cX4_takeOfWord (4, RX4, none, 0, 0, 0, none, mo) 0 0 51 [] [] m1 := by
    cases hf
    exact zr_vret dX4_takeOfWord_51
  clear hf
  have hf := hg
  clear hg
  refine zr_icmp_ne 18 dX4_takeOfWord_2 (by decide) (fun hc => ?_) (fun hc => ?_)
  · rw [if_neg hc] at hf
    refine zr_iload_n 1 dX4_takeOfWord_18 rfl ?_
    refine zr_iconst 2 dX4_takeOfWord_19 (by decide) ?_
    refine zr_icmp_ne 36 dX4_takeOfWord_20 (by decide) (fun hc => ?_) (fun hc => ?_)
    · rw [if_neg hc] at hf
      refine zr_iload_n 1 dX4_takeOfWord_36 rfl ?_
      refine zr_iconst 3 dX4_takeOfWord_37 (by decide) ?_
      refine zr_icmp_ne 51 dX4_takeOfWord_38 (by decide) (fun hc => ?_) (fun hc => ?_)
      · rw [if_neg hc] at hf
        cases hf
        exact zr_lv [] rfl hj2
      · rw [if_pos hc] at hf
        refine zr_aload_n 0 dX4_takeOfWord_41 rfl ?_
        replace hf := zb1_s hf
        obtain ⟨v3, h4, hf⟩ := hf
        refine zr_get (zm_gR_g h4) zk4 (by decide) zl_246 dX4_takeOfWord_42 ?_
        replace hf := zb1_s hf
        obtain ⟨v5, h6, hf⟩ := hf
        refine zr_get (zm_gR_g h6) zk9 (by decide) zl_329 dX4_takeOfWord_45 ?_
        refine zr_iload_n 2 dX4_takeOfWord_48 rfl ?_
        refine zr_iload_n 3 dX4_takeOfWord_49 rfl ?_
        replace hf := zb1_s hf
        obtain ⟨m7, h8, hf⟩ := hf
        refine zr_iast h8 dX4_takeOfWord_50 ?_
        cases hf
        exact zr_lv [] rfl hj2
    · rw [if_pos hc] at hf
      refine zr_aload_n 0 dX4_takeOfWord_23 rfl ?_
      replace hf := zb1_s hf
      obtain ⟨v9, h10, hf⟩ := hf
      refine zr_get (zm_gR_g h10) zk4 (by decide) zl_246 dX4_takeOfWord_24 ?_
      replace hf := zb1_s hf
      obtain ⟨v11, h12, hf⟩ := hf
      refine zr_get (zm_gR_g h12) zk9 (by decide) zl_330 dX4_takeOfWord_27 ?_
      refine zr_iload_n 2 dX4_takeOfWord_30 rfl ?_
      refine zr_iload_n 3 dX4_takeOfWord_31 rfl ?_
      replace hf := zb1_s hf
      obtain ⟨m13, h14, hf⟩ := hf
      refine zr_iast h14 dX4_takeOfWord_32 ?_
      refine zr_goto 51 dX4_takeOfWord_33 (by decide) ?_
      cases hf
      exact zr_lv [] rfl hj2
  · rw [if_pos hc] at hf
    refine zr_aload_n 0 dX4_takeOfWord_5 rfl ?_
    replace hf := zb1_s hf
    obtain ⟨v15, h16, hf⟩ := hf
    refine zr_get (zm_gR_g h16) zk4 (by decide) zl_246 dX4_takeOfWord_6 ?_
    replace hf := zb1_s hf
    obtain ⟨v17, h18, hf⟩ := hf
    refine zr_get (zm_gR_g h18) zk9 (by decide) zl_331 dX4_takeOfWord_9 ?_
    refine zr_iload_n 2 dX4_takeOfWord_12 rfl ?_
    refine zr_iload_n 3 dX4_takeOfWord_13 rfl ?_
    replace hf := zb1_s hf
    obtain ⟨m19, h20, hf⟩ := hf
    refine zr_iast h20 dX4_takeOfWord_14 ?_
    refine zr_goto 51 dX4_takeOfWord_15 (by decide) ?_
    cases hf
    exact zr_lv [] rfl hj2
theorem zl_332 : Cond.code yX11_isWord cX11_isWord 1 (some .boolean) ∈ zt := zt_at 715 (by decide +kernel)
theorem zvs_X11_isWord : zvS yX11_isWord cX11_isWord 1 (some .boolean) 1 := ⟨zl_332, zl_118, ⟨by decide +kernel, by decide +kernel, by decide +kernel⟩, by decide⟩
theorem zl_333 : Cond.methodLinkNest RX4 171 yX11_isWord "TwoEchoes" ∈ zn := zn_at 713 (by decide +kernel)
theorem zl_334 : Cond.static yX11_isWord ∈ zt := zt_at 714 (by decide +kernel)
theorem zl_335 : Cond.code yX4_takeOfWord cX4_takeOfWord 4 (none) ∈ zt := zt_at 719 (by decide +kernel)
theorem zvs_X4_takeOfWord : zvS yX4_takeOfWord cX4_takeOfWord 4 (none) 3 := ⟨zl_335, zl_296, ⟨by decide +kernel, by decide +kernel, by decide +kernel⟩, by decide⟩
theorem zl_336 : Cond.methodLink RX4 174 yX4_takeOfWord ∈ zt := zt_at 716 (by decide +kernel)
theorem zl_337 : Cond.instanceMethod yX4_takeOfWord ∈ zt := zt_at 718 (by decide +kernel)
theorem zl_338 : Cond.selects RX4 yX4_takeOfWord yX4_takeOfWord ∈ zt := zt_at 14 (by decide +kernel)
theorem zl_339 : Cond.fieldLink RX4 168 "TwoEchoes$Valley" "wide" "I" ∈ zt := zt_at 175 (by decide +kernel)
theorem zl_340 : Cond.code yX9_addPerson cX9_addPerson 4 (none) ∈ zt := zt_at 712 (by decide +kernel)
theorem zvs_X9_addPerson : zvS yX9_addPerson cX9_addPerson 4 (none) 3 := ⟨zl_340, zl_14, ⟨by decide +kernel, by decide +kernel, by decide +kernel⟩, by decide⟩
theorem zl_341 : Cond.methodLink RX4 165 yX9_addPerson ∈ zt := zt_at 709 (by decide +kernel)
theorem zl_342 : Cond.instanceMethod yX9_addPerson ∈ zt := zt_at 710 (by decide +kernel)
theorem zl_343 : Cond.selects RX9 yX9_addPerson yX9_addPerson ∈ zt := zt_at 711 (by decide +kernel)
theorem zl_344 : Cond.code yX9_addSky cX9_addSky 5 (none) ∈ zt := zt_at 708 (by decide +kernel)
theorem zvs_X9_addSky : zvS yX9_addSky cX9_addSky 5 (none) 3 := ⟨zl_344, zl_14, ⟨by decide +kernel, by decide +kernel, by decide +kernel⟩, by decide⟩
theorem zl_345 : Cond.methodLink RX4 162 yX9_addSky ∈ zt := zt_at 705 (by decide +kernel)
theorem zl_346 : Cond.instanceMethod yX9_addSky ∈ zt := zt_at 706 (by decide +kernel)
theorem zl_347 : Cond.selects RX9 yX9_addSky yX9_addSky ∈ zt := zt_at 707 (by decide +kernel)
theorem dX4_takeOfValley_0 : decode cX4_takeOfValley 0 = .ok (.iload_n 1, 1) := by decide +kernel
theorem dX4_takeOfValley_1 : decode cX4_takeOfValley 1 = .ok (.bipush 7, 2) := by decide +kernel
theorem dX4_takeOfValley_3 : decode cX4_takeOfValley 3 = .ok (.if_icmp .lt 36, 3) := by decide +kernel
theorem dX4_takeOfValley_6 : decode cX4_takeOfValley 6 = .ok (.aload_n 0, 1) := by decide +kernel
theorem dX4_takeOfValley_7 : decode cX4_takeOfValley 7 = .ok (.getfield 12, 3) := by decide +kernel
theorem dX4_takeOfValley_10 : decode cX4_takeOfValley 10 = .ok (.iload_n 1, 1) := by decide +kernel
theorem dX4_takeOfValley_11 : decode cX4_takeOfValley 11 = .ok (.bipush 7, 2) := by decide +kernel
theorem dX4_takeOfValley_13 : decode cX4_takeOfValley 13 = .ok (.if_icmp .ne 7, 3) := by decide +kernel
theorem dX4_takeOfValley_16 : decode cX4_takeOfValley 16 = .ok (.iconst 1, 1) := by decide +kernel
theorem dX4_takeOfValley_17 : decode cX4_takeOfValley 17 = .ok (.goto 4, 3) := by decide +kernel
theorem dX4_takeOfValley_20 : decode cX4_takeOfValley 20 = .ok (.iconst 2, 1) := by decide +kernel
theorem dX4_takeOfValley_21 : decode cX4_takeOfValley 21 = .ok (.aload_n 0, 1) := by decide +kernel
theorem dX4_takeOfValley_22 : decode cX4_takeOfValley 22 = .ok (.getfield 58, 3) := by decide +kernel
theorem dX4_takeOfValley_25 : decode cX4_takeOfValley 25 = .ok (.iconst 0, 1) := by decide +kernel
theorem dX4_takeOfValley_26 : decode cX4_takeOfValley 26 = .ok (.iaload, 1) := by decide +kernel
theorem dX4_takeOfValley_27 : decode cX4_takeOfValley 27 = .ok (.aload_n 0, 1) := by decide +kernel
theorem dX4_takeOfValley_28 : decode cX4_takeOfValley 28 = .ok (.getfield 58, 3) := by decide +kernel
theorem dX4_takeOfValley_31 : decode cX4_takeOfValley 31 = .ok (.iconst 1, 1) := by decide +kernel
theorem dX4_takeOfValley_32 : decode cX4_takeOfValley 32 = .ok (.iaload, 1) := by decide +kernel
theorem dX4_takeOfValley_33 : decode cX4_takeOfValley 33 = .ok (.invokevirtual 162, 3) := by decide +kernel
theorem dX4_takeOfValley_36 : decode cX4_takeOfValley 36 = .ok (.goto 82, 3) := by decide +kernel
theorem dX4_takeOfValley_39 : decode cX4_takeOfValley 39 = .ok (.iload_n 1, 1) := by decide +kernel
theorem dX4_takeOfValley_40 : decode cX4_takeOfValley 40 = .ok (.iconst 4, 1) := by decide +kernel
theorem dX4_takeOfValley_41 : decode cX4_takeOfValley 41 = .ok (.if_icmp .lt 28, 3) := by decide +kernel
theorem dX4_takeOfValley_44 : decode cX4_takeOfValley 44 = .ok (.aload_n 0, 1) := by decide +kernel
theorem dX4_takeOfValley_45 : decode cX4_takeOfValley 45 = .ok (.getfield 12, 3) := by decide +kernel
theorem dX4_takeOfValley_48 : decode cX4_takeOfValley 48 = .ok (.iload_n 1, 1) := by decide +kernel
theorem dX4_takeOfValley_49 : decode cX4_takeOfValley 49 = .ok (.iconst 4, 1) := by decide +kernel
theorem dX4_takeOfValley_50 : decode cX4_takeOfValley 50 = .ok (.isub, 1) := by decide +kernel
theorem dX4_takeOfValley_51 : decode cX4_takeOfValley 51 = .ok (.aload_n 0, 1) := by decide +kernel
theorem dX4_takeOfValley_52 : decode cX4_takeOfValley 52 = .ok (.getfield 58, 3) := by decide +kernel
theorem dX4_takeOfValley_55 : decode cX4_takeOfValley 55 = .ok (.iconst 0, 1) := by decide +kernel
theorem dX4_takeOfValley_56 : decode cX4_takeOfValley 56 = .ok (.iaload, 1) := by decide +kernel
theorem dX4_takeOfValley_57 : decode cX4_takeOfValley 57 = .ok (.aload_n 0, 1) := by decide +kernel
theorem dX4_takeOfValley_58 : decode cX4_takeOfValley 58 = .ok (.getfield 58, 3) := by decide +kernel
theorem dX4_takeOfValley_61 : decode cX4_takeOfValley 61 = .ok (.iconst 1, 1) := by decide +kernel
theorem dX4_takeOfValley_62 : decode cX4_takeOfValley 62 = .ok (.iaload, 1) := by decide +kernel
theorem dX4_takeOfValley_63 : decode cX4_takeOfValley 63 = .ok (.invokevirtual 165, 3) := by decide +kernel
theorem dX4_takeOfValley_66 : decode cX4_takeOfValley 66 = .ok (.goto 52, 3) := by decide +kernel
theorem dX4_takeOfValley_69 : decode cX4_takeOfValley 69 = .ok (.iload_n 1, 1) := by decide +kernel
theorem dX4_takeOfValley_70 : decode cX4_takeOfValley 70 = .ok (.ifCond .ne 19, 3) := by decide +kernel
theorem dX4_takeOfValley_73 : decode cX4_takeOfValley 73 = .ok (.aload_n 0, 1) := by decide +kernel
theorem dX4_takeOfValley_74 : decode cX4_takeOfValley 74 = .ok (.getfield 12, 3) := by decide +kernel
theorem dX4_takeOfValley_77 : decode cX4_takeOfValley 77 = .ok (.aload_n 0, 1) := by decide +kernel
theorem dX4_takeOfValley_78 : decode cX4_takeOfValley 78 = .ok (.getfield 58, 3) := by decide +kernel
theorem dX4_takeOfValley_81 : decode cX4_takeOfValley 81 = .ok (.iconst 0, 1) := by decide +kernel
theorem dX4_takeOfValley_82 : decode cX4_takeOfValley 82 = .ok (.iaload, 1) := by decide +kernel
theorem dX4_takeOfValley_83 : decode cX4_takeOfValley 83 = .ok (.putfield 168, 3) := by decide +kernel
theorem dX4_takeOfValley_86 : decode cX4_takeOfValley 86 = .ok (.goto 32, 3) := by decide +kernel
theorem dX4_takeOfValley_89 : decode cX4_takeOfValley 89 = .ok (.aload_n 0, 1) := by decide +kernel
theorem dX4_takeOfValley_90 : decode cX4_takeOfValley 90 = .ok (.getfield 58, 3) := by decide +kernel
theorem dX4_takeOfValley_93 : decode cX4_takeOfValley 93 = .ok (.iconst 0, 1) := by decide +kernel
theorem dX4_takeOfValley_94 : decode cX4_takeOfValley 94 = .ok (.iaload, 1) := by decide +kernel
theorem dX4_takeOfValley_95 : decode cX4_takeOfValley 95 = .ok (.invokestatic 171, 3) := by decide +kernel
theorem dX4_takeOfValley_98 : decode cX4_takeOfValley 98 = .ok (.ifCond .eq 20, 3) := by decide +kernel
theorem dX4_takeOfValley_101 : decode cX4_takeOfValley 101 = .ok (.aload_n 0, 1) := by decide +kernel
theorem dX4_takeOfValley_102 : decode cX4_takeOfValley 102 = .ok (.iload_n 1, 1) := by decide +kernel
theorem dX4_takeOfValley_103 : decode cX4_takeOfValley 103 = .ok (.aload_n 0, 1) := by decide +kernel
theorem dX4_takeOfValley_104 : decode cX4_takeOfValley 104 = .ok (.getfield 58, 3) := by decide +kernel
theorem dX4_takeOfValley_107 : decode cX4_takeOfValley 107 = .ok (.iconst 0, 1) := by decide +kernel
theorem dX4_takeOfValley_108 : decode cX4_takeOfValley 108 = .ok (.iaload, 1) := by decide +kernel
theorem dX4_takeOfValley_109 : decode cX4_takeOfValley 109 = .ok (.aload_n 0, 1) := by decide +kernel
theorem dX4_takeOfValley_110 : decode cX4_takeOfValley 110 = .ok (.getfield 58, 3) := by decide +kernel
theorem dX4_takeOfValley_113 : decode cX4_takeOfValley 113 = .ok (.iconst 1, 1) := by decide +kernel
theorem dX4_takeOfValley_114 : decode cX4_takeOfValley 114 = .ok (.iaload, 1) := by decide +kernel
theorem dX4_takeOfValley_115 : decode cX4_takeOfValley 115 = .ok (.invokevirtual 174, 3) := by decide +kernel
theorem dX4_takeOfValley_118 : decode cX4_takeOfValley 118 = .ok (.return_, 1) := by decide +kernel
def fX4_takeOfValley (μ : zM) (x0 : Nat) (x1 : Int32) : Option (zM) := zgd (zm_ck μ 4 x0) <|
  zb1 (if x1 < 7 then (
  if x1 < 4 then (
  if x1 = 0 then (
  zb1 (zm_gR μ 4 x0 0) fun v19 =>
  zb1 (zm_gR μ 4 x0 11) fun v21 =>
  zb1 (zm_aI μ 0 v21 0) fun v23 =>
  zb1 (zm_p μ 9 v19 0 (.int v23)) fun m25 =>
  some m25)
  else (
  zb1 (zm_gR μ 4 x0 11) fun v3 =>
  zb1 (zm_aI μ 0 v3 0) fun v5 =>
  zb1 (fX11_isWord μ v5) fun v8 =>
  if v8 = 0 then (
  some μ)
  else (
  zb1 (zm_gR μ 4 x0 11) fun v9 =>
  zb1 (zm_aI μ 0 v9 0) fun v11 =>
  zb1 (zm_gR μ 4 x0 11) fun v13 =>
  zb1 (zm_aI μ 0 v13 1) fun v15 =>
  zb1 (fX4_takeOfWord μ x0 x1 v11 v15) fun m18 =>
  some m18)))
  else (
  zb1 (zm_gR μ 4 x0 0) fun v27 =>
  zb1 (zm_gR μ 4 x0 11) fun v29 =>
  zb1 (zm_aI μ 0 v29 0) fun v31 =>
  zb1 (zm_gR μ 4 x0 11) fun v33 =>
  zb1 (zm_aI μ 0 v33 1) fun v35 =>
  zb1 (fX9_addPerson μ v27 (x1 - 4) v31 v35) fun m38 =>
  some m38))
  else (
  zb1 (zm_gR μ 4 x0 0) fun v39 =>
  zb1 (if x1 = 7 then (
  some 1)
  else (
  some 2)) fun s41 =>
  zb1 (zm_gR μ 4 x0 11) fun v43 =>
  zb1 (zm_aI μ 0 v43 0) fun v45 =>
  zb1 (zm_gR μ 4 x0 11) fun v47 =>
  zb1 (zm_aI μ 0 v47 1) fun v49 =>
  zb1 (fX9_addSky μ v39 s41 v45 v49) fun m52 =>
  some m52)) fun m1 =>
  some m1
theorem fX4_takeOfValley_ck {μ : zM} {x0 : Nat} {x1 : Int32} {z : zM} (h : fX4_takeOfValley μ x0 x1 = some z) : zm_ck μ 4 x0 = true := (zgd_s h).1
set_option maxHeartbeats 4000000 in
set_option maxRecDepth 100000 in
theorem cX4_takeOfValley_ok {μ : zM} {x0 : Nat} {x1 : Int32} {mo : zM} (hf : fX4_takeOfValley μ x0 x1 = some mo) : zC yX4_takeOfValley cX4_takeOfValley 2 (none) 1 0 0 [.ref x0, .int x1] μ (none) mo := by
  replace hf := (zgd_s hf).2
  refine zC.of (by decide) (Nat.le_of_ble_eq_true rfl) (fun K hin => ?_)
  clear hin
  show zz K cX4_takeOfValley (2, RX4, none, 1, 0, 0, none, mo) 0 0 0 [(0, .ref x0), (1, .int x1)] [] μ
  refine zr_iload_n 1 dX4_takeOfValley_0 rfl ?_
  refine zr_bipush 7 dX4_takeOfValley_1 (by decide) ?_
  replace hf := zb1_s hf
  obtain ⟨m1, hg, hf⟩ := hf
  have hj2 : zz K cX4_takeOfValley (2, RX4, none, 1, 0, 0, none, mo) 0 0 118 [] [] m1 := by
    cases hf
    exact zr_vret dX4_takeOfValley_118
  clear hf
  have hf := hg
  clear hg
  refine zr_icmp_lt 39 dX4_takeOfValley_3 (by decide) (fun hc => ?_) (fun hc => ?_)
  · rw [if_pos hc] at hf
    refine zr_iload_n 1 dX4_takeOfValley_39 rfl ?_
    refine zr_iconst 4 dX4_takeOfValley_40 (by decide) ?_
    refine zr_icmp_lt 69 dX4_takeOfValley_41 (by decide) (fun hc => ?_) (fun hc => ?_)
    · rw [if_pos hc] at hf
      refine zr_iload_n 1 dX4_takeOfValley_69 rfl ?_
      refine zr_if_ne 89 dX4_takeOfValley_70 (by decide) (fun hc => ?_) (fun hc => ?_)
      · rw [if_neg hc] at hf
        refine zr_aload_n 0 dX4_takeOfValley_89 rfl ?_
        replace hf := zb1_s hf
        obtain ⟨v3, h4, hf⟩ := hf
        refine zr_get (zm_gR_g h4) zk4 (by decide) zl_273 dX4_takeOfValley_90 ?_
        refine zr_iconst 0 dX4_takeOfValley_93 (by decide) ?_
        replace hf := zb1_s hf
        obtain ⟨v5, h6, hf⟩ := hf
        refine zr_iald h6 dX4_takeOfValley_94 ?_
        replace hf := zb1_s hf
        obtain ⟨v8, h7, hf⟩ := hf
        refine zr_callSN [.int v5] (cX11_isWord_ok h7) zvs_X11_isWord zl_334 zl_333 rfl (Nat.le_of_ble_eq_true rfl) (Nat.le_of_ble_eq_true rfl) (Nat.le_of_ble_eq_true rfl) (Nat.le_of_ble_eq_true rfl) dX4_takeOfValley_95 rfl ?_
        refine zr_if_eq 118 dX4_takeOfValley_98 (by decide) (fun hc => ?_) (fun hc => ?_)
        · rw [if_pos hc] at hf
          cases hf
          exact zr_lv [] rfl hj2
        · rw [if_neg hc] at hf
          refine zr_aload_n 0 dX4_takeOfValley_101 rfl ?_
          refine zr_iload_n 1 dX4_takeOfValley_102 rfl ?_
          refine zr_aload_n 0 dX4_takeOfValley_103 rfl ?_
          replace hf := zb1_s hf
          obtain ⟨v9, h10, hf⟩ := hf
          refine zr_get (zm_gR_g h10) zk4 (by decide) zl_273 dX4_takeOfValley_104 ?_
          refine zr_iconst 0 dX4_takeOfValley_107 (by decide) ?_
          replace hf := zb1_s hf
          obtain ⟨v11, h12, hf⟩ := hf
          refine zr_iald h12 dX4_takeOfValley_108 ?_
          refine zr_aload_n 0 dX4_takeOfValley_109 rfl ?_
          replace hf := zb1_s hf
          obtain ⟨v13, h14, hf⟩ := hf
          refine zr_get (zm_gR_g h14) zk4 (by decide) zl_273 dX4_takeOfValley_110 ?_
          refine zr_iconst 1 dX4_takeOfValley_113 (by decide) ?_
          replace hf := zb1_s hf
          obtain ⟨v15, h16, hf⟩ := hf
          refine zr_iald h16 dX4_takeOfValley_114 ?_
          replace hf := zb1_s hf
          obtain ⟨m18, h17, hf⟩ := hf
          refine zr_callV (ci := 4) [.int x1, .int v11, .int v15] (cX4_takeOfWord_ok h17) zvs_X4_takeOfWord zl_337 zl_338 (fX4_takeOfWord_ck h17) rfl rfl zl_336 rfl (Nat.le_of_ble_eq_true rfl) (Nat.le_of_ble_eq_true rfl) (Nat.le_of_ble_eq_true rfl) (Nat.le_of_ble_eq_true rfl) dX4_takeOfValley_115 rfl ?_
          cases hf
          exact zr_lv [] rfl hj2
      · rw [if_pos hc] at hf
        refine zr_aload_n 0 dX4_takeOfValley_73 rfl ?_
        replace hf := zb1_s hf
        obtain ⟨v19, h20, hf⟩ := hf
        refine zr_get (zm_gR_g h20) zk4 (by decide) zl_246 dX4_takeOfValley_74 ?_
        refine zr_aload_n 0 dX4_takeOfValley_77 rfl ?_
        replace hf := zb1_s hf
        obtain ⟨v21, h22, hf⟩ := hf
        refine zr_get (zm_gR_g h22) zk4 (by decide) zl_273 dX4_takeOfValley_78 ?_
        refine zr_iconst 0 dX4_takeOfValley_81 (by decide) ?_
        replace hf := zb1_s hf
        obtain ⟨v23, h24, hf⟩ := hf
        refine zr_iald h24 dX4_takeOfValley_82 ?_
        replace hf := zb1_s hf
        obtain ⟨m25, h26, hf⟩ := hf
        refine zr_put h26 zk9 (by decide) zl_339 rfl rfl rfl dX4_takeOfValley_83 ?_
        refine zr_goto 118 dX4_takeOfValley_86 (by decide) ?_
        cases hf
        exact zr_lv [] rfl hj2
    · rw [if_neg hc] at hf
      refine zr_aload_n 0 dX4_takeOfValley_44 rfl ?_
      replace hf := zb1_s hf
      obtain ⟨v27, h28, hf⟩ := hf
      refine zr_get (zm_gR_g h28) zk4 (by decide) zl_246 dX4_takeOfValley_45 ?_
      refine zr_iload_n 1 dX4_takeOfValley_48 rfl ?_
      refine zr_iconst 4 dX4_takeOfValley_49 (by decide) ?_
      refine zr_isub dX4_takeOfValley_50 ?_
      refine zr_aload_n 0 dX4_takeOfValley_51 rfl ?_
      replace hf := zb1_s hf
      obtain ⟨v29, h30, hf⟩ := hf
      refine zr_get (zm_gR_g h30) zk4 (by decide) zl_273 dX4_takeOfValley_52 ?_
      refine zr_iconst 0 dX4_takeOfValley_55 (by decide) ?_
      replace hf := zb1_s hf
      obtain ⟨v31, h32, hf⟩ := hf
      refine zr_iald h32 dX4_takeOfValley_56 ?_
      refine zr_aload_n 0 dX4_takeOfValley_57 rfl ?_
      replace hf := zb1_s hf
      obtain ⟨v33, h34, hf⟩ := hf
      refine zr_get (zm_gR_g h34) zk4 (by decide) zl_273 dX4_takeOfValley_58 ?_
      refine zr_iconst 1 dX4_takeOfValley_61 (by decide) ?_
      replace hf := zb1_s hf
      obtain ⟨v35, h36, hf⟩ := hf
      refine zr_iald h36 dX4_takeOfValley_62 ?_
      replace hf := zb1_s hf
      obtain ⟨m38, h37, hf⟩ := hf
      refine zr_callV (ci := 9) [.int (x1 - 4), .int v31, .int v35] (cX9_addPerson_ok h37) zvs_X9_addPerson zl_342 zl_343 (fX9_addPerson_ck h37) rfl rfl zl_341 rfl (Nat.le_of_ble_eq_true rfl) (Nat.le_of_ble_eq_true rfl) (Nat.le_of_ble_eq_true rfl) (Nat.le_of_ble_eq_true rfl) dX4_takeOfValley_63 rfl ?_
      refine zr_goto 118 dX4_takeOfValley_66 (by decide) ?_
      cases hf
      exact zr_lv [] rfl hj2
  · rw [if_neg hc] at hf
    refine zr_aload_n 0 dX4_takeOfValley_6 rfl ?_
    replace hf := zb1_s hf
    obtain ⟨v39, h40, hf⟩ := hf
    refine zr_get (zm_gR_g h40) zk4 (by decide) zl_246 dX4_takeOfValley_7 ?_
    refine zr_iload_n 1 dX4_takeOfValley_10 rfl ?_
    refine zr_bipush 7 dX4_takeOfValley_11 (by decide) ?_
    replace hf := zb1_s hf
    obtain ⟨s41, hg, hf⟩ := hf
    have hj42 : zz K cX4_takeOfValley (2, RX4, none, 1, 0, 0, none, mo) 0 0 21 [(0, .ref x0)] [.int s41, .ref v39] μ := by
      refine zr_aload_n 0 dX4_takeOfValley_21 rfl ?_
      replace hf := zb1_s hf
      obtain ⟨v43, h44, hf⟩ := hf
      refine zr_get (zm_gR_g h44) zk4 (by decide) zl_273 dX4_takeOfValley_22 ?_
      refine zr_iconst 0 dX4_takeOfValley_25 (by decide) ?_
      replace hf := zb1_s hf
      obtain ⟨v45, h46, hf⟩ := hf
      refine zr_iald h46 dX4_takeOfValley_26 ?_
      refine zr_aload_n 0 dX4_takeOfValley_27 rfl ?_
      replace hf := zb1_s hf
      obtain ⟨v47, h48, hf⟩ := hf
      refine zr_get (zm_gR_g h48) zk4 (by decide) zl_273 dX4_takeOfValley_28 ?_
      refine zr_iconst 1 dX4_takeOfValley_31 (by decide) ?_
      replace hf := zb1_s hf
      obtain ⟨v49, h50, hf⟩ := hf
      refine zr_iald h50 dX4_takeOfValley_32 ?_
      replace hf := zb1_s hf
      obtain ⟨m52, h51, hf⟩ := hf
      refine zr_callV (ci := 9) [.int s41, .int v45, .int v49] (cX9_addSky_ok h51) zvs_X9_addSky zl_346 zl_347 (fX9_addSky_ck h51) rfl rfl zl_345 rfl (Nat.le_of_ble_eq_true rfl) (Nat.le_of_ble_eq_true rfl) (Nat.le_of_ble_eq_true rfl) (Nat.le_of_ble_eq_true rfl) dX4_takeOfValley_33 rfl ?_
      refine zr_goto 118 dX4_takeOfValley_36 (by decide) ?_
      cases hf
      exact zr_lv [] rfl hj2
    clear hf
    have hf := hg
    clear hg
    refine zr_icmp_ne 20 dX4_takeOfValley_13 (by decide) (fun hc => ?_) (fun hc => ?_)
    · rw [if_neg hc] at hf
      refine zr_iconst 2 dX4_takeOfValley_20 (by decide) ?_
      cases hf
      exact zr_lv [0] rfl hj42
    · rw [if_pos hc] at hf
      refine zr_iconst 1 dX4_takeOfValley_16 (by decide) ?_
      refine zr_goto 21 dX4_takeOfValley_17 (by decide) ?_
      cases hf
      exact zr_lv [0] rfl hj42
theorem zl_348 : Cond.code yX4_takeOfValley cX4_takeOfValley 2 (none) ∈ zt := zt_at 704 (by decide +kernel)
theorem zvs_X4_takeOfValley : zvS yX4_takeOfValley cX4_takeOfValley 2 (none) 1 := ⟨zl_348, zl_296, ⟨by decide +kernel, by decide +kernel, by decide +kernel⟩, by decide⟩
theorem zl_349 : Cond.methodLink RX4 154 yX4_takeOfValley ∈ zt := zt_at 701 (by decide +kernel)
theorem zl_350 : Cond.instanceMethod yX4_takeOfValley ∈ zt := zt_at 703 (by decide +kernel)
theorem zl_351 : Cond.selects RX4 yX4_takeOfValley yX4_takeOfValley ∈ zt := zt_at 13 (by decide +kernel)
theorem zl_352 : Cond.code yX2_add cX2_add 4 (none) ∈ zt := zt_at 700 (by decide +kernel)
theorem zvs_X2_add : zvS yX2_add cX2_add 4 (none) 3 := ⟨zl_352, zl_249, ⟨by decide +kernel, by decide +kernel, by decide +kernel⟩, by decide⟩
theorem zl_353 : Cond.methodLink RX4 151 yX2_add ∈ zt := zt_at 697 (by decide +kernel)
theorem zl_354 : Cond.instanceMethod yX2_add ∈ zt := zt_at 698 (by decide +kernel)
theorem zl_355 : Cond.selects RX2 yX2_add yX2_add ∈ zt := zt_at 699 (by decide +kernel)
theorem zl_356 : Cond.code yX4_takeOfLesson cX4_takeOfLesson 2 (none) ∈ zt := zt_at 692 (by decide +kernel)
theorem zvs_X4_takeOfLesson : zvS yX4_takeOfLesson cX4_takeOfLesson 2 (none) 1 := ⟨zl_356, zl_296, ⟨by decide +kernel, by decide +kernel, by decide +kernel⟩, by decide⟩
theorem zl_357 : Cond.methodLink RX4 148 yX4_takeOfLesson ∈ zt := zt_at 689 (by decide +kernel)
theorem zl_358 : Cond.instanceMethod yX4_takeOfLesson ∈ zt := zt_at 691 (by decide +kernel)
theorem zl_359 : Cond.selects RX4 yX4_takeOfLesson yX4_takeOfLesson ∈ zt := zt_at 12 (by decide +kernel)
theorem zl_360 : Cond.code yX6_add cX6_add 5 (none) ∈ zt := zt_at 688 (by decide +kernel)
theorem zvs_X6_add : zvS yX6_add cX6_add 5 (none) 4 := ⟨zl_360, zl_262, ⟨by decide +kernel, by decide +kernel, by decide +kernel⟩, by decide⟩
theorem zl_361 : Cond.methodLink RX4 144 yX6_add ∈ zt := zt_at 685 (by decide +kernel)
theorem zl_362 : Cond.instanceMethod yX6_add ∈ zt := zt_at 686 (by decide +kernel)
theorem zl_363 : Cond.selects RX6 yX6_add yX6_add ∈ zt := zt_at 687 (by decide +kernel)
theorem dX4_take_0 : decode cX4_take 0 = .ok (.iload_n 1, 1) := by decide +kernel
theorem dX4_take_1 : decode cX4_take 1 = .ok (.bipush 16, 2) := by decide +kernel
theorem dX4_take_3 : decode cX4_take 3 = .ok (.if_icmp .lt 35, 3) := by decide +kernel
theorem dX4_take_6 : decode cX4_take 6 = .ok (.aload_n 0, 1) := by decide +kernel
theorem dX4_take_7 : decode cX4_take 7 = .ok (.getfield 35, 3) := by decide +kernel
theorem dX4_take_10 : decode cX4_take 10 = .ok (.iload_n 1, 1) := by decide +kernel
theorem dX4_take_11 : decode cX4_take 11 = .ok (.bipush 16, 2) := by decide +kernel
theorem dX4_take_13 : decode cX4_take 13 = .ok (.isub, 1) := by decide +kernel
theorem dX4_take_14 : decode cX4_take 14 = .ok (.aload_n 0, 1) := by decide +kernel
theorem dX4_take_15 : decode cX4_take 15 = .ok (.getfield 58, 3) := by decide +kernel
theorem dX4_take_18 : decode cX4_take 18 = .ok (.iconst 0, 1) := by decide +kernel
theorem dX4_take_19 : decode cX4_take 19 = .ok (.iaload, 1) := by decide +kernel
theorem dX4_take_20 : decode cX4_take 20 = .ok (.aload_n 0, 1) := by decide +kernel
theorem dX4_take_21 : decode cX4_take 21 = .ok (.getfield 58, 3) := by decide +kernel
theorem dX4_take_24 : decode cX4_take 24 = .ok (.iconst 1, 1) := by decide +kernel
theorem dX4_take_25 : decode cX4_take 25 = .ok (.iaload, 1) := by decide +kernel
theorem dX4_take_26 : decode cX4_take 26 = .ok (.aload_n 0, 1) := by decide +kernel
theorem dX4_take_27 : decode cX4_take 27 = .ok (.getfield 58, 3) := by decide +kernel
theorem dX4_take_30 : decode cX4_take 30 = .ok (.iconst 2, 1) := by decide +kernel
theorem dX4_take_31 : decode cX4_take 31 = .ok (.iaload, 1) := by decide +kernel
theorem dX4_take_32 : decode cX4_take 32 = .ok (.invokevirtual 144, 3) := by decide +kernel
theorem dX4_take_35 : decode cX4_take 35 = .ok (.goto 64, 3) := by decide +kernel
theorem dX4_take_38 : decode cX4_take 38 = .ok (.iload_n 1, 1) := by decide +kernel
theorem dX4_take_39 : decode cX4_take 39 = .ok (.bipush 14, 2) := by decide +kernel
theorem dX4_take_41 : decode cX4_take 41 = .ok (.if_icmp .lt 11, 3) := by decide +kernel
theorem dX4_take_44 : decode cX4_take 44 = .ok (.aload_n 0, 1) := by decide +kernel
theorem dX4_take_45 : decode cX4_take 45 = .ok (.iload_n 1, 1) := by decide +kernel
theorem dX4_take_46 : decode cX4_take 46 = .ok (.invokevirtual 148, 3) := by decide +kernel
theorem dX4_take_49 : decode cX4_take 49 = .ok (.goto 50, 3) := by decide +kernel
theorem dX4_take_52 : decode cX4_take 52 = .ok (.iload_n 1, 1) := by decide +kernel
theorem dX4_take_53 : decode cX4_take 53 = .ok (.bipush 9, 2) := by decide +kernel
theorem dX4_take_55 : decode cX4_take 55 = .ok (.if_icmp .lt 39, 3) := by decide +kernel
theorem dX4_take_58 : decode cX4_take 58 = .ok (.aload_n 0, 1) := by decide +kernel
theorem dX4_take_59 : decode cX4_take 59 = .ok (.getfield 21, 3) := by decide +kernel
theorem dX4_take_62 : decode cX4_take 62 = .ok (.iload_n 1, 1) := by decide +kernel
theorem dX4_take_63 : decode cX4_take 63 = .ok (.bipush 9, 2) := by decide +kernel
theorem dX4_take_65 : decode cX4_take 65 = .ok (.isub, 1) := by decide +kernel
theorem dX4_take_66 : decode cX4_take 66 = .ok (.aload_n 0, 1) := by decide +kernel
theorem dX4_take_67 : decode cX4_take 67 = .ok (.getfield 58, 3) := by decide +kernel
theorem dX4_take_70 : decode cX4_take 70 = .ok (.iconst 0, 1) := by decide +kernel
theorem dX4_take_71 : decode cX4_take 71 = .ok (.iaload, 1) := by decide +kernel
theorem dX4_take_72 : decode cX4_take 72 = .ok (.iload_n 1, 1) := by decide +kernel
theorem dX4_take_73 : decode cX4_take 73 = .ok (.bipush 13, 2) := by decide +kernel
theorem dX4_take_75 : decode cX4_take 75 = .ok (.if_icmp .ne 7, 3) := by decide +kernel
theorem dX4_take_78 : decode cX4_take 78 = .ok (.iconst (-1), 1) := by decide +kernel
theorem dX4_take_79 : decode cX4_take 79 = .ok (.goto 9, 3) := by decide +kernel
theorem dX4_take_82 : decode cX4_take 82 = .ok (.aload_n 0, 1) := by decide +kernel
theorem dX4_take_83 : decode cX4_take 83 = .ok (.getfield 58, 3) := by decide +kernel
theorem dX4_take_86 : decode cX4_take 86 = .ok (.iconst 1, 1) := by decide +kernel
theorem dX4_take_87 : decode cX4_take 87 = .ok (.iaload, 1) := by decide +kernel
theorem dX4_take_88 : decode cX4_take 88 = .ok (.invokevirtual 151, 3) := by decide +kernel
theorem dX4_take_91 : decode cX4_take 91 = .ok (.goto 8, 3) := by decide +kernel
theorem dX4_take_94 : decode cX4_take 94 = .ok (.aload_n 0, 1) := by decide +kernel
theorem dX4_take_95 : decode cX4_take 95 = .ok (.iload_n 1, 1) := by decide +kernel
theorem dX4_take_96 : decode cX4_take 96 = .ok (.invokevirtual 154, 3) := by decide +kernel
theorem dX4_take_99 : decode cX4_take 99 = .ok (.return_, 1) := by decide +kernel
def fX4_take (μ : zM) (x0 : Nat) (x1 : Int32) : Option (zM) := zgd (zm_ck μ 4 x0) <|
  zb1 (if x1 < 16 then (
  if x1 < 14 then (
  if x1 < 9 then (
  zb1 (fX4_takeOfValley μ x0 x1) fun m4 =>
  some m4)
  else (
  zb1 (zm_gR μ 4 x0 1) fun v5 =>
  zb1 (zm_gR μ 4 x0 11) fun v7 =>
  zb1 (zm_aI μ 0 v7 0) fun v9 =>
  zb1 (if x1 = 13 then (
  some (-1))
  else (
  zb1 (zm_gR μ 4 x0 11) fun v15 =>
  zb1 (zm_aI μ 0 v15 1) fun v17 =>
  some v17)) fun s11 =>
  zb1 (fX2_add μ v5 (x1 - 9) v9 s11) fun m14 =>
  some m14))
  else (
  zb1 (fX4_takeOfLesson μ x0 x1) fun m20 =>
  some m20))
  else (
  zb1 (zm_gR μ 4 x0 3) fun v21 =>
  zb1 (zm_gR μ 4 x0 11) fun v23 =>
  zb1 (zm_aI μ 0 v23 0) fun v25 =>
  zb1 (zm_gR μ 4 x0 11) fun v27 =>
  zb1 (zm_aI μ 0 v27 1) fun v29 =>
  zb1 (zm_gR μ 4 x0 11) fun v31 =>
  zb1 (zm_aI μ 0 v31 2) fun v33 =>
  zb1 (fX6_add μ v21 (x1 - 16) v25 v29 v33) fun m36 =>
  some m36)) fun m1 =>
  some m1
theorem fX4_take_ck {μ : zM} {x0 : Nat} {x1 : Int32} {z : zM} (h : fX4_take μ x0 x1 = some z) : zm_ck μ 4 x0 = true := (zgd_s h).1
set_option maxHeartbeats 4000000 in
set_option maxRecDepth 100000 in
theorem cX4_take_ok {μ : zM} {x0 : Nat} {x1 : Int32} {mo : zM} (hf : fX4_take μ x0 x1 = some mo) : zC yX4_take cX4_take 2 (none) 2 0 0 [.ref x0, .int x1] μ (none) mo := by
  replace hf := (zgd_s hf).2
  refine zC.of (by decide) (Nat.le_of_ble_eq_true rfl) (fun K hin => ?_)
  clear hin
  show zz K cX4_take (2, RX4, none, 2, 0, 0, none, mo) 0 0 0 [(0, .ref x0), (1, .int x1)] [] μ
  refine zr_iload_n 1 dX4_take_0 rfl ?_
  refine zr_bipush 16 dX4_take_1 (by decide) ?_
  replace hf := zb1_s hf
  obtain ⟨m1, hg, hf⟩ := hf
  have hj2 : zz K cX4_take (2, RX4, none, 2, 0, 0, none, mo) 0 0 99 [] [] m1 := by
    cases hf
    exact zr_vret dX4_take_99
  clear hf
  have hf := hg
  clear hg
  refine zr_icmp_lt 38 dX4_take_3 (by decide) (fun hc => ?_) (fun hc => ?_)
  · rw [if_pos hc] at hf
    refine zr_iload_n 1 dX4_take_38 rfl ?_
    refine zr_bipush 14 dX4_take_39 (by decide) ?_
    refine zr_icmp_lt 52 dX4_take_41 (by decide) (fun hc => ?_) (fun hc => ?_)
    · rw [if_pos hc] at hf
      refine zr_iload_n 1 dX4_take_52 rfl ?_
      refine zr_bipush 9 dX4_take_53 (by decide) ?_
      refine zr_icmp_lt 94 dX4_take_55 (by decide) (fun hc => ?_) (fun hc => ?_)
      · rw [if_pos hc] at hf
        refine zr_aload_n 0 dX4_take_94 rfl ?_
        refine zr_iload_n 1 dX4_take_95 rfl ?_
        replace hf := zb1_s hf
        obtain ⟨m4, h3, hf⟩ := hf
        refine zr_callV (ci := 4) [.int x1] (cX4_takeOfValley_ok h3) zvs_X4_takeOfValley zl_350 zl_351 (fX4_takeOfValley_ck h3) rfl rfl zl_349 rfl (Nat.le_of_ble_eq_true rfl) (Nat.le_of_ble_eq_true rfl) (Nat.le_of_ble_eq_true rfl) (Nat.le_of_ble_eq_true rfl) dX4_take_96 rfl ?_
        cases hf
        exact zr_lv [] rfl hj2
      · rw [if_neg hc] at hf
        refine zr_aload_n 0 dX4_take_58 rfl ?_
        replace hf := zb1_s hf
        obtain ⟨v5, h6, hf⟩ := hf
        refine zr_get (zm_gR_g h6) zk4 (by decide) zl_253 dX4_take_59 ?_
        refine zr_iload_n 1 dX4_take_62 rfl ?_
        refine zr_bipush 9 dX4_take_63 (by decide) ?_
        refine zr_isub dX4_take_65 ?_
        refine zr_aload_n 0 dX4_take_66 rfl ?_
        replace hf := zb1_s hf
        obtain ⟨v7, h8, hf⟩ := hf
        refine zr_get (zm_gR_g h8) zk4 (by decide) zl_273 dX4_take_67 ?_
        refine zr_iconst 0 dX4_take_70 (by decide) ?_
        replace hf := zb1_s hf
        obtain ⟨v9, h10, hf⟩ := hf
        refine zr_iald h10 dX4_take_71 ?_
        refine zr_iload_n 1 dX4_take_72 rfl ?_
        refine zr_bipush 13 dX4_take_73 (by decide) ?_
        replace hf := zb1_s hf
        obtain ⟨s11, hg, hf⟩ := hf
        have hj12 : zz K cX4_take (2, RX4, none, 2, 0, 0, none, mo) 0 0 88 [] [.int s11, .int v9, .int (x1 - 9), .ref v5] μ := by
          replace hf := zb1_s hf
          obtain ⟨m14, h13, hf⟩ := hf
          refine zr_callV (ci := 2) [.int (x1 - 9), .int v9, .int s11] (cX2_add_ok h13) zvs_X2_add zl_354 zl_355 (fX2_add_ck h13) rfl rfl zl_353 rfl (Nat.le_of_ble_eq_true rfl) (Nat.le_of_ble_eq_true rfl) (Nat.le_of_ble_eq_true rfl) (Nat.le_of_ble_eq_true rfl) dX4_take_88 rfl ?_
          refine zr_goto 99 dX4_take_91 (by decide) ?_
          cases hf
          exact zr_lv [] rfl hj2
        clear hf
        have hf := hg
        clear hg
        refine zr_icmp_ne 82 dX4_take_75 (by decide) (fun hc => ?_) (fun hc => ?_)
        · rw [if_neg hc] at hf
          refine zr_aload_n 0 dX4_take_82 rfl ?_
          replace hf := zb1_s hf
          obtain ⟨v15, h16, hf⟩ := hf
          refine zr_get (zm_gR_g h16) zk4 (by decide) zl_273 dX4_take_83 ?_
          refine zr_iconst 1 dX4_take_86 (by decide) ?_
          replace hf := zb1_s hf
          obtain ⟨v17, h18, hf⟩ := hf
          refine zr_iald h18 dX4_take_87 ?_
          cases hf
          exact zr_lv [] rfl hj12
        · rw [if_pos hc] at hf
          refine zr_iconst (-1) dX4_take_78 (by decide) ?_
          refine zr_goto 88 dX4_take_79 (by decide) ?_
          cases hf
          exact zr_lv [] rfl hj12
    · rw [if_neg hc] at hf
      refine zr_aload_n 0 dX4_take_44 rfl ?_
      refine zr_iload_n 1 dX4_take_45 rfl ?_
      replace hf := zb1_s hf
      obtain ⟨m20, h19, hf⟩ := hf
      refine zr_callV (ci := 4) [.int x1] (cX4_takeOfLesson_ok h19) zvs_X4_takeOfLesson zl_358 zl_359 (fX4_takeOfLesson_ck h19) rfl rfl zl_357 rfl (Nat.le_of_ble_eq_true rfl) (Nat.le_of_ble_eq_true rfl) (Nat.le_of_ble_eq_true rfl) (Nat.le_of_ble_eq_true rfl) dX4_take_46 rfl ?_
      refine zr_goto 99 dX4_take_49 (by decide) ?_
      cases hf
      exact zr_lv [] rfl hj2
  · rw [if_neg hc] at hf
    refine zr_aload_n 0 dX4_take_6 rfl ?_
    replace hf := zb1_s hf
    obtain ⟨v21, h22, hf⟩ := hf
    refine zr_get (zm_gR_g h22) zk4 (by decide) zl_266 dX4_take_7 ?_
    refine zr_iload_n 1 dX4_take_10 rfl ?_
    refine zr_bipush 16 dX4_take_11 (by decide) ?_
    refine zr_isub dX4_take_13 ?_
    refine zr_aload_n 0 dX4_take_14 rfl ?_
    replace hf := zb1_s hf
    obtain ⟨v23, h24, hf⟩ := hf
    refine zr_get (zm_gR_g h24) zk4 (by decide) zl_273 dX4_take_15 ?_
    refine zr_iconst 0 dX4_take_18 (by decide) ?_
    replace hf := zb1_s hf
    obtain ⟨v25, h26, hf⟩ := hf
    refine zr_iald h26 dX4_take_19 ?_
    refine zr_aload_n 0 dX4_take_20 rfl ?_
    replace hf := zb1_s hf
    obtain ⟨v27, h28, hf⟩ := hf
    refine zr_get (zm_gR_g h28) zk4 (by decide) zl_273 dX4_take_21 ?_
    refine zr_iconst 1 dX4_take_24 (by decide) ?_
    replace hf := zb1_s hf
    obtain ⟨v29, h30, hf⟩ := hf
    refine zr_iald h30 dX4_take_25 ?_
    refine zr_aload_n 0 dX4_take_26 rfl ?_
    replace hf := zb1_s hf
    obtain ⟨v31, h32, hf⟩ := hf
    refine zr_get (zm_gR_g h32) zk4 (by decide) zl_273 dX4_take_27 ?_
    refine zr_iconst 2 dX4_take_30 (by decide) ?_
    replace hf := zb1_s hf
    obtain ⟨v33, h34, hf⟩ := hf
    refine zr_iald h34 dX4_take_31 ?_
    replace hf := zb1_s hf
    obtain ⟨m36, h35, hf⟩ := hf
    refine zr_callV (ci := 6) [.int (x1 - 16), .int v25, .int v29, .int v33] (cX6_add_ok h35) zvs_X6_add zl_362 zl_363 (fX6_add_ck h35) rfl rfl zl_361 rfl (Nat.le_of_ble_eq_true rfl) (Nat.le_of_ble_eq_true rfl) (Nat.le_of_ble_eq_true rfl) (Nat.le_of_ble_eq_true rfl) dX4_take_32 rfl ?_
    refine zr_goto 99 dX4_take_35 (by decide) ?_
    cases hf
    exact zr_lv [] rfl hj2
theorem zl_364 : Cond.methodLink RX9 68 yX9_hasPlace ∈ zt := zt_at 724 (by decide +kernel)
theorem dX9_holdsItsPeople_0 : decode cX9_holdsItsPeople 0 = .ok (.iconst 0, 1) := by decide +kernel
theorem dX9_holdsItsPeople_1 : decode cX9_holdsItsPeople 1 = .ok (.istore_n 1, 1) := by decide +kernel
theorem dX9_holdsItsPeople_2 : decode cX9_holdsItsPeople 2 = .ok (.iload_n 1, 1) := by decide +kernel
theorem dX9_holdsItsPeople_3 : decode cX9_holdsItsPeople 3 = .ok (.aload_n 0, 1) := by decide +kernel
theorem dX9_holdsItsPeople_4 : decode cX9_holdsItsPeople 4 = .ok (.getfield 46, 3) := by decide +kernel
theorem dX9_holdsItsPeople_7 : decode cX9_holdsItsPeople 7 = .ok (.if_icmp .ge 24, 3) := by decide +kernel
theorem dX9_holdsItsPeople_10 : decode cX9_holdsItsPeople 10 = .ok (.aload_n 0, 1) := by decide +kernel
theorem dX9_holdsItsPeople_11 : decode cX9_holdsItsPeople 11 = .ok (.aload_n 0, 1) := by decide +kernel
theorem dX9_holdsItsPeople_12 : decode cX9_holdsItsPeople 12 = .ok (.getfield 24, 3) := by decide +kernel
theorem dX9_holdsItsPeople_15 : decode cX9_holdsItsPeople 15 = .ok (.iload_n 1, 1) := by decide +kernel
theorem dX9_holdsItsPeople_16 : decode cX9_holdsItsPeople 16 = .ok (.iaload, 1) := by decide +kernel
theorem dX9_holdsItsPeople_17 : decode cX9_holdsItsPeople 17 = .ok (.invokevirtual 68, 3) := by decide +kernel
theorem dX9_holdsItsPeople_20 : decode cX9_holdsItsPeople 20 = .ok (.ifCond .ne 5, 3) := by decide +kernel
theorem dX9_holdsItsPeople_23 : decode cX9_holdsItsPeople 23 = .ok (.iconst 0, 1) := by decide +kernel
theorem dX9_holdsItsPeople_24 : decode cX9_holdsItsPeople 24 = .ok (.ireturn, 1) := by decide +kernel
theorem dX9_holdsItsPeople_25 : decode cX9_holdsItsPeople 25 = .ok (.iinc 1 1, 3) := by decide +kernel
theorem dX9_holdsItsPeople_28 : decode cX9_holdsItsPeople 28 = .ok (.goto (-26), 3) := by decide +kernel
theorem dX9_holdsItsPeople_31 : decode cX9_holdsItsPeople 31 = .ok (.iconst 1, 1) := by decide +kernel
theorem dX9_holdsItsPeople_32 : decode cX9_holdsItsPeople 32 = .ok (.ireturn, 1) := by decide +kernel
def fX9_holdsItsPeople_l2 (μ : zM) (x0 : Nat) (F2 : Int32 → Option (Int32)) (x1_1 : Int32) : Option (Int32) :=
  zb1 (zm_gI μ 9 x0 4) fun v4 =>
  if v4 ≤ x1_1 then (
  some 1)
  else (
  zb1 (zm_gR μ 9 x0 6) fun v6 =>
  zb1 (zm_aI μ 0 v6 x1_1) fun v8 =>
  zb1 (fX9_hasPlace μ x0 v8) fun v11 =>
  if v11 = 0 then (
  some 0)
  else (
  F2 (x1_1 + 1)))
def fX9_holdsItsPeople (μ : zM) (x0 : Nat) : Option (Int32) := zgd (zm_ck μ 9 x0) <|
  zf1 (fX9_holdsItsPeople_l2 μ x0) zfu 0
theorem fX9_holdsItsPeople_ck {μ : zM} {x0 : Nat} {z : Int32} (h : fX9_holdsItsPeople μ x0 = some z) : zm_ck μ 9 x0 = true := (zgd_s h).1
set_option maxHeartbeats 4000000 in
set_option maxRecDepth 100000 in
theorem cX9_holdsItsPeople_ok {μ : zM} {x0 : Nat} {r : Int32} (hf : fX9_holdsItsPeople μ x0 = some r) : zC yX9_holdsItsPeople cX9_holdsItsPeople 2 (some .boolean) 1 0 0 [.ref x0] μ (some (.int r)) μ := by
  replace hf := (zgd_s hf).2
  refine zC.of (by decide) (Nat.le_of_ble_eq_true rfl) (fun K hin => ?_)
  clear hin
  show zz K cX9_holdsItsPeople (2, RX9, some .boolean, 1, 0, 0, some (.int r), μ) 0 0 0 [(0, .ref x0)] [] μ
  refine zr_iconst 0 dX9_holdsItsPeople_0 (by decide) ?_
  refine zr_istore_n [(1, .int 0), (0, .ref x0)] dX9_holdsItsPeople_1 (Nat.le_of_ble_eq_true rfl) rfl ?_
  have hL12 : ∀ (n : Nat) (x1_1 : Int32), zf1 (fX9_holdsItsPeople_l2 μ x0) n x1_1 = some r → zz K cX9_holdsItsPeople (2, RX9, some .boolean, 1, 0, 0, some (.int r), μ) 0 0 2 [(0, .ref x0), (1, .int x1_1)] [] μ := by
    intro n
    induction n with
    | zero => intro x1_1 hf; cases hf
    | succ n ih3 =>
      intro x1_1 hf
      replace hf := zf1_s hf
      generalize zf1 (fX9_holdsItsPeople_l2 μ x0) n = F2 at hf ih3
      unfold fX9_holdsItsPeople_l2 at hf
      refine zr_iload_n 1 dX9_holdsItsPeople_2 rfl ?_
      refine zr_aload_n 0 dX9_holdsItsPeople_3 rfl ?_
      replace hf := zb1_s hf
      obtain ⟨v4, h5, hf⟩ := hf
      refine zr_get (zm_gI_g h5) zk9 (by decide) zl_103 dX9_holdsItsPeople_4 ?_
      refine zr_icmp_ge 31 dX9_holdsItsPeople_7 (by decide) (fun hc => ?_) (fun hc => ?_)
      · rw [if_pos hc] at hf
        refine zr_iconst 1 dX9_holdsItsPeople_31 (by decide) ?_
        cases hf
        exact zr_zret rfl dX9_holdsItsPeople_32
      · rw [if_neg hc] at hf
        refine zr_aload_n 0 dX9_holdsItsPeople_10 rfl ?_
        refine zr_aload_n 0 dX9_holdsItsPeople_11 rfl ?_
        replace hf := zb1_s hf
        obtain ⟨v6, h7, hf⟩ := hf
        refine zr_get (zm_gR_g h7) zk9 (by decide) zl_230 dX9_holdsItsPeople_12 ?_
        refine zr_iload_n 1 dX9_holdsItsPeople_15 rfl ?_
        replace hf := zb1_s hf
        obtain ⟨v8, h9, hf⟩ := hf
        refine zr_iald h9 dX9_holdsItsPeople_16 ?_
        replace hf := zb1_s hf
        obtain ⟨v11, h10, hf⟩ := hf
        refine zr_callV (ci := 9) [.int v8] (cX9_hasPlace_ok h10) zvs_X9_hasPlace zl_106 zl_107 (fX9_hasPlace_ck h10) rfl rfl zl_364 rfl (Nat.le_of_ble_eq_true rfl) (Nat.le_of_ble_eq_true rfl) (Nat.le_of_ble_eq_true rfl) (Nat.le_of_ble_eq_true rfl) dX9_holdsItsPeople_17 rfl ?_
        refine zr_if_ne 25 dX9_holdsItsPeople_20 (by decide) (fun hc => ?_) (fun hc => ?_)
        · rw [if_neg hc] at hf
          refine zr_iinc (j := 1) (x1_1 + 1) [(1, .int (x1_1 + 1)), (0, .ref x0)] dX9_holdsItsPeople_25 rfl rfl (Nat.le_of_ble_eq_true rfl) rfl ?_
          refine zr_goto 2 dX9_holdsItsPeople_28 (by decide) ?_
          exact zr_lv [1, 0] rfl (ih3 (x1_1 + 1) hf)
        · rw [if_pos hc] at hf
          refine zr_iconst 0 dX9_holdsItsPeople_23 (by decide) ?_
          cases hf
          exact zr_zret rfl dX9_holdsItsPeople_24
  exact zr_lv [1, 0] rfl (hL12 _ 0 hf)
theorem zl_365 : Cond.methodLink RX5 3 Lib.objectInit ∈ zt := zt_at 443 (by decide +kernel)
theorem zl_366 : Cond.fieldLink RX5 9 "TwoEchoes$Search" "hits" "[I" ∈ zt := zt_at 444 (by decide +kernel)
theorem zl_367 : Cond.fieldLink RX5 15 "TwoEchoes$Search" "byThought" "[I" ∈ zt := zt_at 445 (by decide +kernel)
theorem zl_368 : Cond.fieldLink RX5 18 "TwoEchoes$Search" "longest" "I" ∈ zt := zt_at 446 (by decide +kernel)
theorem dX5_init_0 : decode cX5_init 0 = .ok (.aload_n 0, 1) := by decide +kernel
theorem dX5_init_1 : decode cX5_init 1 = .ok (.invokespecial 3, 3) := by decide +kernel
theorem dX5_init_4 : decode cX5_init 4 = .ok (.aload_n 0, 1) := by decide +kernel
theorem dX5_init_5 : decode cX5_init 5 = .ok (.sipush 3100, 3) := by decide +kernel
theorem dX5_init_8 : decode cX5_init 8 = .ok (.newarray .int, 2) := by decide +kernel
theorem dX5_init_10 : decode cX5_init 10 = .ok (.putfield 9, 3) := by decide +kernel
theorem dX5_init_13 : decode cX5_init 13 = .ok (.aload_n 0, 1) := by decide +kernel
theorem dX5_init_14 : decode cX5_init 14 = .ok (.bipush 10, 2) := by decide +kernel
theorem dX5_init_16 : decode cX5_init 16 = .ok (.newarray .int, 2) := by decide +kernel
theorem dX5_init_18 : decode cX5_init 18 = .ok (.putfield 15, 3) := by decide +kernel
theorem dX5_init_21 : decode cX5_init 21 = .ok (.aload_n 0, 1) := by decide +kernel
theorem dX5_init_22 : decode cX5_init 22 = .ok (.iconst 0, 1) := by decide +kernel
theorem dX5_init_23 : decode cX5_init 23 = .ok (.putfield 18, 3) := by decide +kernel
theorem dX5_init_26 : decode cX5_init 26 = .ok (.return_, 1) := by decide +kernel
def fX5_init (μ : zM) (x0 : Nat) : Option (zM) :=
  zb1 (some (zm_nw μ (.inl (0, 3100, .inl (fun _ => 0))))) fun m1 =>
  zb1 (zm_p m1 5 x0 0 (.ref μ.2.1)) fun m3 =>
  zb1 (some (zm_nw m3 (.inl (0, 10, .inl (fun _ => 0))))) fun m5 =>
  zb1 (zm_p m5 5 x0 1 (.ref m3.2.1)) fun m7 =>
  zb1 (zm_p m7 5 x0 2 (.int 0)) fun m9 =>
  some m9
set_option maxHeartbeats 4000000 in
set_option maxRecDepth 100000 in
theorem cX5_init_ok {μ : zM} {x0 : Nat} {mo : zM} (hf : fX5_init μ x0 = some mo) : zC yX5_init cX5_init 1 (none) 1 2 3110 [.ref x0] μ (none) mo := by
  unfold fX5_init at hf
  refine zC.of (by decide) (Nat.le_of_ble_eq_true rfl) (fun K hin => ?_)
  replace hin := hin rfl
  show zz K cX5_init (1, RX5, none, 1, 2, 3110, none, mo) 0 0 0 [(0, .ref x0)] [] μ
  refine zr_aload_n 0 dX5_init_0 rfl ?_
  refine zr_objInit zl_365 zl_1 zl_2 (Nat.le_of_ble_eq_true rfl) (Nat.le_of_ble_eq_true rfl) dX5_init_1 ?_
  refine zr_aload_n 0 dX5_init_4 rfl ?_
  refine zr_sipush 3100 dX5_init_5 (by decide) ?_
  refine zr_newa (t := 0) (N := 3100) (atype := .int) (by decide) rfl zl_3 (by decide) (by decide) (by decide) (Nat.le_of_ble_eq_true rfl) (Nat.le_of_ble_eq_true rfl) dX5_init_8 ?_
  replace hf := zb1_s hf
  obtain ⟨m1, h2, hf⟩ := hf
  obtain rfl := Option.some.inj h2
  replace hf := zb1_s hf
  obtain ⟨m3, h4, hf⟩ := hf
  refine zr_putF h4 hin rfl zk5 (by decide) zl_366 rfl rfl rfl dX5_init_10 ?_
  refine zr_aload_n 0 dX5_init_13 rfl ?_
  refine zr_bipush 10 dX5_init_14 (by decide) ?_
  refine zr_newa (t := 0) (N := 10) (atype := .int) (by decide) rfl zl_3 (by decide) (by decide) (by decide) (Nat.le_of_ble_eq_true rfl) (Nat.le_of_ble_eq_true rfl) dX5_init_16 ?_
  replace hf := zb1_s hf
  obtain ⟨m5, h6, hf⟩ := hf
  obtain rfl := Option.some.inj h6
  replace hf := zb1_s hf
  obtain ⟨m7, h8, hf⟩ := hf
  refine zr_putF h8 hin rfl zk5 (by decide) zl_367 rfl rfl rfl dX5_init_18 ?_
  refine zr_aload_n 0 dX5_init_21 rfl ?_
  refine zr_iconst 0 dX5_init_22 (by decide) ?_
  replace hf := zb1_s hf
  obtain ⟨m9, h10, hf⟩ := hf
  refine zr_put h10 zk5 (by decide) zl_368 rfl rfl rfl dX5_init_23 ?_
  cases hf
  exact zr_vret dX5_init_26
theorem zl_369 : Cond.fieldLink RX5 51 "TwoEchoes$Valley" "should" "[I" ∈ zt := zt_at 178 (by decide +kernel)
theorem zl_370 : Cond.fieldLink RX5 54 "TwoEchoes$Valley" "thought" "[I" ∈ zt := zt_at 181 (by decide +kernel)
theorem dX5_wordsJudged_0 : decode cX5_wordsJudged 0 = .ok (.iconst 0, 1) := by decide +kernel
theorem dX5_wordsJudged_1 : decode cX5_wordsJudged 1 = .ok (.istore_n 3, 1) := by decide +kernel
theorem dX5_wordsJudged_2 : decode cX5_wordsJudged 2 = .ok (.iconst 0, 1) := by decide +kernel
theorem dX5_wordsJudged_3 : decode cX5_wordsJudged 3 = .ok (.istore 4, 2) := by decide +kernel
theorem dX5_wordsJudged_5 : decode cX5_wordsJudged 5 = .ok (.iload 4, 2) := by decide +kernel
theorem dX5_wordsJudged_7 : decode cX5_wordsJudged 7 = .ok (.bipush 8, 2) := by decide +kernel
theorem dX5_wordsJudged_9 : decode cX5_wordsJudged 9 = .ok (.if_icmp .ge 44, 3) := by decide +kernel
theorem dX5_wordsJudged_12 : decode cX5_wordsJudged 12 = .ok (.iload_n 2, 1) := by decide +kernel
theorem dX5_wordsJudged_13 : decode cX5_wordsJudged 13 = .ok (.bipush 10, 2) := by decide +kernel
theorem dX5_wordsJudged_15 : decode cX5_wordsJudged 15 = .ok (.if_icmp .ge 38, 3) := by decide +kernel
theorem dX5_wordsJudged_18 : decode cX5_wordsJudged 18 = .ok (.aload_n 0, 1) := by decide +kernel
theorem dX5_wordsJudged_19 : decode cX5_wordsJudged 19 = .ok (.getfield 51, 3) := by decide +kernel
theorem dX5_wordsJudged_22 : decode cX5_wordsJudged 22 = .ok (.iload 4, 2) := by decide +kernel
theorem dX5_wordsJudged_24 : decode cX5_wordsJudged 24 = .ok (.iaload, 1) := by decide +kernel
theorem dX5_wordsJudged_25 : decode cX5_wordsJudged 25 = .ok (.iload_n 1, 1) := by decide +kernel
theorem dX5_wordsJudged_26 : decode cX5_wordsJudged 26 = .ok (.if_icmp .ne 21, 3) := by decide +kernel
theorem dX5_wordsJudged_29 : decode cX5_wordsJudged 29 = .ok (.aload_n 0, 1) := by decide +kernel
theorem dX5_wordsJudged_30 : decode cX5_wordsJudged 30 = .ok (.getfield 54, 3) := by decide +kernel
theorem dX5_wordsJudged_33 : decode cX5_wordsJudged 33 = .ok (.iload 4, 2) := by decide +kernel
theorem dX5_wordsJudged_35 : decode cX5_wordsJudged 35 = .ok (.iaload, 1) := by decide +kernel
theorem dX5_wordsJudged_36 : decode cX5_wordsJudged 36 = .ok (.iload_n 2, 1) := by decide +kernel
theorem dX5_wordsJudged_37 : decode cX5_wordsJudged 37 = .ok (.if_icmp .ne 10, 3) := by decide +kernel
theorem dX5_wordsJudged_40 : decode cX5_wordsJudged 40 = .ok (.iload_n 3, 1) := by decide +kernel
theorem dX5_wordsJudged_41 : decode cX5_wordsJudged 41 = .ok (.iconst 1, 1) := by decide +kernel
theorem dX5_wordsJudged_42 : decode cX5_wordsJudged 42 = .ok (.iload 4, 2) := by decide +kernel
theorem dX5_wordsJudged_44 : decode cX5_wordsJudged 44 = .ok (.ishl, 1) := by decide +kernel
theorem dX5_wordsJudged_45 : decode cX5_wordsJudged 45 = .ok (.ior, 1) := by decide +kernel
theorem dX5_wordsJudged_46 : decode cX5_wordsJudged 46 = .ok (.istore_n 3, 1) := by decide +kernel
theorem dX5_wordsJudged_47 : decode cX5_wordsJudged 47 = .ok (.iinc 4 1, 3) := by decide +kernel
theorem dX5_wordsJudged_50 : decode cX5_wordsJudged 50 = .ok (.goto (-45), 3) := by decide +kernel
theorem dX5_wordsJudged_53 : decode cX5_wordsJudged 53 = .ok (.iload_n 3, 1) := by decide +kernel
theorem dX5_wordsJudged_54 : decode cX5_wordsJudged 54 = .ok (.ireturn, 1) := by decide +kernel
def fX5_wordsJudged_l5 (x2 : Int32) (μ : zM) (x0 : Nat) (x1 : Int32) (F3 : Int32 → Int32 → Option (Int32)) (x3_1 : Int32) (x4_2 : Int32) : Option (Int32) :=
  if 8 ≤ x4_2 then (
  some x3_1)
  else (
  if 10 ≤ x2 then (
  some x3_1)
  else (
  zb1 (zm_gR μ 9 x0 1) fun v7 =>
  zb1 (zm_aI μ 0 v7 x4_2) fun v9 =>
  zb1 (if v9 = x1 then (
  zb1 (zm_gR μ 9 x0 2) fun v13 =>
  zb1 (zm_aI μ 0 v13 x4_2) fun v15 =>
  if v15 = x2 then (
  some (x3_1 ||| (1 <<< (x4_2 &&& 31))))
  else (
  some x3_1))
  else (
  some x3_1)) fun x3_11 =>
  F3 x3_11 (x4_2 + 1)))
def fX5_wordsJudged (μ : zM) (x0 : Nat) (x1 : Int32) (x2 : Int32) : Option (Int32) :=
  zb1 (zf2 (fX5_wordsJudged_l5 x2 μ x0 x1) zfu 0 0) fun x3_5 =>
  some x3_5
set_option maxHeartbeats 4000000 in
set_option maxRecDepth 100000 in
theorem cX5_wordsJudged_ok {μ : zM} {x0 : Nat} {x1 : Int32} {x2 : Int32} {r : Int32} (hf : fX5_wordsJudged μ x0 x1 x2 = some r) : zC yX5_wordsJudged cX5_wordsJudged 5 (some .int) 0 0 0 [.ref x0, .int x1, .int x2] μ (some (.int r)) μ := by
  unfold fX5_wordsJudged at hf
  refine zC.of (by decide) (Nat.le_of_ble_eq_true rfl) (fun K hin => ?_)
  clear hin
  show zz K cX5_wordsJudged (5, RX5, some .int, 0, 0, 0, some (.int r), μ) 0 0 0 [(0, .ref x0), (1, .int x1), (2, .int x2)] [] μ
  refine zr_iconst 0 dX5_wordsJudged_0 (by decide) ?_
  refine zr_istore_n [(3, .int 0), (0, .ref x0), (1, .int x1), (2, .int x2)] dX5_wordsJudged_1 (Nat.le_of_ble_eq_true rfl) rfl ?_
  refine zr_iconst 0 dX5_wordsJudged_2 (by decide) ?_
  refine zr_istore [(4, .int 0), (3, .int 0), (0, .ref x0), (1, .int x1), (2, .int x2)] dX5_wordsJudged_3 (Nat.le_of_ble_eq_true rfl) rfl ?_
  replace hf := zb1_s hf
  obtain ⟨x3_5, hg, hf⟩ := hf
  have hj6 : zz K cX5_wordsJudged (5, RX5, some .int, 0, 0, 0, some (.int r), μ) 0 0 53 [(3, .int x3_5)] [] μ := by
    refine zr_iload_n 0 dX5_wordsJudged_53 rfl ?_
    cases hf
    exact zr_iret dX5_wordsJudged_54
  clear hf
  have hf := hg
  clear hg
  have hL17 : ∀ (n : Nat) (x3_1 : Int32) (x4_2 : Int32), zf2 (fX5_wordsJudged_l5 x2 μ x0 x1) n x3_1 x4_2 = some x3_5 → zz K cX5_wordsJudged (5, RX5, some .int, 0, 0, 0, some (.int r), μ) 0 0 5 [(0, .ref x0), (1, .int x1), (2, .int x2), (3, .int x3_1), (4, .int x4_2)] [] μ := by
    intro n
    induction n with
    | zero => intro x3_1 x4_2 hf; cases hf
    | succ n ih4 =>
      intro x3_1 x4_2 hf
      replace hf := zf2_s hf
      generalize zf2 (fX5_wordsJudged_l5 x2 μ x0 x1) n = F3 at hf ih4
      unfold fX5_wordsJudged_l5 at hf
      refine zr_iload 4 dX5_wordsJudged_5 rfl ?_
      refine zr_bipush 8 dX5_wordsJudged_7 (by decide) ?_
      refine zr_icmp_ge 53 dX5_wordsJudged_9 (by decide) (fun hc => ?_) (fun hc => ?_)
      · rw [if_pos hc] at hf
        cases hf
        exact zr_lv [3] rfl hj6
      · rw [if_neg hc] at hf
        refine zr_iload_n 2 dX5_wordsJudged_12 rfl ?_
        refine zr_bipush 10 dX5_wordsJudged_13 (by decide) ?_
        refine zr_icmp_ge 53 dX5_wordsJudged_15 (by decide) (fun hc => ?_) (fun hc => ?_)
        · rw [if_pos hc] at hf
          cases hf
          exact zr_lv [3] rfl hj6
        · rw [if_neg hc] at hf
          refine zr_aload_n 0 dX5_wordsJudged_18 rfl ?_
          replace hf := zb1_s hf
          obtain ⟨v7, h8, hf⟩ := hf
          refine zr_get (zm_gR_g h8) zk9 (by decide) zl_369 dX5_wordsJudged_19 ?_
          refine zr_iload 4 dX5_wordsJudged_22 rfl ?_
          replace hf := zb1_s hf
          obtain ⟨v9, h10, hf⟩ := hf
          refine zr_iald h10 dX5_wordsJudged_24 ?_
          refine zr_iload_n 1 dX5_wordsJudged_25 rfl ?_
          replace hf := zb1_s hf
          obtain ⟨x3_11, hg, hf⟩ := hf
          have hj12 : zz K cX5_wordsJudged (5, RX5, some .int, 0, 0, 0, some (.int r), μ) 0 0 47 [(0, .ref x0), (1, .int x1), (2, .int x2), (3, .int x3_11), (4, .int x4_2)] [] μ := by
            refine zr_iinc (j := 4) (x4_2 + 1) [(4, .int (x4_2 + 1)), (0, .ref x0), (1, .int x1), (2, .int x2), (3, .int x3_11)] dX5_wordsJudged_47 rfl rfl (Nat.le_of_ble_eq_true rfl) rfl ?_
            refine zr_goto 5 dX5_wordsJudged_50 (by decide) ?_
            exact zr_lv [1, 2, 3, 4, 0] rfl (ih4 x3_11 (x4_2 + 1) hf)
          clear hf
          have hf := hg
          clear hg
          refine zr_icmp_ne 47 dX5_wordsJudged_26 (by decide) (fun hc => ?_) (fun hc => ?_)
          · rw [if_neg hc] at hf
            cases hf
            exact zr_lv [0, 1, 2, 3, 4] rfl hj12
          · rw [if_pos hc] at hf
            refine zr_aload_n 0 dX5_wordsJudged_29 rfl ?_
            replace hf := zb1_s hf
            obtain ⟨v13, h14, hf⟩ := hf
            refine zr_get (zm_gR_g h14) zk9 (by decide) zl_370 dX5_wordsJudged_30 ?_
            refine zr_iload 4 dX5_wordsJudged_33 rfl ?_
            replace hf := zb1_s hf
            obtain ⟨v15, h16, hf⟩ := hf
            refine zr_iald h16 dX5_wordsJudged_35 ?_
            refine zr_iload_n 2 dX5_wordsJudged_36 rfl ?_
            refine zr_icmp_ne 47 dX5_wordsJudged_37 (by decide) (fun hc => ?_) (fun hc => ?_)
            · rw [if_neg hc] at hf
              cases hf
              exact zr_lv [0, 1, 2, 3, 4] rfl hj12
            · rw [if_pos hc] at hf
              refine zr_iload_n 3 dX5_wordsJudged_40 rfl ?_
              refine zr_iconst 1 dX5_wordsJudged_41 (by decide) ?_
              refine zr_iload 4 dX5_wordsJudged_42 rfl ?_
              refine zr_ishl dX5_wordsJudged_44 ?_
              refine zr_ior dX5_wordsJudged_45 ?_
              refine zr_istore_n [(3, .int (x3_1 ||| (1 <<< (x4_2 &&& 31)))), (0, .ref x0), (1, .int x1), (2, .int x2), (4, .int x4_2)] dX5_wordsJudged_46 (Nat.le_of_ble_eq_true rfl) rfl ?_
              cases hf
              exact zr_lv [1, 2, 3, 0, 4] rfl hj12
  exact zr_lv [2, 3, 4, 1, 0] rfl (hL17 _ 0 0 hf)
theorem zl_371 : Cond.fieldLink RX5 22 "TwoEchoes$Sight" "minute" "[I" ∈ zt := zt_at 301 (by decide +kernel)
theorem zl_372 : Cond.fieldLink RX5 27 "TwoEchoes$Sight" "place" "[I" ∈ zt := zt_at 299 (by decide +kernel)
theorem zl_373 : Cond.methodLink RX5 30 yX9_way ∈ zt := zt_at 1124 (by decide +kernel)
theorem zl_374 : Cond.methodLink RX5 36 yX9_isMute ∈ zt := zt_at 1125 (by decide +kernel)
theorem zl_375 : Cond.methodLink RX5 40 yX9_judge ∈ zt := zt_at 1126 (by decide +kernel)
theorem zl_376 : Cond.fieldLink RX5 44 "TwoEchoes$Sight" "word" "[I" ∈ zt := zt_at 303 (by decide +kernel)
theorem zl_377 : Cond.code yX5_wordsJudged cX5_wordsJudged 5 (some .int) ∈ zt := zt_at 1129 (by decide +kernel)
theorem zl_378 : Cond.initialized RX5 ∈ zt := zt_at 137 (by decide +kernel)
theorem zvs_X5_wordsJudged : zvS yX5_wordsJudged cX5_wordsJudged 5 (some .int) 3 := ⟨zl_377, zl_378, ⟨by decide +kernel, by decide +kernel, by decide +kernel⟩, by decide⟩
theorem zl_379 : Cond.methodLink RX5 47 yX5_wordsJudged ∈ zt := zt_at 1127 (by decide +kernel)
theorem zl_380 : Cond.static yX5_wordsJudged ∈ zt := zt_at 1128 (by decide +kernel)
theorem dX5_wordsHeardAs_0 : decode cX5_wordsHeardAs 0 = .ok (.iconst 0, 1) := by decide +kernel
theorem dX5_wordsHeardAs_1 : decode cX5_wordsHeardAs 1 = .ok (.istore 5, 2) := by decide +kernel
theorem dX5_wordsHeardAs_3 : decode cX5_wordsHeardAs 3 = .ok (.aload_n 1, 1) := by decide +kernel
theorem dX5_wordsHeardAs_4 : decode cX5_wordsHeardAs 4 = .ok (.getfield 22, 3) := by decide +kernel
theorem dX5_wordsHeardAs_7 : decode cX5_wordsHeardAs 7 = .ok (.iload_n 2, 1) := by decide +kernel
theorem dX5_wordsHeardAs_8 : decode cX5_wordsHeardAs 8 = .ok (.iaload, 1) := by decide +kernel
theorem dX5_wordsHeardAs_9 : decode cX5_wordsHeardAs 9 = .ok (.iload 4, 2) := by decide +kernel
theorem dX5_wordsHeardAs_11 : decode cX5_wordsHeardAs 11 = .ok (.isub, 1) := by decide +kernel
theorem dX5_wordsHeardAs_12 : decode cX5_wordsHeardAs 12 = .ok (.istore 6, 2) := by decide +kernel
theorem dX5_wordsHeardAs_14 : decode cX5_wordsHeardAs 14 = .ok (.iconst 0, 1) := by decide +kernel
theorem dX5_wordsHeardAs_15 : decode cX5_wordsHeardAs 15 = .ok (.istore 7, 2) := by decide +kernel
theorem dX5_wordsHeardAs_17 : decode cX5_wordsHeardAs 17 = .ok (.iload 7, 2) := by decide +kernel
theorem dX5_wordsHeardAs_19 : decode cX5_wordsHeardAs 19 = .ok (.iconst 2, 1) := by decide +kernel
theorem dX5_wordsHeardAs_20 : decode cX5_wordsHeardAs 20 = .ok (.if_icmp .gt 100, 3) := by decide +kernel
theorem dX5_wordsHeardAs_23 : decode cX5_wordsHeardAs 23 = .ok (.iload 6, 2) := by decide +kernel
theorem dX5_wordsHeardAs_25 : decode cX5_wordsHeardAs 25 = .ok (.ifCond .lt 95, 3) := by decide +kernel
theorem dX5_wordsHeardAs_28 : decode cX5_wordsHeardAs 28 = .ok (.iload 6, 2) := by decide +kernel
theorem dX5_wordsHeardAs_30 : decode cX5_wordsHeardAs 30 = .ok (.aload_n 0, 1) := by decide +kernel
theorem dX5_wordsHeardAs_31 : decode cX5_wordsHeardAs 31 = .ok (.iload_n 3, 1) := by decide +kernel
theorem dX5_wordsHeardAs_32 : decode cX5_wordsHeardAs 32 = .ok (.aload_n 1, 1) := by decide +kernel
theorem dX5_wordsHeardAs_33 : decode cX5_wordsHeardAs 33 = .ok (.getfield 27, 3) := by decide +kernel
theorem dX5_wordsHeardAs_36 : decode cX5_wordsHeardAs 36 = .ok (.iload_n 2, 1) := by decide +kernel
theorem dX5_wordsHeardAs_37 : decode cX5_wordsHeardAs 37 = .ok (.iaload, 1) := by decide +kernel
theorem dX5_wordsHeardAs_38 : decode cX5_wordsHeardAs 38 = .ok (.iload 7, 2) := by decide +kernel
theorem dX5_wordsHeardAs_40 : decode cX5_wordsHeardAs 40 = .ok (.invokevirtual 30, 3) := by decide +kernel
theorem dX5_wordsHeardAs_43 : decode cX5_wordsHeardAs 43 = .ok (.isub, 1) := by decide +kernel
theorem dX5_wordsHeardAs_44 : decode cX5_wordsHeardAs 44 = .ok (.istore 8, 2) := by decide +kernel
theorem dX5_wordsHeardAs_46 : decode cX5_wordsHeardAs 46 = .ok (.iload 8, 2) := by decide +kernel
theorem dX5_wordsHeardAs_48 : decode cX5_wordsHeardAs 48 = .ok (.ifCond .lt 66, 3) := by decide +kernel
theorem dX5_wordsHeardAs_51 : decode cX5_wordsHeardAs 51 = .ok (.aload_n 0, 1) := by decide +kernel
theorem dX5_wordsHeardAs_52 : decode cX5_wordsHeardAs 52 = .ok (.iload 7, 2) := by decide +kernel
theorem dX5_wordsHeardAs_54 : decode cX5_wordsHeardAs 54 = .ok (.iload 4, 2) := by decide +kernel
theorem dX5_wordsHeardAs_56 : decode cX5_wordsHeardAs 56 = .ok (.invokevirtual 36, 3) := by decide +kernel
theorem dX5_wordsHeardAs_59 : decode cX5_wordsHeardAs 59 = .ok (.ifCond .eq 6, 3) := by decide +kernel
theorem dX5_wordsHeardAs_62 : decode cX5_wordsHeardAs 62 = .ok (.goto 52, 3) := by decide +kernel
theorem dX5_wordsHeardAs_65 : decode cX5_wordsHeardAs 65 = .ok (.iload 7, 2) := by decide +kernel
theorem dX5_wordsHeardAs_67 : decode cX5_wordsHeardAs 67 = .ok (.aload_n 0, 1) := by decide +kernel
theorem dX5_wordsHeardAs_68 : decode cX5_wordsHeardAs 68 = .ok (.iload 4, 2) := by decide +kernel
theorem dX5_wordsHeardAs_70 : decode cX5_wordsHeardAs 70 = .ok (.invokevirtual 40, 3) := by decide +kernel
theorem dX5_wordsHeardAs_73 : decode cX5_wordsHeardAs 73 = .ok (.if_icmp .ne 23, 3) := by decide +kernel
theorem dX5_wordsHeardAs_76 : decode cX5_wordsHeardAs 76 = .ok (.iload 5, 2) := by decide +kernel
theorem dX5_wordsHeardAs_78 : decode cX5_wordsHeardAs 78 = .ok (.aload_n 0, 1) := by decide +kernel
theorem dX5_wordsHeardAs_79 : decode cX5_wordsHeardAs 79 = .ok (.aload_n 1, 1) := by decide +kernel
theorem dX5_wordsHeardAs_80 : decode cX5_wordsHeardAs 80 = .ok (.getfield 44, 3) := by decide +kernel
theorem dX5_wordsHeardAs_83 : decode cX5_wordsHeardAs 83 = .ok (.iload_n 2, 1) := by decide +kernel
theorem dX5_wordsHeardAs_84 : decode cX5_wordsHeardAs 84 = .ok (.iaload, 1) := by decide +kernel
theorem dX5_wordsHeardAs_85 : decode cX5_wordsHeardAs 85 = .ok (.iload 8, 2) := by decide +kernel
theorem dX5_wordsHeardAs_87 : decode cX5_wordsHeardAs 87 = .ok (.invokestatic 47, 3) := by decide +kernel
theorem dX5_wordsHeardAs_90 : decode cX5_wordsHeardAs 90 = .ok (.ior, 1) := by decide +kernel
theorem dX5_wordsHeardAs_91 : decode cX5_wordsHeardAs 91 = .ok (.istore 5, 2) := by decide +kernel
theorem dX5_wordsHeardAs_93 : decode cX5_wordsHeardAs 93 = .ok (.goto 21, 3) := by decide +kernel
theorem dX5_wordsHeardAs_96 : decode cX5_wordsHeardAs 96 = .ok (.iload 8, 2) := by decide +kernel
theorem dX5_wordsHeardAs_98 : decode cX5_wordsHeardAs 98 = .ok (.ifCond .ne 16, 3) := by decide +kernel
theorem dX5_wordsHeardAs_101 : decode cX5_wordsHeardAs 101 = .ok (.iload 5, 2) := by decide +kernel
theorem dX5_wordsHeardAs_103 : decode cX5_wordsHeardAs 103 = .ok (.iconst 1, 1) := by decide +kernel
theorem dX5_wordsHeardAs_104 : decode cX5_wordsHeardAs 104 = .ok (.aload_n 1, 1) := by decide +kernel
theorem dX5_wordsHeardAs_105 : decode cX5_wordsHeardAs 105 = .ok (.getfield 44, 3) := by decide +kernel
theorem dX5_wordsHeardAs_108 : decode cX5_wordsHeardAs 108 = .ok (.iload_n 2, 1) := by decide +kernel
theorem dX5_wordsHeardAs_109 : decode cX5_wordsHeardAs 109 = .ok (.iaload, 1) := by decide +kernel
theorem dX5_wordsHeardAs_110 : decode cX5_wordsHeardAs 110 = .ok (.ishl, 1) := by decide +kernel
theorem dX5_wordsHeardAs_111 : decode cX5_wordsHeardAs 111 = .ok (.ior, 1) := by decide +kernel
theorem dX5_wordsHeardAs_112 : decode cX5_wordsHeardAs 112 = .ok (.istore 5, 2) := by decide +kernel
theorem dX5_wordsHeardAs_114 : decode cX5_wordsHeardAs 114 = .ok (.iinc 7 1, 3) := by decide +kernel
theorem dX5_wordsHeardAs_117 : decode cX5_wordsHeardAs 117 = .ok (.goto (-100), 3) := by decide +kernel
theorem dX5_wordsHeardAs_120 : decode cX5_wordsHeardAs 120 = .ok (.iload 5, 2) := by decide +kernel
theorem dX5_wordsHeardAs_122 : decode cX5_wordsHeardAs 122 = .ok (.ireturn, 1) := by decide +kernel
def fX5_wordsHeardAs_l17 (v3 : Int32) (x4 : Int32) (μ : zM) (x1 : Nat) (x2 : Int32) (x0 : Nat) (x3 : Int32) (F7 : Int32 → Int32 → Option (Int32)) (x5_5 : Int32) (x7_6 : Int32) : Option (Int32) :=
  if 2 < x7_6 then (
  some x5_5)
  else (
  if (v3 - x4) < 0 then (
  some x5_5)
  else (
  zb1 (zm_gR μ 6 x1 2) fun v11 =>
  zb1 (zm_aI μ 0 v11 x2) fun v13 =>
  zb1 (fX9_way μ x0 x3 v13 x7_6) fun v16 =>
  zb1 (if ((v3 - x4) - v16) < 0 then (
  some x5_5)
  else (
  zb1 (fX9_isMute μ x0 x7_6 x4) fun v20 =>
  if v20 = 0 then (
  zb1 (fX9_judge μ x0 x4) fun v22 =>
  if x7_6 = v22 then (
  zb1 (zm_gR μ 6 x1 4) fun v27 =>
  zb1 (zm_aI μ 0 v27 x2) fun v29 =>
  zb1 (fX5_wordsJudged μ x0 v29 ((v3 - x4) - v16)) fun v32 =>
  some (x5_5 ||| v32))
  else (
  if ((v3 - x4) - v16) = 0 then (
  zb1 (zm_gR μ 6 x1 4) fun v23 =>
  zb1 (zm_aI μ 0 v23 x2) fun v25 =>
  some (x5_5 ||| (1 <<< (v25 &&& 31))))
  else (
  some x5_5)))
  else (
  some x5_5))) fun x5_17 =>
  F7 x5_17 (x7_6 + 1)))
def fX5_wordsHeardAs (μ : zM) (x0 : Nat) (x1 : Nat) (x2 : Int32) (x3 : Int32) (x4 : Int32) : Option (Int32) :=
  zb1 (zm_gR μ 6 x1 3) fun v1 =>
  zb1 (zm_aI μ 0 v1 x2) fun v3 =>
  zb1 (zf2 (fX5_wordsHeardAs_l17 v3 x4 μ x1 x2 x0 x3) zfu 0 0) fun x5_9 =>
  some x5_9
set_option maxHeartbeats 4000000 in
set_option maxRecDepth 100000 in
theorem cX5_wordsHeardAs_ok {μ : zM} {x0 : Nat} {x1 : Nat} {x2 : Int32} {x3 : Int32} {x4 : Int32} {r : Int32} (hf : fX5_wordsHeardAs μ x0 x1 x2 x3 x4 = some r) : zC yX5_wordsHeardAs cX5_wordsHeardAs 9 (some .int) 2 0 0 [.ref x0, .ref x1, .int x2, .int x3, .int x4] μ (some (.int r)) μ := by
  unfold fX5_wordsHeardAs at hf
  refine zC.of (by decide) (Nat.le_of_ble_eq_true rfl) (fun K hin => ?_)
  clear hin
  show zz K cX5_wordsHeardAs (9, RX5, some .int, 2, 0, 0, some (.int r), μ) 0 0 0 [(0, .ref x0), (1, .ref x1), (2, .int x2), (3, .int x3), (4, .int x4)] [] μ
  refine zr_iconst 0 dX5_wordsHeardAs_0 (by decide) ?_
  refine zr_istore [(5, .int 0), (0, .ref x0), (1, .ref x1), (2, .int x2), (3, .int x3), (4, .int x4)] dX5_wordsHeardAs_1 (Nat.le_of_ble_eq_true rfl) rfl ?_
  refine zr_aload_n 2 dX5_wordsHeardAs_3 rfl ?_
  replace hf := zb1_s hf
  obtain ⟨v1, h2, hf⟩ := hf
  refine zr_get (zm_gR_g h2) zk6 (by decide) zl_371 dX5_wordsHeardAs_4 ?_
  refine zr_iload_n 3 dX5_wordsHeardAs_7 rfl ?_
  replace hf := zb1_s hf
  obtain ⟨v3, h4, hf⟩ := hf
  refine zr_iald h4 dX5_wordsHeardAs_8 ?_
  refine zr_iload 5 dX5_wordsHeardAs_9 rfl ?_
  refine zr_isub dX5_wordsHeardAs_11 ?_
  refine zr_istore [(6, .int (v3 - x4)), (5, .int 0), (0, .ref x0), (1, .ref x1), (2, .int x2), (3, .int x3), (4, .int x4)] dX5_wordsHeardAs_12 (Nat.le_of_ble_eq_true rfl) rfl ?_
  refine zr_iconst 0 dX5_wordsHeardAs_14 (by decide) ?_
  refine zr_istore [(7, .int 0), (6, .int (v3 - x4)), (5, .int 0), (0, .ref x0), (1, .ref x1), (2, .int x2), (3, .int x3), (4, .int x4)] dX5_wordsHeardAs_15 (Nat.le_of_ble_eq_true rfl) rfl ?_
  replace hf := zb1_s hf
  obtain ⟨x5_9, hg, hf⟩ := hf
  have hj10 : zz K cX5_wordsHeardAs (9, RX5, some .int, 2, 0, 0, some (.int r), μ) 0 0 120 [(5, .int x5_9)] [] μ := by
    refine zr_iload 0 dX5_wordsHeardAs_120 rfl ?_
    cases hf
    exact zr_iret dX5_wordsHeardAs_122
  clear hf
  have hf := hg
  clear hg
  have hL33 : ∀ (n : Nat) (x5_5 : Int32) (x7_6 : Int32), zf2 (fX5_wordsHeardAs_l17 v3 x4 μ x1 x2 x0 x3) n x5_5 x7_6 = some x5_9 → zz K cX5_wordsHeardAs (9, RX5, some .int, 2, 0, 0, some (.int r), μ) 0 0 17 [(0, .ref x0), (1, .ref x1), (2, .int x2), (3, .int x3), (4, .int x4), (5, .int x5_5), (6, .int (v3 - x4)), (7, .int x7_6)] [] μ := by
    intro n
    induction n with
    | zero => intro x5_5 x7_6 hf; cases hf
    | succ n ih8 =>
      intro x5_5 x7_6 hf
      replace hf := zf2_s hf
      generalize zf2 (fX5_wordsHeardAs_l17 v3 x4 μ x1 x2 x0 x3) n = F7 at hf ih8
      unfold fX5_wordsHeardAs_l17 at hf
      refine zr_iload 7 dX5_wordsHeardAs_17 rfl ?_
      refine zr_iconst 2 dX5_wordsHeardAs_19 (by decide) ?_
      refine zr_icmp_gt 120 dX5_wordsHeardAs_20 (by decide) (fun hc => ?_) (fun hc => ?_)
      · rw [if_pos hc] at hf
        cases hf
        exact zr_lv [5] rfl hj10
      · rw [if_neg hc] at hf
        refine zr_iload 6 dX5_wordsHeardAs_23 rfl ?_
        refine zr_if_lt 120 dX5_wordsHeardAs_25 (by decide) (fun hc => ?_) (fun hc => ?_)
        · rw [if_pos hc] at hf
          cases hf
          exact zr_lv [5] rfl hj10
        · rw [if_neg hc] at hf
          refine zr_iload 6 dX5_wordsHeardAs_28 rfl ?_
          refine zr_aload_n 0 dX5_wordsHeardAs_30 rfl ?_
          refine zr_iload_n 3 dX5_wordsHeardAs_31 rfl ?_
          refine zr_aload_n 1 dX5_wordsHeardAs_32 rfl ?_
          replace hf := zb1_s hf
          obtain ⟨v11, h12, hf⟩ := hf
          refine zr_get (zm_gR_g h12) zk6 (by decide) zl_372 dX5_wordsHeardAs_33 ?_
          refine zr_iload_n 2 dX5_wordsHeardAs_36 rfl ?_
          replace hf := zb1_s hf
          obtain ⟨v13, h14, hf⟩ := hf
          refine zr_iald h14 dX5_wordsHeardAs_37 ?_
          refine zr_iload 7 dX5_wordsHeardAs_38 rfl ?_
          replace hf := zb1_s hf
          obtain ⟨v16, h15, hf⟩ := hf
          refine zr_callV (ci := 9) [.int x3, .int v13, .int x7_6] (cX9_way_ok h15) zvs_X9_way zl_20 zl_21 (fX9_way_ck h15) rfl rfl zl_373 rfl (Nat.le_of_ble_eq_true rfl) (Nat.le_of_ble_eq_true rfl) (Nat.le_of_ble_eq_true rfl) (Nat.le_of_ble_eq_true rfl) dX5_wordsHeardAs_40 rfl ?_
          refine zr_isub dX5_wordsHeardAs_43 ?_
          refine zr_istore [(8, .int ((v3 - x4) - v16)), (0, .ref x0), (1, .ref x1), (2, .int x2), (3, .int x3), (4, .int x4), (5, .int x5_5), (6, .int (v3 - x4)), (7, .int x7_6)] dX5_wordsHeardAs_44 (Nat.le_of_ble_eq_true rfl) rfl ?_
          refine zr_iload 0 dX5_wordsHeardAs_46 rfl ?_
          replace hf := zb1_s hf
          obtain ⟨x5_17, hg, hf⟩ := hf
          have hj18 : zz K cX5_wordsHeardAs (9, RX5, some .int, 2, 0, 0, some (.int r), μ) 0 0 114 [(0, .ref x0), (1, .ref x1), (2, .int x2), (3, .int x3), (4, .int x4), (5, .int x5_17), (6, .int (v3 - x4)), (7, .int x7_6)] [] μ := by
            refine zr_iinc (j := 7) (x7_6 + 1) [(7, .int (x7_6 + 1)), (0, .ref x0), (1, .ref x1), (2, .int x2), (3, .int x3), (4, .int x4), (5, .int x5_17), (6, .int (v3 - x4))] dX5_wordsHeardAs_114 rfl rfl (Nat.le_of_ble_eq_true rfl) rfl ?_
            refine zr_goto 17 dX5_wordsHeardAs_117 (by decide) ?_
            exact zr_lv [1, 2, 3, 4, 5, 6, 7, 0] rfl (ih8 x5_17 (x7_6 + 1) hf)
          clear hf
          have hf := hg
          clear hg
          refine zr_if_lt 114 dX5_wordsHeardAs_48 (by decide) (fun hc => ?_) (fun hc => ?_)
          · rw [if_pos hc] at hf
            cases hf
            exact zr_lv [1, 2, 3, 4, 5, 6, 7, 8] rfl hj18
          · rw [if_neg hc] at hf
            refine zr_aload_n 1 dX5_wordsHeardAs_51 rfl ?_
            refine zr_iload 8 dX5_wordsHeardAs_52 rfl ?_
            refine zr_iload 5 dX5_wordsHeardAs_54 rfl ?_
            replace hf := zb1_s hf
            obtain ⟨v20, h19, hf⟩ := hf
            refine zr_callV (ci := 9) [.int x7_6, .int x4] (cX9_isMute_ok h19) zvs_X9_isMute zl_16 zl_17 (fX9_isMute_ck h19) rfl rfl zl_374 rfl (Nat.le_of_ble_eq_true rfl) (Nat.le_of_ble_eq_true rfl) (Nat.le_of_ble_eq_true rfl) (Nat.le_of_ble_eq_true rfl) dX5_wordsHeardAs_56 rfl ?_
            refine zr_if_eq 65 dX5_wordsHeardAs_59 (by decide) (fun hc => ?_) (fun hc => ?_)
            · rw [if_pos hc] at hf
              refine zr_iload 8 dX5_wordsHeardAs_65 rfl ?_
              refine zr_aload_n 1 dX5_wordsHeardAs_67 rfl ?_
              refine zr_iload 5 dX5_wordsHeardAs_68 rfl ?_
              replace hf := zb1_s hf
              obtain ⟨v22, h21, hf⟩ := hf
              refine zr_callV (ci := 9) [.int x4] (cX9_judge_ok h21) zvs_X9_judge zl_36 zl_37 (fX9_judge_ck h21) rfl rfl zl_375 rfl (Nat.le_of_ble_eq_true rfl) (Nat.le_of_ble_eq_true rfl) (Nat.le_of_ble_eq_true rfl) (Nat.le_of_ble_eq_true rfl) dX5_wordsHeardAs_70 rfl ?_
              refine zr_icmp_ne 96 dX5_wordsHeardAs_73 (by decide) (fun hc => ?_) (fun hc => ?_)
              · rw [if_neg hc] at hf
                refine zr_iload 0 dX5_wordsHeardAs_96 rfl ?_
                refine zr_if_ne 114 dX5_wordsHeardAs_98 (by decide) (fun hc => ?_) (fun hc => ?_)
                · rw [if_neg hc] at hf
                  cases hf
                  exact zr_lv [1, 2, 3, 4, 5, 6, 7, 8] rfl hj18
                · rw [if_pos hc] at hf
                  refine zr_iload 6 dX5_wordsHeardAs_101 rfl ?_
                  refine zr_iconst 1 dX5_wordsHeardAs_103 (by decide) ?_
                  refine zr_aload_n 2 dX5_wordsHeardAs_104 rfl ?_
                  replace hf := zb1_s hf
                  obtain ⟨v23, h24, hf⟩ := hf
                  refine zr_get (zm_gR_g h24) zk6 (by decide) zl_376 dX5_wordsHeardAs_105 ?_
                  refine zr_iload_n 3 dX5_wordsHeardAs_108 rfl ?_
                  replace hf := zb1_s hf
                  obtain ⟨v25, h26, hf⟩ := hf
                  refine zr_iald h26 dX5_wordsHeardAs_109 ?_
                  refine zr_ishl dX5_wordsHeardAs_110 ?_
                  refine zr_ior dX5_wordsHeardAs_111 ?_
                  refine zr_istore [(5, .int (x5_5 ||| (1 <<< (v25 &&& 31)))), (8, .int ((v3 - x4) - v16)), (0, .ref x0), (1, .ref x1), (2, .int x2), (3, .int x3), (4, .int x4), (6, .int (v3 - x4)), (7, .int x7_6)] dX5_wordsHeardAs_112 (Nat.le_of_ble_eq_true rfl) rfl ?_
                  cases hf
                  exact zr_lv [2, 3, 4, 5, 6, 0, 7, 8] rfl hj18
              · rw [if_pos hc] at hf
                refine zr_iload 6 dX5_wordsHeardAs_76 rfl ?_
                refine zr_aload_n 1 dX5_wordsHeardAs_78 rfl ?_
                refine zr_aload_n 2 dX5_wordsHeardAs_79 rfl ?_
                replace hf := zb1_s hf
                obtain ⟨v27, h28, hf⟩ := hf
                refine zr_get (zm_gR_g h28) zk6 (by decide) zl_376 dX5_wordsHeardAs_80 ?_
                refine zr_iload_n 3 dX5_wordsHeardAs_83 rfl ?_
                replace hf := zb1_s hf
                obtain ⟨v29, h30, hf⟩ := hf
                refine zr_iald h30 dX5_wordsHeardAs_84 ?_
                refine zr_iload 0 dX5_wordsHeardAs_85 rfl ?_
                replace hf := zb1_s hf
                obtain ⟨v32, h31, hf⟩ := hf
                refine zr_callS [.ref x0, .int v29, .int ((v3 - x4) - v16)] (cX5_wordsJudged_ok h31) zvs_X5_wordsJudged zl_380 zl_379 rfl (Nat.le_of_ble_eq_true rfl) (Nat.le_of_ble_eq_true rfl) (Nat.le_of_ble_eq_true rfl) (Nat.le_of_ble_eq_true rfl) dX5_wordsHeardAs_87 rfl ?_
                refine zr_ior dX5_wordsHeardAs_90 ?_
                refine zr_istore [(5, .int (x5_5 ||| v32)), (8, .int ((v3 - x4) - v16)), (0, .ref x0), (1, .ref x1), (2, .int x2), (3, .int x3), (4, .int x4), (6, .int (v3 - x4)), (7, .int x7_6)] dX5_wordsHeardAs_91 (Nat.le_of_ble_eq_true rfl) rfl ?_
                refine zr_goto 114 dX5_wordsHeardAs_93 (by decide) ?_
                cases hf
                exact zr_lv [2, 3, 4, 5, 6, 0, 7, 8] rfl hj18
            · rw [if_neg hc] at hf
              refine zr_goto 114 dX5_wordsHeardAs_62 (by decide) ?_
              cases hf
              exact zr_lv [1, 2, 3, 4, 5, 6, 7, 8] rfl hj18
  exact zr_lv [3, 4, 5, 6, 7, 2, 1, 0] rfl (hL33 _ 0 0 hf)
theorem zl_381 : Cond.fieldLink RX5 57 "TwoEchoes$Sight" "facts" "I" ∈ zt := zt_at 294 (by decide +kernel)
theorem zl_382 : Cond.code yX5_wordsHeardAs cX5_wordsHeardAs 9 (some .int) ∈ zt := zt_at 1123 (by decide +kernel)
theorem zvs_X5_wordsHeardAs : zvS yX5_wordsHeardAs cX5_wordsHeardAs 9 (some .int) 5 := ⟨zl_382, zl_378, ⟨by decide +kernel, by decide +kernel, by decide +kernel⟩, by decide⟩
theorem zl_383 : Cond.methodLink RX5 60 yX5_wordsHeardAs ∈ zt := zt_at 1121 (by decide +kernel)
theorem zl_384 : Cond.static yX5_wordsHeardAs ∈ zt := zt_at 1122 (by decide +kernel)
theorem zl_385 : Cond.fieldLink RX5 64 "TwoEchoes$Sight" "wasHeard" "[I" ∈ zt := zt_at 297 (by decide +kernel)
theorem dX5_wordsMaybe_0 : decode cX5_wordsMaybe 0 = .ok (.sipush 255, 3) := by decide +kernel
theorem dX5_wordsMaybe_3 : decode cX5_wordsMaybe 3 = .ok (.istore 4, 2) := by decide +kernel
theorem dX5_wordsMaybe_5 : decode cX5_wordsMaybe 5 = .ok (.iconst 0, 1) := by decide +kernel
theorem dX5_wordsMaybe_6 : decode cX5_wordsMaybe 6 = .ok (.istore 5, 2) := by decide +kernel
theorem dX5_wordsMaybe_8 : decode cX5_wordsMaybe 8 = .ok (.iload 5, 2) := by decide +kernel
theorem dX5_wordsMaybe_10 : decode cX5_wordsMaybe 10 = .ok (.aload_n 1, 1) := by decide +kernel
theorem dX5_wordsMaybe_11 : decode cX5_wordsMaybe 11 = .ok (.getfield 57, 3) := by decide +kernel
theorem dX5_wordsMaybe_14 : decode cX5_wordsMaybe 14 = .ok (.if_icmp .ge 50, 3) := by decide +kernel
theorem dX5_wordsMaybe_17 : decode cX5_wordsMaybe 17 = .ok (.iload 4, 2) := by decide +kernel
theorem dX5_wordsMaybe_19 : decode cX5_wordsMaybe 19 = .ok (.ifCond .eq 45, 3) := by decide +kernel
theorem dX5_wordsMaybe_22 : decode cX5_wordsMaybe 22 = .ok (.aload_n 0, 1) := by decide +kernel
theorem dX5_wordsMaybe_23 : decode cX5_wordsMaybe 23 = .ok (.aload_n 1, 1) := by decide +kernel
theorem dX5_wordsMaybe_24 : decode cX5_wordsMaybe 24 = .ok (.iload 5, 2) := by decide +kernel
theorem dX5_wordsMaybe_26 : decode cX5_wordsMaybe 26 = .ok (.iload_n 2, 1) := by decide +kernel
theorem dX5_wordsMaybe_27 : decode cX5_wordsMaybe 27 = .ok (.iload_n 3, 1) := by decide +kernel
theorem dX5_wordsMaybe_28 : decode cX5_wordsMaybe 28 = .ok (.invokestatic 60, 3) := by decide +kernel
theorem dX5_wordsMaybe_31 : decode cX5_wordsMaybe 31 = .ok (.istore 6, 2) := by decide +kernel
theorem dX5_wordsMaybe_33 : decode cX5_wordsMaybe 33 = .ok (.iload 4, 2) := by decide +kernel
theorem dX5_wordsMaybe_35 : decode cX5_wordsMaybe 35 = .ok (.aload_n 1, 1) := by decide +kernel
theorem dX5_wordsMaybe_36 : decode cX5_wordsMaybe 36 = .ok (.getfield 64, 3) := by decide +kernel
theorem dX5_wordsMaybe_39 : decode cX5_wordsMaybe 39 = .ok (.iload 5, 2) := by decide +kernel
theorem dX5_wordsMaybe_41 : decode cX5_wordsMaybe 41 = .ok (.iaload, 1) := by decide +kernel
theorem dX5_wordsMaybe_42 : decode cX5_wordsMaybe 42 = .ok (.iconst 1, 1) := by decide +kernel
theorem dX5_wordsMaybe_43 : decode cX5_wordsMaybe 43 = .ok (.if_icmp .ne 8, 3) := by decide +kernel
theorem dX5_wordsMaybe_46 : decode cX5_wordsMaybe 46 = .ok (.iload 6, 2) := by decide +kernel
theorem dX5_wordsMaybe_48 : decode cX5_wordsMaybe 48 = .ok (.goto 7, 3) := by decide +kernel
theorem dX5_wordsMaybe_51 : decode cX5_wordsMaybe 51 = .ok (.iload 6, 2) := by decide +kernel
theorem dX5_wordsMaybe_53 : decode cX5_wordsMaybe 53 = .ok (.iconst (-1), 1) := by decide +kernel
theorem dX5_wordsMaybe_54 : decode cX5_wordsMaybe 54 = .ok (.ixor, 1) := by decide +kernel
theorem dX5_wordsMaybe_55 : decode cX5_wordsMaybe 55 = .ok (.iand, 1) := by decide +kernel
theorem dX5_wordsMaybe_56 : decode cX5_wordsMaybe 56 = .ok (.istore 4, 2) := by decide +kernel
theorem dX5_wordsMaybe_58 : decode cX5_wordsMaybe 58 = .ok (.iinc 5 1, 3) := by decide +kernel
theorem dX5_wordsMaybe_61 : decode cX5_wordsMaybe 61 = .ok (.goto (-53), 3) := by decide +kernel
theorem dX5_wordsMaybe_64 : decode cX5_wordsMaybe 64 = .ok (.iload 4, 2) := by decide +kernel
theorem dX5_wordsMaybe_66 : decode cX5_wordsMaybe 66 = .ok (.ireturn, 1) := by decide +kernel
def fX5_wordsMaybe_l8 (μ : zM) (x1 : Nat) (x0 : Nat) (x2 : Int32) (x3 : Int32) (F3 : Int32 → Int32 → Option (Int32)) (x4_1 : Int32) (x5_2 : Int32) : Option (Int32) :=
  zb1 (zm_gI μ 6 x1 0) fun v7 =>
  if v7 ≤ x5_2 then (
  some x4_1)
  else (
  if x4_1 = 0 then (
  some x4_1)
  else (
  zb1 (fX5_wordsHeardAs μ x0 x1 x5_2 x2 x3) fun v10 =>
  zb1 (zm_gR μ 6 x1 1) fun v11 =>
  zb1 (zm_aI μ 0 v11 x5_2) fun v13 =>
  zb1 (if v13 = 1 then (
  some v10)
  else (
  some (v10 ^^^ (-1)))) fun s15 =>
  F3 (x4_1 &&& s15) (x5_2 + 1)))
def fX5_wordsMaybe (μ : zM) (x0 : Nat) (x1 : Nat) (x2 : Int32) (x3 : Int32) : Option (Int32) :=
  zb1 (zf2 (fX5_wordsMaybe_l8 μ x1 x0 x2 x3) zfu 255 0) fun x4_5 =>
  some x4_5
set_option maxHeartbeats 4000000 in
set_option maxRecDepth 100000 in
theorem cX5_wordsMaybe_ok {μ : zM} {x0 : Nat} {x1 : Nat} {x2 : Int32} {x3 : Int32} {r : Int32} (hf : fX5_wordsMaybe μ x0 x1 x2 x3 = some r) : zC yX5_wordsMaybe cX5_wordsMaybe 7 (some .int) 3 0 0 [.ref x0, .ref x1, .int x2, .int x3] μ (some (.int r)) μ := by
  unfold fX5_wordsMaybe at hf
  refine zC.of (by decide) (Nat.le_of_ble_eq_true rfl) (fun K hin => ?_)
  clear hin
  show zz K cX5_wordsMaybe (7, RX5, some .int, 3, 0, 0, some (.int r), μ) 0 0 0 [(0, .ref x0), (1, .ref x1), (2, .int x2), (3, .int x3)] [] μ
  refine zr_sipush 255 dX5_wordsMaybe_0 (by decide) ?_
  refine zr_istore [(4, .int 255), (0, .ref x0), (1, .ref x1), (2, .int x2), (3, .int x3)] dX5_wordsMaybe_3 (Nat.le_of_ble_eq_true rfl) rfl ?_
  refine zr_iconst 0 dX5_wordsMaybe_5 (by decide) ?_
  refine zr_istore [(5, .int 0), (4, .int 255), (0, .ref x0), (1, .ref x1), (2, .int x2), (3, .int x3)] dX5_wordsMaybe_6 (Nat.le_of_ble_eq_true rfl) rfl ?_
  replace hf := zb1_s hf
  obtain ⟨x4_5, hg, hf⟩ := hf
  have hj6 : zz K cX5_wordsMaybe (7, RX5, some .int, 3, 0, 0, some (.int r), μ) 0 0 64 [(4, .int x4_5)] [] μ := by
    refine zr_iload 0 dX5_wordsMaybe_64 rfl ?_
    cases hf
    exact zr_iret dX5_wordsMaybe_66
  clear hf
  have hf := hg
  clear hg
  have hL17 : ∀ (n : Nat) (x4_1 : Int32) (x5_2 : Int32), zf2 (fX5_wordsMaybe_l8 μ x1 x0 x2 x3) n x4_1 x5_2 = some x4_5 → zz K cX5_wordsMaybe (7, RX5, some .int, 3, 0, 0, some (.int r), μ) 0 0 8 [(0, .ref x0), (1, .ref x1), (2, .int x2), (3, .int x3), (4, .int x4_1), (5, .int x5_2)] [] μ := by
    intro n
    induction n with
    | zero => intro x4_1 x5_2 hf; cases hf
    | succ n ih4 =>
      intro x4_1 x5_2 hf
      replace hf := zf2_s hf
      generalize zf2 (fX5_wordsMaybe_l8 μ x1 x0 x2 x3) n = F3 at hf ih4
      unfold fX5_wordsMaybe_l8 at hf
      refine zr_iload 5 dX5_wordsMaybe_8 rfl ?_
      refine zr_aload_n 1 dX5_wordsMaybe_10 rfl ?_
      replace hf := zb1_s hf
      obtain ⟨v7, h8, hf⟩ := hf
      refine zr_get (zm_gI_g h8) zk6 (by decide) zl_381 dX5_wordsMaybe_11 ?_
      refine zr_icmp_ge 64 dX5_wordsMaybe_14 (by decide) (fun hc => ?_) (fun hc => ?_)
      · rw [if_pos hc] at hf
        cases hf
        exact zr_lv [4] rfl hj6
      · rw [if_neg hc] at hf
        refine zr_iload 4 dX5_wordsMaybe_17 rfl ?_
        refine zr_if_eq 64 dX5_wordsMaybe_19 (by decide) (fun hc => ?_) (fun hc => ?_)
        · rw [if_pos hc] at hf
          cases hf
          exact zr_lv [4] rfl hj6
        · rw [if_neg hc] at hf
          refine zr_aload_n 0 dX5_wordsMaybe_22 rfl ?_
          refine zr_aload_n 1 dX5_wordsMaybe_23 rfl ?_
          refine zr_iload 5 dX5_wordsMaybe_24 rfl ?_
          refine zr_iload_n 2 dX5_wordsMaybe_26 rfl ?_
          refine zr_iload_n 3 dX5_wordsMaybe_27 rfl ?_
          replace hf := zb1_s hf
          obtain ⟨v10, h9, hf⟩ := hf
          refine zr_callS [.ref x0, .ref x1, .int x5_2, .int x2, .int x3] (cX5_wordsHeardAs_ok h9) zvs_X5_wordsHeardAs zl_384 zl_383 rfl (Nat.le_of_ble_eq_true rfl) (Nat.le_of_ble_eq_true rfl) (Nat.le_of_ble_eq_true rfl) (Nat.le_of_ble_eq_true rfl) dX5_wordsMaybe_28 rfl ?_
          refine zr_istore [(6, .int v10), (0, .ref x0), (1, .ref x1), (2, .int x2), (3, .int x3), (4, .int x4_1), (5, .int x5_2)] dX5_wordsMaybe_31 (Nat.le_of_ble_eq_true rfl) rfl ?_
          refine zr_iload 5 dX5_wordsMaybe_33 rfl ?_
          refine zr_aload_n 2 dX5_wordsMaybe_35 rfl ?_
          replace hf := zb1_s hf
          obtain ⟨v11, h12, hf⟩ := hf
          refine zr_get (zm_gR_g h12) zk6 (by decide) zl_385 dX5_wordsMaybe_36 ?_
          refine zr_iload 6 dX5_wordsMaybe_39 rfl ?_
          replace hf := zb1_s hf
          obtain ⟨v13, h14, hf⟩ := hf
          refine zr_iald h14 dX5_wordsMaybe_41 ?_
          refine zr_iconst 1 dX5_wordsMaybe_42 (by decide) ?_
          replace hf := zb1_s hf
          obtain ⟨s15, hg, hf⟩ := hf
          have hj16 : zz K cX5_wordsMaybe (7, RX5, some .int, 3, 0, 0, some (.int r), μ) 0 0 55 [(0, .ref x0), (1, .ref x1), (2, .int x2), (3, .int x3), (5, .int x5_2)] [.int s15, .int x4_1] μ := by
            refine zr_iand dX5_wordsMaybe_55 ?_
            refine zr_istore [(4, .int (x4_1 &&& s15)), (0, .ref x0), (1, .ref x1), (2, .int x2), (3, .int x3), (5, .int x5_2)] dX5_wordsMaybe_56 (Nat.le_of_ble_eq_true rfl) rfl ?_
            refine zr_iinc (j := 5) (x5_2 + 1) [(5, .int (x5_2 + 1)), (4, .int (x4_1 &&& s15)), (0, .ref x0), (1, .ref x1), (2, .int x2), (3, .int x3)] dX5_wordsMaybe_58 rfl rfl (Nat.le_of_ble_eq_true rfl) rfl ?_
            refine zr_goto 8 dX5_wordsMaybe_61 (by decide) ?_
            exact zr_lv [2, 3, 4, 5, 1, 0] rfl (ih4 (x4_1 &&& s15) (x5_2 + 1) hf)
          clear hf
          have hf := hg
          clear hg
          refine zr_icmp_ne 51 dX5_wordsMaybe_43 (by decide) (fun hc => ?_) (fun hc => ?_)
          · rw [if_neg hc] at hf
            refine zr_iload 0 dX5_wordsMaybe_51 rfl ?_
            refine zr_iconst (-1) dX5_wordsMaybe_53 (by decide) ?_
            refine zr_ixor dX5_wordsMaybe_54 ?_
            cases hf
            exact zr_lv [1, 2, 3, 4, 6] rfl hj16
          · rw [if_pos hc] at hf
            refine zr_iload 0 dX5_wordsMaybe_46 rfl ?_
            refine zr_goto 55 dX5_wordsMaybe_48 (by decide) ?_
            cases hf
            exact zr_lv [1, 2, 3, 4, 6] rfl hj16
  exact zr_lv [2, 3, 4, 5, 1, 0] rfl (hL17 _ 255 0 hf)
theorem zl_386 : Cond.code yX5_wordsMaybe cX5_wordsMaybe 7 (some .int) ∈ zt := zt_at 1120 (by decide +kernel)
theorem zvs_X5_wordsMaybe : zvS yX5_wordsMaybe cX5_wordsMaybe 7 (some .int) 4 := ⟨zl_386, zl_378, ⟨by decide +kernel, by decide +kernel, by decide +kernel⟩, by decide⟩
theorem zl_387 : Cond.methodLink RX5 67 yX5_wordsMaybe ∈ zt := zt_at 1118 (by decide +kernel)
theorem zl_388 : Cond.static yX5_wordsMaybe ∈ zt := zt_at 1119 (by decide +kernel)
theorem zl_389 : Cond.methodLink RX5 71 yJ6_bitCount_0f7a4 ∈ zt := zt_at 1130 (by decide +kernel)
theorem dX5_howManyAt_0 : decode cX5_howManyAt 0 = .ok (.iconst 0, 1) := by decide +kernel
theorem dX5_howManyAt_1 : decode cX5_howManyAt 1 = .ok (.istore_n 3, 1) := by decide +kernel
theorem dX5_howManyAt_2 : decode cX5_howManyAt 2 = .ok (.iconst 0, 1) := by decide +kernel
theorem dX5_howManyAt_3 : decode cX5_howManyAt 3 = .ok (.istore 4, 2) := by decide +kernel
theorem dX5_howManyAt_5 : decode cX5_howManyAt 5 = .ok (.iload 4, 2) := by decide +kernel
theorem dX5_howManyAt_7 : decode cX5_howManyAt 7 = .ok (.bipush 100, 2) := by decide +kernel
theorem dX5_howManyAt_9 : decode cX5_howManyAt 9 = .ok (.if_icmp .ge 23, 3) := by decide +kernel
theorem dX5_howManyAt_12 : decode cX5_howManyAt 12 = .ok (.iload_n 3, 1) := by decide +kernel
theorem dX5_howManyAt_13 : decode cX5_howManyAt 13 = .ok (.aload_n 0, 1) := by decide +kernel
theorem dX5_howManyAt_14 : decode cX5_howManyAt 14 = .ok (.aload_n 1, 1) := by decide +kernel
theorem dX5_howManyAt_15 : decode cX5_howManyAt 15 = .ok (.iload_n 2, 1) := by decide +kernel
theorem dX5_howManyAt_16 : decode cX5_howManyAt 16 = .ok (.iload 4, 2) := by decide +kernel
theorem dX5_howManyAt_18 : decode cX5_howManyAt 18 = .ok (.invokestatic 67, 3) := by decide +kernel
theorem dX5_howManyAt_21 : decode cX5_howManyAt 21 = .ok (.invokestatic 71, 3) := by decide +kernel
theorem dX5_howManyAt_24 : decode cX5_howManyAt 24 = .ok (.iadd, 1) := by decide +kernel
theorem dX5_howManyAt_25 : decode cX5_howManyAt 25 = .ok (.istore_n 3, 1) := by decide +kernel
theorem dX5_howManyAt_26 : decode cX5_howManyAt 26 = .ok (.iinc 4 1, 3) := by decide +kernel
theorem dX5_howManyAt_29 : decode cX5_howManyAt 29 = .ok (.goto (-24), 3) := by decide +kernel
theorem dX5_howManyAt_32 : decode cX5_howManyAt 32 = .ok (.iload_n 3, 1) := by decide +kernel
theorem dX5_howManyAt_33 : decode cX5_howManyAt 33 = .ok (.ireturn, 1) := by decide +kernel
def fX5_howManyAt_l5 (μ : zM) (x0 : Nat) (x1 : Nat) (x2 : Int32) (F3 : Int32 → Int32 → Option (Int32)) (x3_1 : Int32) (x4_2 : Int32) : Option (Int32) :=
  if 100 ≤ x4_2 then (
  some x3_1)
  else (
  zb1 (fX5_wordsMaybe μ x0 x1 x2 x4_2) fun v8 =>
  zb1 (fJ6_bitCount_0f7a4 μ v8) fun v10 =>
  F3 (x3_1 + v10) (x4_2 + 1))
def fX5_howManyAt (μ : zM) (x0 : Nat) (x1 : Nat) (x2 : Int32) : Option (Int32) :=
  zb1 (zf2 (fX5_howManyAt_l5 μ x0 x1 x2) zfu 0 0) fun x3_5 =>
  some x3_5
set_option maxHeartbeats 4000000 in
set_option maxRecDepth 100000 in
theorem cX5_howManyAt_ok {μ : zM} {x0 : Nat} {x1 : Nat} {x2 : Int32} {r : Int32} (hf : fX5_howManyAt μ x0 x1 x2 = some r) : zC yX5_howManyAt cX5_howManyAt 5 (some .int) 4 0 0 [.ref x0, .ref x1, .int x2] μ (some (.int r)) μ := by
  unfold fX5_howManyAt at hf
  refine zC.of (by decide) (Nat.le_of_ble_eq_true rfl) (fun K hin => ?_)
  clear hin
  show zz K cX5_howManyAt (5, RX5, some .int, 4, 0, 0, some (.int r), μ) 0 0 0 [(0, .ref x0), (1, .ref x1), (2, .int x2)] [] μ
  refine zr_iconst 0 dX5_howManyAt_0 (by decide) ?_
  refine zr_istore_n [(3, .int 0), (0, .ref x0), (1, .ref x1), (2, .int x2)] dX5_howManyAt_1 (Nat.le_of_ble_eq_true rfl) rfl ?_
  refine zr_iconst 0 dX5_howManyAt_2 (by decide) ?_
  refine zr_istore [(4, .int 0), (3, .int 0), (0, .ref x0), (1, .ref x1), (2, .int x2)] dX5_howManyAt_3 (Nat.le_of_ble_eq_true rfl) rfl ?_
  replace hf := zb1_s hf
  obtain ⟨x3_5, hg, hf⟩ := hf
  have hj6 : zz K cX5_howManyAt (5, RX5, some .int, 4, 0, 0, some (.int r), μ) 0 0 32 [(3, .int x3_5)] [] μ := by
    refine zr_iload_n 0 dX5_howManyAt_32 rfl ?_
    cases hf
    exact zr_iret dX5_howManyAt_33
  clear hf
  have hf := hg
  clear hg
  have hL11 : ∀ (n : Nat) (x3_1 : Int32) (x4_2 : Int32), zf2 (fX5_howManyAt_l5 μ x0 x1 x2) n x3_1 x4_2 = some x3_5 → zz K cX5_howManyAt (5, RX5, some .int, 4, 0, 0, some (.int r), μ) 0 0 5 [(0, .ref x0), (1, .ref x1), (2, .int x2), (3, .int x3_1), (4, .int x4_2)] [] μ := by
    intro n
    induction n with
    | zero => intro x3_1 x4_2 hf; cases hf
    | succ n ih4 =>
      intro x3_1 x4_2 hf
      replace hf := zf2_s hf
      generalize zf2 (fX5_howManyAt_l5 μ x0 x1 x2) n = F3 at hf ih4
      unfold fX5_howManyAt_l5 at hf
      refine zr_iload 4 dX5_howManyAt_5 rfl ?_
      refine zr_bipush 100 dX5_howManyAt_7 (by decide) ?_
      refine zr_icmp_ge 32 dX5_howManyAt_9 (by decide) (fun hc => ?_) (fun hc => ?_)
      · rw [if_pos hc] at hf
        cases hf
        exact zr_lv [3] rfl hj6
      · rw [if_neg hc] at hf
        refine zr_iload_n 3 dX5_howManyAt_12 rfl ?_
        refine zr_aload_n 0 dX5_howManyAt_13 rfl ?_
        refine zr_aload_n 1 dX5_howManyAt_14 rfl ?_
        refine zr_iload_n 2 dX5_howManyAt_15 rfl ?_
        refine zr_iload 4 dX5_howManyAt_16 rfl ?_
        replace hf := zb1_s hf
        obtain ⟨v8, h7, hf⟩ := hf
        refine zr_callS [.ref x0, .ref x1, .int x2, .int x4_2] (cX5_wordsMaybe_ok h7) zvs_X5_wordsMaybe zl_388 zl_387 rfl (Nat.le_of_ble_eq_true rfl) (Nat.le_of_ble_eq_true rfl) (Nat.le_of_ble_eq_true rfl) (Nat.le_of_ble_eq_true rfl) dX5_howManyAt_18 rfl ?_
        replace hf := zb1_s hf
        obtain ⟨v10, h9, hf⟩ := hf
        refine zr_callS [.int v8] (cJ6_bitCount_0f7a4_ok h9) zvs_J6_bitCount_0f7a4 zl_67 zl_389 rfl (Nat.le_of_ble_eq_true rfl) (Nat.le_of_ble_eq_true rfl) (Nat.le_of_ble_eq_true rfl) (Nat.le_of_ble_eq_true rfl) dX5_howManyAt_21 rfl ?_
        refine zr_iadd dX5_howManyAt_24 ?_
        refine zr_istore_n [(3, .int (x3_1 + v10)), (0, .ref x0), (1, .ref x1), (2, .int x2), (4, .int x4_2)] dX5_howManyAt_25 (Nat.le_of_ble_eq_true rfl) rfl ?_
        refine zr_iinc (j := 4) (x4_2 + 1) [(4, .int (x4_2 + 1)), (3, .int (x3_1 + v10)), (0, .ref x0), (1, .ref x1), (2, .int x2)] dX5_howManyAt_26 rfl rfl (Nat.le_of_ble_eq_true rfl) rfl ?_
        refine zr_goto 5 dX5_howManyAt_29 (by decide) ?_
        exact zr_lv [2, 3, 4, 1, 0] rfl (ih4 (x3_1 + v10) (x4_2 + 1) hf)
  exact zr_lv [2, 3, 4, 1, 0] rfl (hL11 _ 0 0 hf)
theorem zl_390 : Cond.fieldLink RX5 76 "TwoEchoes$Valley" "wide" "I" ∈ zt := zt_at 174 (by decide +kernel)
theorem zl_391 : Cond.code yX5_howManyAt cX5_howManyAt 5 (some .int) ∈ zt := zt_at 1117 (by decide +kernel)
theorem zvs_X5_howManyAt : zvS yX5_howManyAt cX5_howManyAt 5 (some .int) 3 := ⟨zl_391, zl_378, ⟨by decide +kernel, by decide +kernel, by decide +kernel⟩, by decide⟩
theorem zl_392 : Cond.methodLink RX5 79 yX5_howManyAt ∈ zt := zt_at 1115 (by decide +kernel)
theorem zl_393 : Cond.static yX5_howManyAt ∈ zt := zt_at 1116 (by decide +kernel)
theorem dX5_howMany_0 : decode cX5_howMany 0 = .ok (.iconst 0, 1) := by decide +kernel
theorem dX5_howMany_1 : decode cX5_howMany 1 = .ok (.istore_n 2, 1) := by decide +kernel
theorem dX5_howMany_2 : decode cX5_howMany 2 = .ok (.iconst 0, 1) := by decide +kernel
theorem dX5_howMany_3 : decode cX5_howMany 3 = .ok (.istore_n 3, 1) := by decide +kernel
theorem dX5_howMany_4 : decode cX5_howMany 4 = .ok (.iload_n 3, 1) := by decide +kernel
theorem dX5_howMany_5 : decode cX5_howMany 5 = .ok (.aload_n 0, 1) := by decide +kernel
theorem dX5_howMany_6 : decode cX5_howMany 6 = .ok (.getfield 76, 3) := by decide +kernel
theorem dX5_howMany_9 : decode cX5_howMany 9 = .ok (.if_icmp .gt 18, 3) := by decide +kernel
theorem dX5_howMany_12 : decode cX5_howMany 12 = .ok (.iload_n 2, 1) := by decide +kernel
theorem dX5_howMany_13 : decode cX5_howMany 13 = .ok (.aload_n 0, 1) := by decide +kernel
theorem dX5_howMany_14 : decode cX5_howMany 14 = .ok (.aload_n 1, 1) := by decide +kernel
theorem dX5_howMany_15 : decode cX5_howMany 15 = .ok (.iload_n 3, 1) := by decide +kernel
theorem dX5_howMany_16 : decode cX5_howMany 16 = .ok (.invokestatic 79, 3) := by decide +kernel
theorem dX5_howMany_19 : decode cX5_howMany 19 = .ok (.iadd, 1) := by decide +kernel
theorem dX5_howMany_20 : decode cX5_howMany 20 = .ok (.istore_n 2, 1) := by decide +kernel
theorem dX5_howMany_21 : decode cX5_howMany 21 = .ok (.iinc 3 1, 3) := by decide +kernel
theorem dX5_howMany_24 : decode cX5_howMany 24 = .ok (.goto (-20), 3) := by decide +kernel
theorem dX5_howMany_27 : decode cX5_howMany 27 = .ok (.iload_n 2, 1) := by decide +kernel
theorem dX5_howMany_28 : decode cX5_howMany 28 = .ok (.ireturn, 1) := by decide +kernel
def fX5_howMany_l4 (μ : zM) (x0 : Nat) (x1 : Nat) (F3 : Int32 → Int32 → Option (Int32)) (x2_1 : Int32) (x3_2 : Int32) : Option (Int32) :=
  zb1 (zm_gI μ 9 x0 0) fun v7 =>
  if v7 < x3_2 then (
  some x2_1)
  else (
  zb1 (fX5_howManyAt μ x0 x1 x3_2) fun v10 =>
  F3 (x2_1 + v10) (x3_2 + 1))
def fX5_howMany (μ : zM) (x0 : Nat) (x1 : Nat) : Option (Int32) :=
  zb1 (zf2 (fX5_howMany_l4 μ x0 x1) zfu 0 0) fun x2_5 =>
  some x2_5
set_option maxHeartbeats 4000000 in
set_option maxRecDepth 100000 in
theorem cX5_howMany_ok {μ : zM} {x0 : Nat} {x1 : Nat} {r : Int32} (hf : fX5_howMany μ x0 x1 = some r) : zC yX5_howMany cX5_howMany 4 (some .int) 5 0 0 [.ref x0, .ref x1] μ (some (.int r)) μ := by
  unfold fX5_howMany at hf
  refine zC.of (by decide) (Nat.le_of_ble_eq_true rfl) (fun K hin => ?_)
  clear hin
  show zz K cX5_howMany (4, RX5, some .int, 5, 0, 0, some (.int r), μ) 0 0 0 [(0, .ref x0), (1, .ref x1)] [] μ
  refine zr_iconst 0 dX5_howMany_0 (by decide) ?_
  refine zr_istore_n [(2, .int 0), (0, .ref x0), (1, .ref x1)] dX5_howMany_1 (Nat.le_of_ble_eq_true rfl) rfl ?_
  refine zr_iconst 0 dX5_howMany_2 (by decide) ?_
  refine zr_istore_n [(3, .int 0), (2, .int 0), (0, .ref x0), (1, .ref x1)] dX5_howMany_3 (Nat.le_of_ble_eq_true rfl) rfl ?_
  replace hf := zb1_s hf
  obtain ⟨x2_5, hg, hf⟩ := hf
  have hj6 : zz K cX5_howMany (4, RX5, some .int, 5, 0, 0, some (.int r), μ) 0 0 27 [(2, .int x2_5)] [] μ := by
    refine zr_iload_n 0 dX5_howMany_27 rfl ?_
    cases hf
    exact zr_iret dX5_howMany_28
  clear hf
  have hf := hg
  clear hg
  have hL11 : ∀ (n : Nat) (x2_1 : Int32) (x3_2 : Int32), zf2 (fX5_howMany_l4 μ x0 x1) n x2_1 x3_2 = some x2_5 → zz K cX5_howMany (4, RX5, some .int, 5, 0, 0, some (.int r), μ) 0 0 4 [(0, .ref x0), (1, .ref x1), (2, .int x2_1), (3, .int x3_2)] [] μ := by
    intro n
    induction n with
    | zero => intro x2_1 x3_2 hf; cases hf
    | succ n ih4 =>
      intro x2_1 x3_2 hf
      replace hf := zf2_s hf
      generalize zf2 (fX5_howMany_l4 μ x0 x1) n = F3 at hf ih4
      unfold fX5_howMany_l4 at hf
      refine zr_iload_n 3 dX5_howMany_4 rfl ?_
      refine zr_aload_n 0 dX5_howMany_5 rfl ?_
      replace hf := zb1_s hf
      obtain ⟨v7, h8, hf⟩ := hf
      refine zr_get (zm_gI_g h8) zk9 (by decide) zl_390 dX5_howMany_6 ?_
      refine zr_icmp_gt 27 dX5_howMany_9 (by decide) (fun hc => ?_) (fun hc => ?_)
      · rw [if_pos hc] at hf
        cases hf
        exact zr_lv [2] rfl hj6
      · rw [if_neg hc] at hf
        refine zr_iload_n 2 dX5_howMany_12 rfl ?_
        refine zr_aload_n 0 dX5_howMany_13 rfl ?_
        refine zr_aload_n 1 dX5_howMany_14 rfl ?_
        refine zr_iload_n 3 dX5_howMany_15 rfl ?_
        replace hf := zb1_s hf
        obtain ⟨v10, h9, hf⟩ := hf
        refine zr_callS [.ref x0, .ref x1, .int x3_2] (cX5_howManyAt_ok h9) zvs_X5_howManyAt zl_393 zl_392 rfl (Nat.le_of_ble_eq_true rfl) (Nat.le_of_ble_eq_true rfl) (Nat.le_of_ble_eq_true rfl) (Nat.le_of_ble_eq_true rfl) dX5_howMany_16 rfl ?_
        refine zr_iadd dX5_howMany_19 ?_
        refine zr_istore_n [(2, .int (x2_1 + v10)), (0, .ref x0), (1, .ref x1), (3, .int x3_2)] dX5_howMany_20 (Nat.le_of_ble_eq_true rfl) rfl ?_
        refine zr_iinc (j := 3) (x3_2 + 1) [(3, .int (x3_2 + 1)), (2, .int (x2_1 + v10)), (0, .ref x0), (1, .ref x1)] dX5_howMany_21 rfl rfl (Nat.le_of_ble_eq_true rfl) rfl ?_
        refine zr_goto 4 dX5_howMany_24 (by decide) ?_
        exact zr_lv [2, 3, 1, 0] rfl (ih4 (x2_1 + v10) (x3_2 + 1) hf)
  exact zr_lv [2, 3, 1, 0] rfl (hL11 _ 0 0 hf)
theorem dX5_wordNumbered_0 : decode cX5_wordNumbered 0 = .ok (.iload_n 1, 1) := by decide +kernel
theorem dX5_wordNumbered_1 : decode cX5_wordNumbered 1 = .ok (.istore_n 2, 1) := by decide +kernel
theorem dX5_wordNumbered_2 : decode cX5_wordNumbered 2 = .ok (.iconst 0, 1) := by decide +kernel
theorem dX5_wordNumbered_3 : decode cX5_wordNumbered 3 = .ok (.istore_n 3, 1) := by decide +kernel
theorem dX5_wordNumbered_4 : decode cX5_wordNumbered 4 = .ok (.iload_n 3, 1) := by decide +kernel
theorem dX5_wordNumbered_5 : decode cX5_wordNumbered 5 = .ok (.bipush 8, 2) := by decide +kernel
theorem dX5_wordNumbered_7 : decode cX5_wordNumbered 7 = .ok (.if_icmp .ge 29, 3) := by decide +kernel
theorem dX5_wordNumbered_10 : decode cX5_wordNumbered 10 = .ok (.iload_n 0, 1) := by decide +kernel
theorem dX5_wordNumbered_11 : decode cX5_wordNumbered 11 = .ok (.iload_n 3, 1) := by decide +kernel
theorem dX5_wordNumbered_12 : decode cX5_wordNumbered 12 = .ok (.ishr, 1) := by decide +kernel
theorem dX5_wordNumbered_13 : decode cX5_wordNumbered 13 = .ok (.iconst 1, 1) := by decide +kernel
theorem dX5_wordNumbered_14 : decode cX5_wordNumbered 14 = .ok (.iand, 1) := by decide +kernel
theorem dX5_wordNumbered_15 : decode cX5_wordNumbered 15 = .ok (.ifCond .ne 6, 3) := by decide +kernel
theorem dX5_wordNumbered_18 : decode cX5_wordNumbered 18 = .ok (.goto 12, 3) := by decide +kernel
theorem dX5_wordNumbered_21 : decode cX5_wordNumbered 21 = .ok (.iload_n 2, 1) := by decide +kernel
theorem dX5_wordNumbered_22 : decode cX5_wordNumbered 22 = .ok (.ifCond .ne 5, 3) := by decide +kernel
theorem dX5_wordNumbered_25 : decode cX5_wordNumbered 25 = .ok (.iload_n 3, 1) := by decide +kernel
theorem dX5_wordNumbered_26 : decode cX5_wordNumbered 26 = .ok (.ireturn, 1) := by decide +kernel
theorem dX5_wordNumbered_27 : decode cX5_wordNumbered 27 = .ok (.iinc 2 (-1), 3) := by decide +kernel
theorem dX5_wordNumbered_30 : decode cX5_wordNumbered 30 = .ok (.iinc 3 1, 3) := by decide +kernel
theorem dX5_wordNumbered_33 : decode cX5_wordNumbered 33 = .ok (.goto (-29), 3) := by decide +kernel
theorem dX5_wordNumbered_36 : decode cX5_wordNumbered 36 = .ok (.iconst (-1), 1) := by decide +kernel
theorem dX5_wordNumbered_37 : decode cX5_wordNumbered 37 = .ok (.ireturn, 1) := by decide +kernel
def fX5_wordNumbered_l4 (x0 : Int32) (F3 : Int32 → Int32 → Option (Int32)) (x2_1 : Int32) (x3_2 : Int32) : Option (Int32) :=
  if 8 ≤ x3_2 then (
  some (-1))
  else (
  if ((x0 >>> (x3_2 &&& 31)) &&& 1) = 0 then (
  F3 x2_1 (x3_2 + 1))
  else (
  if x2_1 = 0 then (
  some x3_2)
  else (
  F3 (x2_1 + (-1)) (x3_2 + 1))))
def fX5_wordNumbered (μ : zM) (x0 : Int32) (x1 : Int32) : Option (Int32) :=
  zf2 (fX5_wordNumbered_l4 x0) zfu x1 0
set_option maxHeartbeats 4000000 in
set_option maxRecDepth 100000 in
theorem cX5_wordNumbered_ok {μ : zM} {x0 : Int32} {x1 : Int32} {r : Int32} (hf : fX5_wordNumbered μ x0 x1 = some r) : zC yX5_wordNumbered cX5_wordNumbered 4 (some .int) 0 0 0 [.int x0, .int x1] μ (some (.int r)) μ := by
  unfold fX5_wordNumbered at hf
  refine zC.of (by decide) (Nat.le_of_ble_eq_true rfl) (fun K hin => ?_)
  clear hin
  show zz K cX5_wordNumbered (4, RX5, some .int, 0, 0, 0, some (.int r), μ) 0 0 0 [(0, .int x0), (1, .int x1)] [] μ
  refine zr_iload_n 1 dX5_wordNumbered_0 rfl ?_
  refine zr_istore_n [(2, .int x1), (0, .int x0), (1, .int x1)] dX5_wordNumbered_1 (Nat.le_of_ble_eq_true rfl) rfl ?_
  refine zr_iconst 0 dX5_wordNumbered_2 (by decide) ?_
  refine zr_istore_n [(3, .int 0), (2, .int x1), (0, .int x0), (1, .int x1)] dX5_wordNumbered_3 (Nat.le_of_ble_eq_true rfl) rfl ?_
  have hL5 : ∀ (n : Nat) (x2_1 : Int32) (x3_2 : Int32), zf2 (fX5_wordNumbered_l4 x0) n x2_1 x3_2 = some r → zz K cX5_wordNumbered (4, RX5, some .int, 0, 0, 0, some (.int r), μ) 0 0 4 [(0, .int x0), (2, .int x2_1), (3, .int x3_2)] [] μ := by
    intro n
    induction n with
    | zero => intro x2_1 x3_2 hf; cases hf
    | succ n ih4 =>
      intro x2_1 x3_2 hf
      replace hf := zf2_s hf
      generalize zf2 (fX5_wordNumbered_l4 x0) n = F3 at hf ih4
      unfold fX5_wordNumbered_l4 at hf
      refine zr_iload_n 2 dX5_wordNumbered_4 rfl ?_
      refine zr_bipush 8 dX5_wordNumbered_5 (by decide) ?_
      refine zr_icmp_ge 36 dX5_wordNumbered_7 (by decide) (fun hc => ?_) (fun hc => ?_)
      · rw [if_pos hc] at hf
        refine zr_iconst (-1) dX5_wordNumbered_36 (by decide) ?_
        cases hf
        exact zr_iret dX5_wordNumbered_37
      · rw [if_neg hc] at hf
        refine zr_iload_n 0 dX5_wordNumbered_10 rfl ?_
        refine zr_iload_n 2 dX5_wordNumbered_11 rfl ?_
        refine zr_ishr dX5_wordNumbered_12 ?_
        refine zr_iconst 1 dX5_wordNumbered_13 (by decide) ?_
        refine zr_iand dX5_wordNumbered_14 ?_
        refine zr_if_ne 21 dX5_wordNumbered_15 (by decide) (fun hc => ?_) (fun hc => ?_)
        · rw [if_neg hc] at hf
          refine zr_iload_n 1 dX5_wordNumbered_21 rfl ?_
          refine zr_if_ne 27 dX5_wordNumbered_22 (by decide) (fun hc => ?_) (fun hc => ?_)
          · rw [if_neg hc] at hf
            refine zr_iinc (j := 1) (x2_1 + (-1)) [(2, .int (x2_1 + (-1))), (0, .int x0), (3, .int x3_2)] dX5_wordNumbered_27 rfl rfl (Nat.le_of_ble_eq_true rfl) rfl ?_
            refine zr_iinc (j := 2) (x3_2 + 1) [(3, .int (x3_2 + 1)), (2, .int (x2_1 + (-1))), (0, .int x0)] dX5_wordNumbered_30 rfl rfl (Nat.le_of_ble_eq_true rfl) rfl ?_
            refine zr_goto 4 dX5_wordNumbered_33 (by decide) ?_
            exact zr_lv [2, 1, 0] rfl (ih4 (x2_1 + (-1)) (x3_2 + 1) hf)
          · rw [if_pos hc] at hf
            refine zr_iload_n 2 dX5_wordNumbered_25 rfl ?_
            cases hf
            exact zr_iret dX5_wordNumbered_26
        · rw [if_pos hc] at hf
          refine zr_goto 30 dX5_wordNumbered_18 (by decide) ?_
          refine zr_iinc (j := 2) (x3_2 + 1) [(3, .int (x3_2 + 1)), (0, .int x0), (2, .int x2_1)] dX5_wordNumbered_30 rfl rfl (Nat.le_of_ble_eq_true rfl) rfl ?_
          refine zr_goto 4 dX5_wordNumbered_33 (by decide) ?_
          exact zr_lv [1, 2, 0] rfl (ih4 x2_1 (x3_2 + 1) hf)
  exact zr_lv [2, 1, 0] rfl (hL5 _ x1 0 hf)
theorem zl_394 : Cond.code yX5_wordNumbered cX5_wordNumbered 4 (some .int) ∈ zt := zt_at 1136 (by decide +kernel)
theorem zvs_X5_wordNumbered : zvS yX5_wordNumbered cX5_wordNumbered 4 (some .int) 2 := ⟨zl_394, zl_378, ⟨by decide +kernel, by decide +kernel, by decide +kernel⟩, by decide⟩
theorem zl_395 : Cond.methodLink RX5 83 yX5_wordNumbered ∈ zt := zt_at 1134 (by decide +kernel)
theorem zl_396 : Cond.static yX5_wordNumbered ∈ zt := zt_at 1135 (by decide +kernel)
theorem dX5_numbered_0 : decode cX5_numbered 0 = .ok (.iload_n 2, 1) := by decide +kernel
theorem dX5_numbered_1 : decode cX5_numbered 1 = .ok (.istore_n 3, 1) := by decide +kernel
theorem dX5_numbered_2 : decode cX5_numbered 2 = .ok (.iconst 0, 1) := by decide +kernel
theorem dX5_numbered_3 : decode cX5_numbered 3 = .ok (.istore 4, 2) := by decide +kernel
theorem dX5_numbered_5 : decode cX5_numbered 5 = .ok (.iload 4, 2) := by decide +kernel
theorem dX5_numbered_7 : decode cX5_numbered 7 = .ok (.aload_n 0, 1) := by decide +kernel
theorem dX5_numbered_8 : decode cX5_numbered 8 = .ok (.getfield 76, 3) := by decide +kernel
theorem dX5_numbered_11 : decode cX5_numbered 11 = .ok (.if_icmp .gt 78, 3) := by decide +kernel
theorem dX5_numbered_14 : decode cX5_numbered 14 = .ok (.iload_n 3, 1) := by decide +kernel
theorem dX5_numbered_15 : decode cX5_numbered 15 = .ok (.ifCond .lt 74, 3) := by decide +kernel
theorem dX5_numbered_18 : decode cX5_numbered 18 = .ok (.iconst 0, 1) := by decide +kernel
theorem dX5_numbered_19 : decode cX5_numbered 19 = .ok (.istore 5, 2) := by decide +kernel
theorem dX5_numbered_21 : decode cX5_numbered 21 = .ok (.iload 5, 2) := by decide +kernel
theorem dX5_numbered_23 : decode cX5_numbered 23 = .ok (.bipush 100, 2) := by decide +kernel
theorem dX5_numbered_25 : decode cX5_numbered 25 = .ok (.if_icmp .ge 58, 3) := by decide +kernel
theorem dX5_numbered_28 : decode cX5_numbered 28 = .ok (.aload_n 0, 1) := by decide +kernel
theorem dX5_numbered_29 : decode cX5_numbered 29 = .ok (.aload_n 1, 1) := by decide +kernel
theorem dX5_numbered_30 : decode cX5_numbered 30 = .ok (.iload 4, 2) := by decide +kernel
theorem dX5_numbered_32 : decode cX5_numbered 32 = .ok (.iload 5, 2) := by decide +kernel
theorem dX5_numbered_34 : decode cX5_numbered 34 = .ok (.invokestatic 67, 3) := by decide +kernel
theorem dX5_numbered_37 : decode cX5_numbered 37 = .ok (.istore 6, 2) := by decide +kernel
theorem dX5_numbered_39 : decode cX5_numbered 39 = .ok (.iload 6, 2) := by decide +kernel
theorem dX5_numbered_41 : decode cX5_numbered 41 = .ok (.invokestatic 71, 3) := by decide +kernel
theorem dX5_numbered_44 : decode cX5_numbered 44 = .ok (.istore 7, 2) := by decide +kernel
theorem dX5_numbered_46 : decode cX5_numbered 46 = .ok (.iload_n 3, 1) := by decide +kernel
theorem dX5_numbered_47 : decode cX5_numbered 47 = .ok (.iload 7, 2) := by decide +kernel
theorem dX5_numbered_49 : decode cX5_numbered 49 = .ok (.if_icmp .ge 23, 3) := by decide +kernel
theorem dX5_numbered_52 : decode cX5_numbered 52 = .ok (.sipush 1000, 3) := by decide +kernel
theorem dX5_numbered_55 : decode cX5_numbered 55 = .ok (.iload 4, 2) := by decide +kernel
theorem dX5_numbered_57 : decode cX5_numbered 57 = .ok (.imul, 1) := by decide +kernel
theorem dX5_numbered_58 : decode cX5_numbered 58 = .ok (.bipush 10, 2) := by decide +kernel
theorem dX5_numbered_60 : decode cX5_numbered 60 = .ok (.iload 5, 2) := by decide +kernel
theorem dX5_numbered_62 : decode cX5_numbered 62 = .ok (.imul, 1) := by decide +kernel
theorem dX5_numbered_63 : decode cX5_numbered 63 = .ok (.iadd, 1) := by decide +kernel
theorem dX5_numbered_64 : decode cX5_numbered 64 = .ok (.iload 6, 2) := by decide +kernel
theorem dX5_numbered_66 : decode cX5_numbered 66 = .ok (.iload_n 3, 1) := by decide +kernel
theorem dX5_numbered_67 : decode cX5_numbered 67 = .ok (.invokestatic 83, 3) := by decide +kernel
theorem dX5_numbered_70 : decode cX5_numbered 70 = .ok (.iadd, 1) := by decide +kernel
theorem dX5_numbered_71 : decode cX5_numbered 71 = .ok (.ireturn, 1) := by decide +kernel
theorem dX5_numbered_72 : decode cX5_numbered 72 = .ok (.iload_n 3, 1) := by decide +kernel
theorem dX5_numbered_73 : decode cX5_numbered 73 = .ok (.iload 7, 2) := by decide +kernel
theorem dX5_numbered_75 : decode cX5_numbered 75 = .ok (.isub, 1) := by decide +kernel
theorem dX5_numbered_76 : decode cX5_numbered 76 = .ok (.istore_n 3, 1) := by decide +kernel
theorem dX5_numbered_77 : decode cX5_numbered 77 = .ok (.iinc 5 1, 3) := by decide +kernel
theorem dX5_numbered_80 : decode cX5_numbered 80 = .ok (.goto (-59), 3) := by decide +kernel
theorem dX5_numbered_83 : decode cX5_numbered 83 = .ok (.iinc 4 1, 3) := by decide +kernel
theorem dX5_numbered_86 : decode cX5_numbered 86 = .ok (.goto (-81), 3) := by decide +kernel
theorem dX5_numbered_89 : decode cX5_numbered 89 = .ok (.iconst (-1), 1) := by decide +kernel
theorem dX5_numbered_90 : decode cX5_numbered 90 = .ok (.ireturn, 1) := by decide +kernel
def fX5_numbered_l21 (F3 : Int32 → Int32 → Option (Int32)) (x4_2 : Int32) (μ : zM) (x0 : Nat) (x1 : Nat) (F9 : Int32 → Int32 → Option (Int32)) (x3_7 : Int32) (x5_8 : Int32) : Option (Int32) :=
  if 100 ≤ x5_8 then (
  F3 x3_7 (x4_2 + 1))
  else (
  zb1 (fX5_wordsMaybe μ x0 x1 x4_2 x5_8) fun v12 =>
  zb1 (fJ6_bitCount_0f7a4 μ v12) fun v14 =>
  if v14 ≤ x3_7 then (
  F9 (x3_7 - v14) (x5_8 + 1))
  else (
  zb1 (fX5_wordNumbered μ v12 x3_7) fun v16 =>
  some (((1000 * x4_2) + (10 * x5_8)) + v16)))
def fX5_numbered_l5 (μ : zM) (x0 : Nat) (x1 : Nat) (F3 : Int32 → Int32 → Option (Int32)) (x3_1 : Int32) (x4_2 : Int32) : Option (Int32) :=
  zb1 (zm_gI μ 9 x0 0) fun v5 =>
  if v5 < x4_2 then (
  some (-1))
  else (
  if x3_1 < 0 then (
  some (-1))
  else (
  zf2 (fX5_numbered_l21 F3 x4_2 μ x0 x1) zfu x3_1 0))
def fX5_numbered (μ : zM) (x0 : Nat) (x1 : Nat) (x2 : Int32) : Option (Int32) :=
  zf2 (fX5_numbered_l5 μ x0 x1) zfu x2 0
set_option maxHeartbeats 4000000 in
set_option maxRecDepth 100000 in
theorem cX5_numbered_ok {μ : zM} {x0 : Nat} {x1 : Nat} {x2 : Int32} {r : Int32} (hf : fX5_numbered μ x0 x1 x2 = some r) : zC yX5_numbered cX5_numbered 8 (some .int) 4 0 0 [.ref x0, .ref x1, .int x2] μ (some (.int r)) μ := by
  unfold fX5_numbered at hf
  refine zC.of (by decide) (Nat.le_of_ble_eq_true rfl) (fun K hin => ?_)
  clear hin
  show zz K cX5_numbered (8, RX5, some .int, 4, 0, 0, some (.int r), μ) 0 0 0 [(0, .ref x0), (1, .ref x1), (2, .int x2)] [] μ
  refine zr_iload_n 2 dX5_numbered_0 rfl ?_
  refine zr_istore_n [(3, .int x2), (0, .ref x0), (1, .ref x1), (2, .int x2)] dX5_numbered_1 (Nat.le_of_ble_eq_true rfl) rfl ?_
  refine zr_iconst 0 dX5_numbered_2 (by decide) ?_
  refine zr_istore [(4, .int 0), (3, .int x2), (0, .ref x0), (1, .ref x1), (2, .int x2)] dX5_numbered_3 (Nat.le_of_ble_eq_true rfl) rfl ?_
  have hL18 : ∀ (n : Nat) (x3_1 : Int32) (x4_2 : Int32), zf2 (fX5_numbered_l5 μ x0 x1) n x3_1 x4_2 = some r → zz K cX5_numbered (8, RX5, some .int, 4, 0, 0, some (.int r), μ) 0 0 5 [(0, .ref x0), (1, .ref x1), (3, .int x3_1), (4, .int x4_2)] [] μ := by
    intro n
    induction n with
    | zero => intro x3_1 x4_2 hf; cases hf
    | succ n ih4 =>
      intro x3_1 x4_2 hf
      replace hf := zf2_s hf
      generalize zf2 (fX5_numbered_l5 μ x0 x1) n = F3 at hf ih4
      unfold fX5_numbered_l5 at hf
      refine zr_iload 3 dX5_numbered_5 rfl ?_
      refine zr_aload_n 0 dX5_numbered_7 rfl ?_
      replace hf := zb1_s hf
      obtain ⟨v5, h6, hf⟩ := hf
      refine zr_get (zm_gI_g h6) zk9 (by decide) zl_390 dX5_numbered_8 ?_
      refine zr_icmp_gt 89 dX5_numbered_11 (by decide) (fun hc => ?_) (fun hc => ?_)
      · rw [if_pos hc] at hf
        refine zr_iconst (-1) dX5_numbered_89 (by decide) ?_
        cases hf
        exact zr_iret dX5_numbered_90
      · rw [if_neg hc] at hf
        refine zr_iload_n 2 dX5_numbered_14 rfl ?_
        refine zr_if_lt 89 dX5_numbered_15 (by decide) (fun hc => ?_) (fun hc => ?_)
        · rw [if_pos hc] at hf
          refine zr_iconst (-1) dX5_numbered_89 (by decide) ?_
          cases hf
          exact zr_iret dX5_numbered_90
        · rw [if_neg hc] at hf
          refine zr_iconst 0 dX5_numbered_18 (by decide) ?_
          refine zr_istore [(5, .int 0), (0, .ref x0), (1, .ref x1), (3, .int x3_1), (4, .int x4_2)] dX5_numbered_19 (Nat.le_of_ble_eq_true rfl) rfl ?_
          have hL17 : ∀ (n : Nat) (x3_7 : Int32) (x5_8 : Int32), zf2 (fX5_numbered_l21 F3 x4_2 μ x0 x1) n x3_7 x5_8 = some r → zz K cX5_numbered (8, RX5, some .int, 4, 0, 0, some (.int r), μ) 0 0 21 [(0, .ref x0), (1, .ref x1), (3, .int x3_7), (4, .int x4_2), (5, .int x5_8)] [] μ := by
            intro n
            induction n with
            | zero => intro x3_7 x5_8 hf; cases hf
            | succ n ih10 =>
              intro x3_7 x5_8 hf
              replace hf := zf2_s hf
              generalize zf2 (fX5_numbered_l21 F3 x4_2 μ x0 x1) n = F9 at hf ih10
              unfold fX5_numbered_l21 at hf
              refine zr_iload 4 dX5_numbered_21 rfl ?_
              refine zr_bipush 100 dX5_numbered_23 (by decide) ?_
              refine zr_icmp_ge 83 dX5_numbered_25 (by decide) (fun hc => ?_) (fun hc => ?_)
              · rw [if_pos hc] at hf
                refine zr_iinc (j := 3) (x4_2 + 1) [(4, .int (x4_2 + 1)), (0, .ref x0), (1, .ref x1), (3, .int x3_7), (5, .int x5_8)] dX5_numbered_83 rfl rfl (Nat.le_of_ble_eq_true rfl) rfl ?_
                refine zr_goto 5 dX5_numbered_86 (by decide) ?_
                exact zr_lv [1, 2, 3, 0] rfl (ih4 x3_7 (x4_2 + 1) hf)
              · rw [if_neg hc] at hf
                refine zr_aload_n 0 dX5_numbered_28 rfl ?_
                refine zr_aload_n 1 dX5_numbered_29 rfl ?_
                refine zr_iload 3 dX5_numbered_30 rfl ?_
                refine zr_iload 4 dX5_numbered_32 rfl ?_
                replace hf := zb1_s hf
                obtain ⟨v12, h11, hf⟩ := hf
                refine zr_callS [.ref x0, .ref x1, .int x4_2, .int x5_8] (cX5_wordsMaybe_ok h11) zvs_X5_wordsMaybe zl_388 zl_387 rfl (Nat.le_of_ble_eq_true rfl) (Nat.le_of_ble_eq_true rfl) (Nat.le_of_ble_eq_true rfl) (Nat.le_of_ble_eq_true rfl) dX5_numbered_34 rfl ?_
                refine zr_istore [(6, .int v12), (0, .ref x0), (1, .ref x1), (3, .int x3_7), (4, .int x4_2), (5, .int x5_8)] dX5_numbered_37 (Nat.le_of_ble_eq_true rfl) rfl ?_
                refine zr_iload 0 dX5_numbered_39 rfl ?_
                replace hf := zb1_s hf
                obtain ⟨v14, h13, hf⟩ := hf
                refine zr_callS [.int v12] (cJ6_bitCount_0f7a4_ok h13) zvs_J6_bitCount_0f7a4 zl_67 zl_389 rfl (Nat.le_of_ble_eq_true rfl) (Nat.le_of_ble_eq_true rfl) (Nat.le_of_ble_eq_true rfl) (Nat.le_of_ble_eq_true rfl) dX5_numbered_41 rfl ?_
                refine zr_istore [(7, .int v14), (6, .int v12), (0, .ref x0), (1, .ref x1), (3, .int x3_7), (4, .int x4_2), (5, .int x5_8)] dX5_numbered_44 (Nat.le_of_ble_eq_true rfl) rfl ?_
                refine zr_iload_n 4 dX5_numbered_46 rfl ?_
                refine zr_iload 0 dX5_numbered_47 rfl ?_
                refine zr_icmp_ge 72 dX5_numbered_49 (by decide) (fun hc => ?_) (fun hc => ?_)
                · rw [if_pos hc] at hf
                  refine zr_iload_n 4 dX5_numbered_72 rfl ?_
                  refine zr_iload 0 dX5_numbered_73 rfl ?_
                  refine zr_isub dX5_numbered_75 ?_
                  refine zr_istore_n [(3, .int (x3_7 - v14)), (7, .int v14), (6, .int v12), (0, .ref x0), (1, .ref x1), (4, .int x4_2), (5, .int x5_8)] dX5_numbered_76 (Nat.le_of_ble_eq_true rfl) rfl ?_
                  refine zr_iinc (j := 6) (x5_8 + 1) [(5, .int (x5_8 + 1)), (3, .int (x3_7 - v14)), (7, .int v14), (6, .int v12), (0, .ref x0), (1, .ref x1), (4, .int x4_2)] dX5_numbered_77 rfl rfl (Nat.le_of_ble_eq_true rfl) rfl ?_
                  refine zr_goto 21 dX5_numbered_80 (by decide) ?_
                  exact zr_lv [4, 5, 1, 6, 0] rfl (ih10 (x3_7 - v14) (x5_8 + 1) hf)
                · rw [if_neg hc] at hf
                  refine zr_sipush 1000 dX5_numbered_52 (by decide) ?_
                  refine zr_iload 5 dX5_numbered_55 rfl ?_
                  refine zr_imul dX5_numbered_57 ?_
                  refine zr_bipush 10 dX5_numbered_58 (by decide) ?_
                  refine zr_iload 6 dX5_numbered_60 rfl ?_
                  refine zr_imul dX5_numbered_62 ?_
                  refine zr_iadd dX5_numbered_63 ?_
                  refine zr_iload 1 dX5_numbered_64 rfl ?_
                  refine zr_iload_n 4 dX5_numbered_66 rfl ?_
                  replace hf := zb1_s hf
                  obtain ⟨v16, h15, hf⟩ := hf
                  refine zr_callS [.int v12, .int x3_7] (cX5_wordNumbered_ok h15) zvs_X5_wordNumbered zl_396 zl_395 rfl (Nat.le_of_ble_eq_true rfl) (Nat.le_of_ble_eq_true rfl) (Nat.le_of_ble_eq_true rfl) (Nat.le_of_ble_eq_true rfl) dX5_numbered_67 rfl ?_
                  refine zr_iadd dX5_numbered_70 ?_
                  cases hf
                  exact zr_iret dX5_numbered_71
          exact zr_lv [1, 2, 3, 4, 0] rfl (hL17 _ x3_1 0 hf)
  exact zr_lv [2, 3, 1, 0] rfl (hL18 _ x2 0 hf)
theorem dX5_onlyPlace_0 : decode cX5_onlyPlace 0 = .ok (.iconst (-1), 1) := by decide +kernel
theorem dX5_onlyPlace_1 : decode cX5_onlyPlace 1 = .ok (.istore_n 2, 1) := by decide +kernel
theorem dX5_onlyPlace_2 : decode cX5_onlyPlace 2 = .ok (.iconst 0, 1) := by decide +kernel
theorem dX5_onlyPlace_3 : decode cX5_onlyPlace 3 = .ok (.istore_n 3, 1) := by decide +kernel
theorem dX5_onlyPlace_4 : decode cX5_onlyPlace 4 = .ok (.iload_n 3, 1) := by decide +kernel
theorem dX5_onlyPlace_5 : decode cX5_onlyPlace 5 = .ok (.aload_n 0, 1) := by decide +kernel
theorem dX5_onlyPlace_6 : decode cX5_onlyPlace 6 = .ok (.getfield 76, 3) := by decide +kernel
theorem dX5_onlyPlace_9 : decode cX5_onlyPlace 9 = .ok (.if_icmp .gt 30, 3) := by decide +kernel
theorem dX5_onlyPlace_12 : decode cX5_onlyPlace 12 = .ok (.aload_n 0, 1) := by decide +kernel
theorem dX5_onlyPlace_13 : decode cX5_onlyPlace 13 = .ok (.aload_n 1, 1) := by decide +kernel
theorem dX5_onlyPlace_14 : decode cX5_onlyPlace 14 = .ok (.iload_n 3, 1) := by decide +kernel
theorem dX5_onlyPlace_15 : decode cX5_onlyPlace 15 = .ok (.invokestatic 79, 3) := by decide +kernel
theorem dX5_onlyPlace_18 : decode cX5_onlyPlace 18 = .ok (.ifCond .ne 6, 3) := by decide +kernel
theorem dX5_onlyPlace_21 : decode cX5_onlyPlace 21 = .ok (.goto 12, 3) := by decide +kernel
theorem dX5_onlyPlace_24 : decode cX5_onlyPlace 24 = .ok (.iload_n 2, 1) := by decide +kernel
theorem dX5_onlyPlace_25 : decode cX5_onlyPlace 25 = .ok (.iconst (-1), 1) := by decide +kernel
theorem dX5_onlyPlace_26 : decode cX5_onlyPlace 26 = .ok (.if_icmp .eq 5, 3) := by decide +kernel
theorem dX5_onlyPlace_29 : decode cX5_onlyPlace 29 = .ok (.iconst (-1), 1) := by decide +kernel
theorem dX5_onlyPlace_30 : decode cX5_onlyPlace 30 = .ok (.ireturn, 1) := by decide +kernel
theorem dX5_onlyPlace_31 : decode cX5_onlyPlace 31 = .ok (.iload_n 3, 1) := by decide +kernel
theorem dX5_onlyPlace_32 : decode cX5_onlyPlace 32 = .ok (.istore_n 2, 1) := by decide +kernel
theorem dX5_onlyPlace_33 : decode cX5_onlyPlace 33 = .ok (.iinc 3 1, 3) := by decide +kernel
theorem dX5_onlyPlace_36 : decode cX5_onlyPlace 36 = .ok (.goto (-32), 3) := by decide +kernel
theorem dX5_onlyPlace_39 : decode cX5_onlyPlace 39 = .ok (.iload_n 2, 1) := by decide +kernel
theorem dX5_onlyPlace_40 : decode cX5_onlyPlace 40 = .ok (.ireturn, 1) := by decide +kernel
def fX5_onlyPlace_l4 (μ : zM) (x0 : Nat) (x1 : Nat) (F3 : Int32 → Int32 → Option (Int32)) (x2_1 : Int32) (x3_2 : Int32) : Option (Int32) :=
  zb1 (zm_gI μ 9 x0 0) fun v5 =>
  if v5 < x3_2 then (
  some x2_1)
  else (
  zb1 (fX5_howManyAt μ x0 x1 x3_2) fun v8 =>
  if v8 = 0 then (
  F3 x2_1 (x3_2 + 1))
  else (
  if x2_1 = (-1) then (
  F3 x3_2 (x3_2 + 1))
  else (
  some (-1))))
def fX5_onlyPlace (μ : zM) (x0 : Nat) (x1 : Nat) : Option (Int32) :=
  zf2 (fX5_onlyPlace_l4 μ x0 x1) zfu (-1) 0
set_option maxHeartbeats 4000000 in
set_option maxRecDepth 100000 in
theorem cX5_onlyPlace_ok {μ : zM} {x0 : Nat} {x1 : Nat} {r : Int32} (hf : fX5_onlyPlace μ x0 x1 = some r) : zC yX5_onlyPlace cX5_onlyPlace 4 (some .int) 5 0 0 [.ref x0, .ref x1] μ (some (.int r)) μ := by
  unfold fX5_onlyPlace at hf
  refine zC.of (by decide) (Nat.le_of_ble_eq_true rfl) (fun K hin => ?_)
  clear hin
  show zz K cX5_onlyPlace (4, RX5, some .int, 5, 0, 0, some (.int r), μ) 0 0 0 [(0, .ref x0), (1, .ref x1)] [] μ
  refine zr_iconst (-1) dX5_onlyPlace_0 (by decide) ?_
  refine zr_istore_n [(2, .int (-1)), (0, .ref x0), (1, .ref x1)] dX5_onlyPlace_1 (Nat.le_of_ble_eq_true rfl) rfl ?_
  refine zr_iconst 0 dX5_onlyPlace_2 (by decide) ?_
  refine zr_istore_n [(3, .int 0), (2, .int (-1)), (0, .ref x0), (1, .ref x1)] dX5_onlyPlace_3 (Nat.le_of_ble_eq_true rfl) rfl ?_
  have hL9 : ∀ (n : Nat) (x2_1 : Int32) (x3_2 : Int32), zf2 (fX5_onlyPlace_l4 μ x0 x1) n x2_1 x3_2 = some r → zz K cX5_onlyPlace (4, RX5, some .int, 5, 0, 0, some (.int r), μ) 0 0 4 [(0, .ref x0), (1, .ref x1), (2, .int x2_1), (3, .int x3_2)] [] μ := by
    intro n
    induction n with
    | zero => intro x2_1 x3_2 hf; cases hf
    | succ n ih4 =>
      intro x2_1 x3_2 hf
      replace hf := zf2_s hf
      generalize zf2 (fX5_onlyPlace_l4 μ x0 x1) n = F3 at hf ih4
      unfold fX5_onlyPlace_l4 at hf
      refine zr_iload_n 3 dX5_onlyPlace_4 rfl ?_
      refine zr_aload_n 0 dX5_onlyPlace_5 rfl ?_
      replace hf := zb1_s hf
      obtain ⟨v5, h6, hf⟩ := hf
      refine zr_get (zm_gI_g h6) zk9 (by decide) zl_390 dX5_onlyPlace_6 ?_
      refine zr_icmp_gt 39 dX5_onlyPlace_9 (by decide) (fun hc => ?_) (fun hc => ?_)
      · rw [if_pos hc] at hf
        refine zr_iload_n 2 dX5_onlyPlace_39 rfl ?_
        cases hf
        exact zr_iret dX5_onlyPlace_40
      · rw [if_neg hc] at hf
        refine zr_aload_n 0 dX5_onlyPlace_12 rfl ?_
        refine zr_aload_n 1 dX5_onlyPlace_13 rfl ?_
        refine zr_iload_n 3 dX5_onlyPlace_14 rfl ?_
        replace hf := zb1_s hf
        obtain ⟨v8, h7, hf⟩ := hf
        refine zr_callS [.ref x0, .ref x1, .int x3_2] (cX5_howManyAt_ok h7) zvs_X5_howManyAt zl_393 zl_392 rfl (Nat.le_of_ble_eq_true rfl) (Nat.le_of_ble_eq_true rfl) (Nat.le_of_ble_eq_true rfl) (Nat.le_of_ble_eq_true rfl) dX5_onlyPlace_15 rfl ?_
        refine zr_if_ne 24 dX5_onlyPlace_18 (by decide) (fun hc => ?_) (fun hc => ?_)
        · rw [if_neg hc] at hf
          refine zr_iload_n 2 dX5_onlyPlace_24 rfl ?_
          refine zr_iconst (-1) dX5_onlyPlace_25 (by decide) ?_
          refine zr_icmp_eq 31 dX5_onlyPlace_26 (by decide) (fun hc => ?_) (fun hc => ?_)
          · rw [if_pos hc] at hf
            refine zr_iload_n 3 dX5_onlyPlace_31 rfl ?_
            refine zr_istore_n [(2, .int x3_2), (0, .ref x0), (1, .ref x1), (3, .int x3_2)] dX5_onlyPlace_32 (Nat.le_of_ble_eq_true rfl) rfl ?_
            refine zr_iinc (j := 3) (x3_2 + 1) [(3, .int (x3_2 + 1)), (2, .int x3_2), (0, .ref x0), (1, .ref x1)] dX5_onlyPlace_33 rfl rfl (Nat.le_of_ble_eq_true rfl) rfl ?_
            refine zr_goto 4 dX5_onlyPlace_36 (by decide) ?_
            exact zr_lv [2, 3, 1, 0] rfl (ih4 x3_2 (x3_2 + 1) hf)
          · rw [if_neg hc] at hf
            refine zr_iconst (-1) dX5_onlyPlace_29 (by decide) ?_
            cases hf
            exact zr_iret dX5_onlyPlace_30
        · rw [if_pos hc] at hf
          refine zr_goto 33 dX5_onlyPlace_21 (by decide) ?_
          refine zr_iinc (j := 3) (x3_2 + 1) [(3, .int (x3_2 + 1)), (0, .ref x0), (1, .ref x1), (2, .int x2_1)] dX5_onlyPlace_33 rfl rfl (Nat.le_of_ble_eq_true rfl) rfl ?_
          refine zr_goto 4 dX5_onlyPlace_36 (by decide) ?_
          exact zr_lv [1, 2, 3, 0] rfl (ih4 x2_1 (x3_2 + 1) hf)
  exact zr_lv [2, 3, 1, 0] rfl (hL9 _ (-1) 0 hf)
theorem zl_397 : Cond.methodLink RX5 87 yJ7_fill_53178 ∈ zt := zt_at 1145 (by decide +kernel)
theorem zl_398 : Cond.methodLink RX5 97 Lib.Math.max.name ∈ zt := zt_at 1154 (by decide +kernel)
theorem dX5_countByThought_0 : decode cX5_countByThought 0 = .ok (.aload_n 0, 1) := by decide +kernel
theorem dX5_countByThought_1 : decode cX5_countByThought 1 = .ok (.getfield 15, 3) := by decide +kernel
theorem dX5_countByThought_4 : decode cX5_countByThought 4 = .ok (.iconst 0, 1) := by decide +kernel
theorem dX5_countByThought_5 : decode cX5_countByThought 5 = .ok (.invokestatic 87, 3) := by decide +kernel
theorem dX5_countByThought_8 : decode cX5_countByThought 8 = .ok (.aload_n 0, 1) := by decide +kernel
theorem dX5_countByThought_9 : decode cX5_countByThought 9 = .ok (.iconst 0, 1) := by decide +kernel
theorem dX5_countByThought_10 : decode cX5_countByThought 10 = .ok (.putfield 18, 3) := by decide +kernel
theorem dX5_countByThought_13 : decode cX5_countByThought 13 = .ok (.iconst 0, 1) := by decide +kernel
theorem dX5_countByThought_14 : decode cX5_countByThought 14 = .ok (.istore_n 3, 1) := by decide +kernel
theorem dX5_countByThought_15 : decode cX5_countByThought 15 = .ok (.iload_n 3, 1) := by decide +kernel
theorem dX5_countByThought_16 : decode cX5_countByThought 16 = .ok (.bipush 8, 2) := by decide +kernel
theorem dX5_countByThought_18 : decode cX5_countByThought 18 = .ok (.if_icmp .ge 49, 3) := by decide +kernel
theorem dX5_countByThought_21 : decode cX5_countByThought 21 = .ok (.iload_n 2, 1) := by decide +kernel
theorem dX5_countByThought_22 : decode cX5_countByThought 22 = .ok (.iload_n 3, 1) := by decide +kernel
theorem dX5_countByThought_23 : decode cX5_countByThought 23 = .ok (.ishr, 1) := by decide +kernel
theorem dX5_countByThought_24 : decode cX5_countByThought 24 = .ok (.iconst 1, 1) := by decide +kernel
theorem dX5_countByThought_25 : decode cX5_countByThought 25 = .ok (.iand, 1) := by decide +kernel
theorem dX5_countByThought_26 : decode cX5_countByThought 26 = .ok (.ifCond .eq 35, 3) := by decide +kernel
theorem dX5_countByThought_29 : decode cX5_countByThought 29 = .ok (.aload_n 0, 1) := by decide +kernel
theorem dX5_countByThought_30 : decode cX5_countByThought 30 = .ok (.getfield 15, 3) := by decide +kernel
theorem dX5_countByThought_33 : decode cX5_countByThought 33 = .ok (.aload_n 1, 1) := by decide +kernel
theorem dX5_countByThought_34 : decode cX5_countByThought 34 = .ok (.getfield 54, 3) := by decide +kernel
theorem dX5_countByThought_37 : decode cX5_countByThought 37 = .ok (.iload_n 3, 1) := by decide +kernel
theorem dX5_countByThought_38 : decode cX5_countByThought 38 = .ok (.iaload, 1) := by decide +kernel
theorem dX5_countByThought_39 : decode cX5_countByThought 39 = .ok (.dup2, 1) := by decide +kernel
theorem dX5_countByThought_40 : decode cX5_countByThought 40 = .ok (.iaload, 1) := by decide +kernel
theorem dX5_countByThought_41 : decode cX5_countByThought 41 = .ok (.iconst 1, 1) := by decide +kernel
theorem dX5_countByThought_42 : decode cX5_countByThought 42 = .ok (.iadd, 1) := by decide +kernel
theorem dX5_countByThought_43 : decode cX5_countByThought 43 = .ok (.iastore, 1) := by decide +kernel
theorem dX5_countByThought_44 : decode cX5_countByThought 44 = .ok (.aload_n 0, 1) := by decide +kernel
theorem dX5_countByThought_45 : decode cX5_countByThought 45 = .ok (.aload_n 0, 1) := by decide +kernel
theorem dX5_countByThought_46 : decode cX5_countByThought 46 = .ok (.getfield 18, 3) := by decide +kernel
theorem dX5_countByThought_49 : decode cX5_countByThought 49 = .ok (.aload_n 1, 1) := by decide +kernel
theorem dX5_countByThought_50 : decode cX5_countByThought 50 = .ok (.getfield 54, 3) := by decide +kernel
theorem dX5_countByThought_53 : decode cX5_countByThought 53 = .ok (.iload_n 3, 1) := by decide +kernel
theorem dX5_countByThought_54 : decode cX5_countByThought 54 = .ok (.iaload, 1) := by decide +kernel
theorem dX5_countByThought_55 : decode cX5_countByThought 55 = .ok (.invokestatic 97, 3) := by decide +kernel
theorem dX5_countByThought_58 : decode cX5_countByThought 58 = .ok (.putfield 18, 3) := by decide +kernel
theorem dX5_countByThought_61 : decode cX5_countByThought 61 = .ok (.iinc 3 1, 3) := by decide +kernel
theorem dX5_countByThought_64 : decode cX5_countByThought 64 = .ok (.goto (-49), 3) := by decide +kernel
theorem dX5_countByThought_67 : decode cX5_countByThought 67 = .ok (.return_, 1) := by decide +kernel
def fX5_countByThought_l15 (x2 : Int32) (x0 : Nat) (x1 : Nat) (F9 : Int32 → zM → Option (zM)) (x3_7 : Int32) (m8 : zM) : Option (zM) :=
  if 8 ≤ x3_7 then (
  some m8)
  else (
  zb1 (if ((x2 >>> (x3_7 &&& 31)) &&& 1) = 0 then (
  some m8)
  else (
  zb1 (zm_gR m8 5 x0 1) fun v15 =>
  zb1 (zm_gR m8 9 x1 2) fun v17 =>
  zb1 (zm_aI m8 0 v17 x3_7) fun v19 =>
  zb1 (zm_aI m8 0 v15 v19) fun v21 =>
  zb1 (zm_sI m8 0 v15 v19 (v21 + 1)) fun m23 =>
  zb1 (zm_gI m23 5 x0 2) fun v25 =>
  zb1 (zm_gR m23 9 x1 2) fun v27 =>
  zb1 (zm_aI m23 0 v27 x3_7) fun v29 =>
  zb1 (zm_p m23 5 x0 2 (.int (if v25 < v29 then v29 else v25 : Int32))) fun m31 =>
  some m31)) fun m13 =>
  F9 (x3_7 + 1) m13)
def fX5_countByThought (μ : zM) (x0 : Nat) (x1 : Nat) (x2 : Int32) : Option (zM) := zgd (zm_ck μ 5 x0) <|
  zb1 (zm_gR μ 5 x0 1) fun v1 =>
  zb1 (fJ7_fill_53178 μ v1 0) fun m4 =>
  zb1 (zm_p m4 5 x0 2 (.int 0)) fun m5 =>
  zb1 (zf2 (fX5_countByThought_l15 x2 x0 x1) zfu 0 m5) fun m11 =>
  some m11
theorem fX5_countByThought_ck {μ : zM} {x0 : Nat} {x1 : Nat} {x2 : Int32} {z : zM} (h : fX5_countByThought μ x0 x1 x2 = some z) : zm_ck μ 5 x0 = true := (zgd_s h).1
set_option maxHeartbeats 4000000 in
set_option maxRecDepth 100000 in
theorem cX5_countByThought_ok {μ : zM} {x0 : Nat} {x1 : Nat} {x2 : Int32} {mo : zM} (hf : fX5_countByThought μ x0 x1 x2 = some mo) : zC yX5_countByThought cX5_countByThought 4 (none) 1 0 0 [.ref x0, .ref x1, .int x2] μ (none) mo := by
  replace hf := (zgd_s hf).2
  refine zC.of (by decide) (Nat.le_of_ble_eq_true rfl) (fun K hin => ?_)
  clear hin
  show zz K cX5_countByThought (4, RX5, none, 1, 0, 0, none, mo) 0 0 0 [(0, .ref x0), (1, .ref x1), (2, .int x2)] [] μ
  refine zr_aload_n 0 dX5_countByThought_0 rfl ?_
  replace hf := zb1_s hf
  obtain ⟨v1, h2, hf⟩ := hf
  refine zr_get (zm_gR_g h2) zk5 (by decide) zl_367 dX5_countByThought_1 ?_
  refine zr_iconst 0 dX5_countByThought_4 (by decide) ?_
  replace hf := zb1_s hf
  obtain ⟨m4, h3, hf⟩ := hf
  refine zr_callS [.ref v1, .int 0] (cJ7_fill_53178_ok h3) zvs_J7_fill_53178 zl_49 zl_397 rfl (Nat.le_of_ble_eq_true rfl) (Nat.le_of_ble_eq_true rfl) (Nat.le_of_ble_eq_true rfl) (Nat.le_of_ble_eq_true rfl) dX5_countByThought_5 rfl ?_
  refine zr_aload_n 0 dX5_countByThought_8 rfl ?_
  refine zr_iconst 0 dX5_countByThought_9 (by decide) ?_
  replace hf := zb1_s hf
  obtain ⟨m5, h6, hf⟩ := hf
  refine zr_put h6 zk5 (by decide) zl_368 rfl rfl rfl dX5_countByThought_10 ?_
  refine zr_iconst 0 dX5_countByThought_13 (by decide) ?_
  refine zr_istore_n [(3, .int 0), (0, .ref x0), (1, .ref x1), (2, .int x2)] dX5_countByThought_14 (Nat.le_of_ble_eq_true rfl) rfl ?_
  replace hf := zb1_s hf
  obtain ⟨m11, hg, hf⟩ := hf
  have hj12 : zz K cX5_countByThought (4, RX5, none, 1, 0, 0, none, mo) 0 0 67 [] [] m11 := by
    cases hf
    exact zr_vret dX5_countByThought_67
  clear hf
  have hf := hg
  clear hg
  have hL33 : ∀ (n : Nat) (x3_7 : Int32) (m8 : zM), zf2 (fX5_countByThought_l15 x2 x0 x1) n x3_7 m8 = some m11 → zz K cX5_countByThought (4, RX5, none, 1, 0, 0, none, mo) 0 0 15 [(0, .ref x0), (1, .ref x1), (2, .int x2), (3, .int x3_7)] [] m8 := by
    intro n
    induction n with
    | zero => intro x3_7 m8 hf; cases hf
    | succ n ih10 =>
      intro x3_7 m8 hf
      replace hf := zf2_s hf
      generalize zf2 (fX5_countByThought_l15 x2 x0 x1) n = F9 at hf ih10
      unfold fX5_countByThought_l15 at hf
      refine zr_iload_n 3 dX5_countByThought_15 rfl ?_
      refine zr_bipush 8 dX5_countByThought_16 (by decide) ?_
      refine zr_icmp_ge 67 dX5_countByThought_18 (by decide) (fun hc => ?_) (fun hc => ?_)
      · rw [if_pos hc] at hf
        cases hf
        exact zr_lv [] rfl hj12
      · rw [if_neg hc] at hf
        refine zr_iload_n 2 dX5_countByThought_21 rfl ?_
        refine zr_iload_n 3 dX5_countByThought_22 rfl ?_
        refine zr_ishr dX5_countByThought_23 ?_
        refine zr_iconst 1 dX5_countByThought_24 (by decide) ?_
        refine zr_iand dX5_countByThought_25 ?_
        replace hf := zb1_s hf
        obtain ⟨m13, hg, hf⟩ := hf
        have hj14 : zz K cX5_countByThought (4, RX5, none, 1, 0, 0, none, mo) 0 0 61 [(0, .ref x0), (1, .ref x1), (2, .int x2), (3, .int x3_7)] [] m13 := by
          refine zr_iinc (j := 3) (x3_7 + 1) [(3, .int (x3_7 + 1)), (0, .ref x0), (1, .ref x1), (2, .int x2)] dX5_countByThought_61 rfl rfl (Nat.le_of_ble_eq_true rfl) rfl ?_
          refine zr_goto 15 dX5_countByThought_64 (by decide) ?_
          exact zr_lv [1, 2, 3, 0] rfl (ih10 (x3_7 + 1) m13 hf)
        clear hf
        have hf := hg
        clear hg
        refine zr_if_eq 61 dX5_countByThought_26 (by decide) (fun hc => ?_) (fun hc => ?_)
        · rw [if_pos hc] at hf
          cases hf
          exact zr_lv [0, 1, 2, 3] rfl hj14
        · rw [if_neg hc] at hf
          refine zr_aload_n 0 dX5_countByThought_29 rfl ?_
          replace hf := zb1_s hf
          obtain ⟨v15, h16, hf⟩ := hf
          refine zr_get (zm_gR_g h16) zk5 (by decide) zl_367 dX5_countByThought_30 ?_
          refine zr_aload_n 1 dX5_countByThought_33 rfl ?_
          replace hf := zb1_s hf
          obtain ⟨v17, h18, hf⟩ := hf
          refine zr_get (zm_gR_g h18) zk9 (by decide) zl_370 dX5_countByThought_34 ?_
          refine zr_iload_n 3 dX5_countByThought_37 rfl ?_
          replace hf := zb1_s hf
          obtain ⟨v19, h20, hf⟩ := hf
          refine zr_iald h20 dX5_countByThought_38 ?_
          refine zr_dup2 dX5_countByThought_39 rfl rfl ?_
          replace hf := zb1_s hf
          obtain ⟨v21, h22, hf⟩ := hf
          refine zr_iald h22 dX5_countByThought_40 ?_
          refine zr_iconst 1 dX5_countByThought_41 (by decide) ?_
          refine zr_iadd dX5_countByThought_42 ?_
          replace hf := zb1_s hf
          obtain ⟨m23, h24, hf⟩ := hf
          refine zr_iast h24 dX5_countByThought_43 ?_
          refine zr_aload_n 0 dX5_countByThought_44 rfl ?_
          refine zr_aload_n 0 dX5_countByThought_45 rfl ?_
          replace hf := zb1_s hf
          obtain ⟨v25, h26, hf⟩ := hf
          refine zr_get (zm_gI_g h26) zk5 (by decide) zl_368 dX5_countByThought_46 ?_
          refine zr_aload_n 1 dX5_countByThought_49 rfl ?_
          replace hf := zb1_s hf
          obtain ⟨v27, h28, hf⟩ := hf
          refine zr_get (zm_gR_g h28) zk9 (by decide) zl_370 dX5_countByThought_50 ?_
          refine zr_iload_n 3 dX5_countByThought_53 rfl ?_
          replace hf := zb1_s hf
          obtain ⟨v29, h30, hf⟩ := hf
          refine zr_iald h30 dX5_countByThought_54 ?_
          refine zr_mmax zl_398 zl_55 zl_11 zl_56 (Nat.le_of_ble_eq_true rfl) (Nat.le_of_ble_eq_true rfl) (Nat.le_of_ble_eq_true rfl) (Nat.le_of_ble_eq_true rfl) dX5_countByThought_55 ?_
          replace hf := zb1_s hf
          obtain ⟨m31, h32, hf⟩ := hf
          refine zr_put h32 zk5 (by decide) zl_368 rfl rfl rfl dX5_countByThought_58 ?_
          cases hf
          exact zr_lv [0, 1, 2, 3] rfl hj14
  exact zr_lv [1, 2, 3, 0] rfl (hL33 _ 0 m5 hf)
