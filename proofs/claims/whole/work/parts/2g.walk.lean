theorem zl_495 : Cond.methodLink RX6 28 arraycopyName ∈ zt := zt_at 753 (by decide +kernel)
theorem dX6_copyFrom_0 : decode cX6_copyFrom 0 = .ok (.aload_n 0, 1) := by decide +kernel
theorem dX6_copyFrom_1 : decode cX6_copyFrom 1 = .ok (.aload_n 1, 1) := by decide +kernel
theorem dX6_copyFrom_2 : decode cX6_copyFrom 2 = .ok (.getfield 24, 3) := by decide +kernel
theorem dX6_copyFrom_5 : decode cX6_copyFrom 5 = .ok (.putfield 24, 3) := by decide +kernel
theorem dX6_copyFrom_8 : decode cX6_copyFrom 8 = .ok (.aload_n 1, 1) := by decide +kernel
theorem dX6_copyFrom_9 : decode cX6_copyFrom 9 = .ok (.getfield 9, 3) := by decide +kernel
theorem dX6_copyFrom_12 : decode cX6_copyFrom 12 = .ok (.iconst 0, 1) := by decide +kernel
theorem dX6_copyFrom_13 : decode cX6_copyFrom 13 = .ok (.aload_n 0, 1) := by decide +kernel
theorem dX6_copyFrom_14 : decode cX6_copyFrom 14 = .ok (.getfield 9, 3) := by decide +kernel
theorem dX6_copyFrom_17 : decode cX6_copyFrom 17 = .ok (.iconst 0, 1) := by decide +kernel
theorem dX6_copyFrom_18 : decode cX6_copyFrom 18 = .ok (.bipush 8, 2) := by decide +kernel
theorem dX6_copyFrom_20 : decode cX6_copyFrom 20 = .ok (.invokestatic 28, 3) := by decide +kernel
theorem dX6_copyFrom_23 : decode cX6_copyFrom 23 = .ok (.aload_n 1, 1) := by decide +kernel
theorem dX6_copyFrom_24 : decode cX6_copyFrom 24 = .ok (.getfield 15, 3) := by decide +kernel
theorem dX6_copyFrom_27 : decode cX6_copyFrom 27 = .ok (.iconst 0, 1) := by decide +kernel
theorem dX6_copyFrom_28 : decode cX6_copyFrom 28 = .ok (.aload_n 0, 1) := by decide +kernel
theorem dX6_copyFrom_29 : decode cX6_copyFrom 29 = .ok (.getfield 15, 3) := by decide +kernel
theorem dX6_copyFrom_32 : decode cX6_copyFrom 32 = .ok (.iconst 0, 1) := by decide +kernel
theorem dX6_copyFrom_33 : decode cX6_copyFrom 33 = .ok (.bipush 8, 2) := by decide +kernel
theorem dX6_copyFrom_35 : decode cX6_copyFrom 35 = .ok (.invokestatic 28, 3) := by decide +kernel
theorem dX6_copyFrom_38 : decode cX6_copyFrom 38 = .ok (.aload_n 1, 1) := by decide +kernel
theorem dX6_copyFrom_39 : decode cX6_copyFrom 39 = .ok (.getfield 18, 3) := by decide +kernel
theorem dX6_copyFrom_42 : decode cX6_copyFrom 42 = .ok (.iconst 0, 1) := by decide +kernel
theorem dX6_copyFrom_43 : decode cX6_copyFrom 43 = .ok (.aload_n 0, 1) := by decide +kernel
theorem dX6_copyFrom_44 : decode cX6_copyFrom 44 = .ok (.getfield 18, 3) := by decide +kernel
theorem dX6_copyFrom_47 : decode cX6_copyFrom 47 = .ok (.iconst 0, 1) := by decide +kernel
theorem dX6_copyFrom_48 : decode cX6_copyFrom 48 = .ok (.bipush 8, 2) := by decide +kernel
theorem dX6_copyFrom_50 : decode cX6_copyFrom 50 = .ok (.invokestatic 28, 3) := by decide +kernel
theorem dX6_copyFrom_53 : decode cX6_copyFrom 53 = .ok (.aload_n 1, 1) := by decide +kernel
theorem dX6_copyFrom_54 : decode cX6_copyFrom 54 = .ok (.getfield 21, 3) := by decide +kernel
theorem dX6_copyFrom_57 : decode cX6_copyFrom 57 = .ok (.iconst 0, 1) := by decide +kernel
theorem dX6_copyFrom_58 : decode cX6_copyFrom 58 = .ok (.aload_n 0, 1) := by decide +kernel
theorem dX6_copyFrom_59 : decode cX6_copyFrom 59 = .ok (.getfield 21, 3) := by decide +kernel
theorem dX6_copyFrom_62 : decode cX6_copyFrom 62 = .ok (.iconst 0, 1) := by decide +kernel
theorem dX6_copyFrom_63 : decode cX6_copyFrom 63 = .ok (.bipush 8, 2) := by decide +kernel
theorem dX6_copyFrom_65 : decode cX6_copyFrom 65 = .ok (.invokestatic 28, 3) := by decide +kernel
theorem dX6_copyFrom_68 : decode cX6_copyFrom 68 = .ok (.return_, 1) := by decide +kernel
noncomputable def fX6_copyFrom (μ : zM) (x0 : Nat) (x1 : Nat) : Option (zM) := zgd (zm_ck μ 6 x0) <|
  zb1 (zm_gI μ 6 x1 0) fun v1 =>
  zb1 (zm_p μ 6 x0 0 (.int v1)) fun m3 =>
  zb1 (zm_gR m3 6 x1 1) fun v5 =>
  zb1 (zm_gR m3 6 x0 1) fun v7 =>
  zb1 (zm_cpy m3 0 v5 0 v7 0 8) fun m9 =>
  zb1 (zm_gR m9 6 x1 2) fun v11 =>
  zb1 (zm_gR m9 6 x0 2) fun v13 =>
  zb1 (zm_cpy m9 0 v11 0 v13 0 8) fun m15 =>
  zb1 (zm_gR m15 6 x1 3) fun v17 =>
  zb1 (zm_gR m15 6 x0 3) fun v19 =>
  zb1 (zm_cpy m15 0 v17 0 v19 0 8) fun m21 =>
  zb1 (zm_gR m21 6 x1 4) fun v23 =>
  zb1 (zm_gR m21 6 x0 4) fun v25 =>
  zb1 (zm_cpy m21 0 v23 0 v25 0 8) fun m27 =>
  some m27
theorem fX6_copyFrom_ck {μ : zM} {x0 : Nat} {x1 : Nat} {z : zM} (h : fX6_copyFrom μ x0 x1 = some z) : zm_ck μ 6 x0 = true := (zgd_s h).1
set_option maxHeartbeats 4000000 in
set_option maxRecDepth 100000 in
theorem cX6_copyFrom_ok {μ : zM} {x0 : Nat} {x1 : Nat} {mo : zM} (hf : fX6_copyFrom μ x0 x1 = some mo) : zC yX6_copyFrom cX6_copyFrom 2 (none) 1 0 0 [.ref x0, .ref x1] μ (none) mo := by
  replace hf := (zgd_s hf).2
  refine zC.of (by decide) (Nat.le_of_ble_eq_true rfl) (fun K hin => ?_)
  clear hin
  show zz K cX6_copyFrom (2, RX6, none, 1, 0, 0, none, mo) 0 0 0 [(0, .ref x0), (1, .ref x1)] [] μ
  refine zr_aload_n 0 dX6_copyFrom_0 rfl ?_
  refine zr_aload_n 1 dX6_copyFrom_1 rfl ?_
  replace hf := zb1_s hf
  obtain ⟨v1, h2, hf⟩ := hf
  refine zr_get (zm_gI_g h2) zk6 (by decide) zl_278 dX6_copyFrom_2 ?_
  replace hf := zb1_s hf
  obtain ⟨m3, h4, hf⟩ := hf
  refine zr_put h4 zk6 (by decide) zl_278 rfl rfl rfl dX6_copyFrom_5 ?_
  refine zr_aload_n 1 dX6_copyFrom_8 rfl ?_
  replace hf := zb1_s hf
  obtain ⟨v5, h6, hf⟩ := hf
  refine zr_get (zm_gR_g h6) zk6 (by decide) zl_236 dX6_copyFrom_9 ?_
  refine zr_iconst 0 dX6_copyFrom_12 (by decide) ?_
  refine zr_aload_n 0 dX6_copyFrom_13 rfl ?_
  replace hf := zb1_s hf
  obtain ⟨v7, h8, hf⟩ := hf
  refine zr_get (zm_gR_g h8) zk6 (by decide) zl_236 dX6_copyFrom_14 ?_
  refine zr_iconst 0 dX6_copyFrom_17 (by decide) ?_
  refine zr_bipush 8 dX6_copyFrom_18 (by decide) ?_
  replace hf := zb1_s hf
  obtain ⟨m9, h10, hf⟩ := hf
  refine zr_cpy h10 (by decide) zl_495 zl_99 zl_100 zl_101 (Nat.le_of_ble_eq_true rfl) (Nat.le_of_ble_eq_true rfl) dX6_copyFrom_20 ?_
  refine zr_aload_n 1 dX6_copyFrom_23 rfl ?_
  replace hf := zb1_s hf
  obtain ⟨v11, h12, hf⟩ := hf
  refine zr_get (zm_gR_g h12) zk6 (by decide) zl_237 dX6_copyFrom_24 ?_
  refine zr_iconst 0 dX6_copyFrom_27 (by decide) ?_
  refine zr_aload_n 0 dX6_copyFrom_28 rfl ?_
  replace hf := zb1_s hf
  obtain ⟨v13, h14, hf⟩ := hf
  refine zr_get (zm_gR_g h14) zk6 (by decide) zl_237 dX6_copyFrom_29 ?_
  refine zr_iconst 0 dX6_copyFrom_32 (by decide) ?_
  refine zr_bipush 8 dX6_copyFrom_33 (by decide) ?_
  replace hf := zb1_s hf
  obtain ⟨m15, h16, hf⟩ := hf
  refine zr_cpy h16 (by decide) zl_495 zl_99 zl_100 zl_101 (Nat.le_of_ble_eq_true rfl) (Nat.le_of_ble_eq_true rfl) dX6_copyFrom_35 ?_
  refine zr_aload_n 1 dX6_copyFrom_38 rfl ?_
  replace hf := zb1_s hf
  obtain ⟨v17, h18, hf⟩ := hf
  refine zr_get (zm_gR_g h18) zk6 (by decide) zl_238 dX6_copyFrom_39 ?_
  refine zr_iconst 0 dX6_copyFrom_42 (by decide) ?_
  refine zr_aload_n 0 dX6_copyFrom_43 rfl ?_
  replace hf := zb1_s hf
  obtain ⟨v19, h20, hf⟩ := hf
  refine zr_get (zm_gR_g h20) zk6 (by decide) zl_238 dX6_copyFrom_44 ?_
  refine zr_iconst 0 dX6_copyFrom_47 (by decide) ?_
  refine zr_bipush 8 dX6_copyFrom_48 (by decide) ?_
  replace hf := zb1_s hf
  obtain ⟨m21, h22, hf⟩ := hf
  refine zr_cpy h22 (by decide) zl_495 zl_99 zl_100 zl_101 (Nat.le_of_ble_eq_true rfl) (Nat.le_of_ble_eq_true rfl) dX6_copyFrom_50 ?_
  refine zr_aload_n 1 dX6_copyFrom_53 rfl ?_
  replace hf := zb1_s hf
  obtain ⟨v23, h24, hf⟩ := hf
  refine zr_get (zm_gR_g h24) zk6 (by decide) zl_239 dX6_copyFrom_54 ?_
  refine zr_iconst 0 dX6_copyFrom_57 (by decide) ?_
  refine zr_aload_n 0 dX6_copyFrom_58 rfl ?_
  replace hf := zb1_s hf
  obtain ⟨v25, h26, hf⟩ := hf
  refine zr_get (zm_gR_g h26) zk6 (by decide) zl_239 dX6_copyFrom_59 ?_
  refine zr_iconst 0 dX6_copyFrom_62 (by decide) ?_
  refine zr_bipush 8 dX6_copyFrom_63 (by decide) ?_
  replace hf := zb1_s hf
  obtain ⟨m27, h28, hf⟩ := hf
  refine zr_cpy h28 (by decide) zl_495 zl_99 zl_100 zl_101 (Nat.le_of_ble_eq_true rfl) (Nat.le_of_ble_eq_true rfl) dX6_copyFrom_65 ?_
  cases hf
  exact zr_vret dX6_copyFrom_68
theorem dX6_tell_0 : decode cX6_tell 0 = .ok (.iload_n 1, 1) := by decide +kernel
theorem dX6_tell_1 : decode cX6_tell 1 = .ok (.iconst (-1), 1) := by decide +kernel
theorem dX6_tell_2 : decode cX6_tell 2 = .ok (.if_icmp .ne 17, 3) := by decide +kernel
theorem dX6_tell_5 : decode cX6_tell 5 = .ok (.iload_n 2, 1) := by decide +kernel
theorem dX6_tell_6 : decode cX6_tell 6 = .ok (.ifCond .ne 10, 3) := by decide +kernel
theorem dX6_tell_9 : decode cX6_tell 9 = .ok (.aload_n 0, 1) := by decide +kernel
theorem dX6_tell_10 : decode cX6_tell 10 = .ok (.getfield 24, 3) := by decide +kernel
theorem dX6_tell_13 : decode cX6_tell 13 = .ok (.goto 5, 3) := by decide +kernel
theorem dX6_tell_16 : decode cX6_tell 16 = .ok (.bipush (-2), 2) := by decide +kernel
theorem dX6_tell_18 : decode cX6_tell 18 = .ok (.ireturn, 1) := by decide +kernel
theorem dX6_tell_19 : decode cX6_tell 19 = .ok (.iload_n 1, 1) := by decide +kernel
theorem dX6_tell_20 : decode cX6_tell 20 = .ok (.ifCond .lt 11, 3) := by decide +kernel
theorem dX6_tell_23 : decode cX6_tell 23 = .ok (.iload_n 1, 1) := by decide +kernel
theorem dX6_tell_24 : decode cX6_tell 24 = .ok (.aload_n 0, 1) := by decide +kernel
theorem dX6_tell_25 : decode cX6_tell 25 = .ok (.getfield 24, 3) := by decide +kernel
theorem dX6_tell_28 : decode cX6_tell 28 = .ok (.if_icmp .lt 6, 3) := by decide +kernel
theorem dX6_tell_31 : decode cX6_tell 31 = .ok (.bipush (-2), 2) := by decide +kernel
theorem dX6_tell_33 : decode cX6_tell 33 = .ok (.ireturn, 1) := by decide +kernel
theorem dX6_tell_34 : decode cX6_tell 34 = .ok (.iload_n 2, 1) := by decide +kernel
theorem dX6_tell_35 : decode cX6_tell 35 = .ok (.tableswitch 57 0 3 #[29, 36, 43, 50], 29) := by decide +kernel
theorem dX6_tell_64 : decode cX6_tell 64 = .ok (.aload_n 0, 1) := by decide +kernel
theorem dX6_tell_65 : decode cX6_tell 65 = .ok (.getfield 9, 3) := by decide +kernel
theorem dX6_tell_68 : decode cX6_tell 68 = .ok (.iload_n 1, 1) := by decide +kernel
theorem dX6_tell_69 : decode cX6_tell 69 = .ok (.iaload, 1) := by decide +kernel
theorem dX6_tell_70 : decode cX6_tell 70 = .ok (.ireturn, 1) := by decide +kernel
theorem dX6_tell_71 : decode cX6_tell 71 = .ok (.aload_n 0, 1) := by decide +kernel
theorem dX6_tell_72 : decode cX6_tell 72 = .ok (.getfield 15, 3) := by decide +kernel
theorem dX6_tell_75 : decode cX6_tell 75 = .ok (.iload_n 1, 1) := by decide +kernel
theorem dX6_tell_76 : decode cX6_tell 76 = .ok (.iaload, 1) := by decide +kernel
theorem dX6_tell_77 : decode cX6_tell 77 = .ok (.ireturn, 1) := by decide +kernel
theorem dX6_tell_78 : decode cX6_tell 78 = .ok (.aload_n 0, 1) := by decide +kernel
theorem dX6_tell_79 : decode cX6_tell 79 = .ok (.getfield 18, 3) := by decide +kernel
theorem dX6_tell_82 : decode cX6_tell 82 = .ok (.iload_n 1, 1) := by decide +kernel
theorem dX6_tell_83 : decode cX6_tell 83 = .ok (.iaload, 1) := by decide +kernel
theorem dX6_tell_84 : decode cX6_tell 84 = .ok (.ireturn, 1) := by decide +kernel
theorem dX6_tell_85 : decode cX6_tell 85 = .ok (.aload_n 0, 1) := by decide +kernel
theorem dX6_tell_86 : decode cX6_tell 86 = .ok (.getfield 21, 3) := by decide +kernel
theorem dX6_tell_89 : decode cX6_tell 89 = .ok (.iload_n 1, 1) := by decide +kernel
theorem dX6_tell_90 : decode cX6_tell 90 = .ok (.iaload, 1) := by decide +kernel
theorem dX6_tell_91 : decode cX6_tell 91 = .ok (.ireturn, 1) := by decide +kernel
theorem dX6_tell_92 : decode cX6_tell 92 = .ok (.bipush (-2), 2) := by decide +kernel
theorem dX6_tell_94 : decode cX6_tell 94 = .ok (.ireturn, 1) := by decide +kernel
noncomputable def fX6_tell (μ : zM) (x0 : Nat) (x1 : Int32) (x2 : Int32) : Option (Int32) := zgd (zm_ck μ 6 x0) <|
  if x1 = (-1) then (
  zb1 (if x2 = 0 then (
  zb1 (zm_gI μ 6 x0 0) fun v25 =>
  some v25)
  else (
  some (-2)) : Option (Int32)) fun (s23 : Int32) =>
  some s23)
  else (
  if x1 < 0 then (
  some (-2))
  else (
  zb1 (zm_gI μ 6 x0 0) fun v1 =>
  if x1 < v1 then (
  if x2 = 0 then (
  zb1 (zm_gR μ 6 x0 1) fun v3 =>
  zb1 (zm_aI μ 0 v3 x1) fun v5 =>
  some v5)
  else (
  if x2 = 1 then (
  zb1 (zm_gR μ 6 x0 2) fun v8 =>
  zb1 (zm_aI μ 0 v8 x1) fun v10 =>
  some v10)
  else (
  if x2 = 2 then (
  zb1 (zm_gR μ 6 x0 3) fun v13 =>
  zb1 (zm_aI μ 0 v13 x1) fun v15 =>
  some v15)
  else (
  if x2 = 3 then (
  zb1 (zm_gR μ 6 x0 4) fun v18 =>
  zb1 (zm_aI μ 0 v18 x1) fun v20 =>
  some v20)
  else (
  some (-2))))))
  else (
  some (-2))))
theorem fX6_tell_ck {μ : zM} {x0 : Nat} {x1 : Int32} {x2 : Int32} {z : Int32} (h : fX6_tell μ x0 x1 x2 = some z) : zm_ck μ 6 x0 = true := (zgd_s h).1
set_option maxHeartbeats 4000000 in
set_option maxRecDepth 100000 in
theorem cX6_tell_ok {μ : zM} {x0 : Nat} {x1 : Int32} {x2 : Int32} {r : Int32} (hf : fX6_tell μ x0 x1 x2 = some r) : zC yX6_tell cX6_tell 3 (some .int) 0 0 0 [.ref x0, .int x1, .int x2] μ (some (.int r)) μ := by
  replace hf := (zgd_s hf).2
  refine zC.of (by decide) (Nat.le_of_ble_eq_true rfl) (fun K hin => ?_)
  clear hin
  show zz K cX6_tell (3, RX6, some .int, 0, 0, 0, some (.int r), μ) 0 0 0 [(0, .ref x0), (1, .int x1), (2, .int x2)] [] μ
  refine zr_iload_n 1 dX6_tell_0 rfl ?_
  refine zr_iconst (-1) dX6_tell_1 (by decide) ?_
  refine zr_icmp_ne 19 dX6_tell_2 (by decide) (fun hc => ?_) (fun hc => ?_)
  · rw [if_neg hc] at hf
    refine zr_iload_n 1 dX6_tell_19 rfl ?_
    refine zr_if_lt 31 dX6_tell_20 (by decide) (fun hc => ?_) (fun hc => ?_)
    · rw [if_pos hc] at hf
      refine zr_bipush (-2) dX6_tell_31 (by decide) ?_
      cases hf
      exact zr_iret dX6_tell_33
    · rw [if_neg hc] at hf
      refine zr_iload_n 1 dX6_tell_23 rfl ?_
      refine zr_aload_n 0 dX6_tell_24 rfl ?_
      replace hf := zb1_s hf
      obtain ⟨v1, h2, hf⟩ := hf
      refine zr_get (zm_gI_g h2) zk6 (by decide) zl_278 dX6_tell_25 ?_
      refine zr_icmp_lt 34 dX6_tell_28 (by decide) (fun hc => ?_) (fun hc => ?_)
      · rw [if_pos hc] at hf
        refine zr_iload_n 2 dX6_tell_34 rfl ?_
        rcases zdec (x2 = 0) with hs7 | hs7
        · rw [if_pos hs7] at hf
          refine zr_tableIn (off := 29) 64 dX6_tell_35 (by rw [hs7]; decide) (by rw [hs7]; decide) (by rw [hs7]; rfl) (by decide) ?_
          refine zr_aload_n 0 dX6_tell_64 rfl ?_
          replace hf := zb1_s hf
          obtain ⟨v3, h4, hf⟩ := hf
          refine zr_get (zm_gR_g h4) zk6 (by decide) zl_236 dX6_tell_65 ?_
          refine zr_iload_n 1 dX6_tell_68 rfl ?_
          replace hf := zb1_s hf
          obtain ⟨v5, h6, hf⟩ := hf
          refine zr_iald h6 dX6_tell_69 ?_
          cases hf
          exact zr_iret dX6_tell_70
        rw [if_neg hs7] at hf
        rcases zdec (x2 = 1) with hs12 | hs12
        · rw [if_pos hs12] at hf
          refine zr_tableIn (off := 36) 71 dX6_tell_35 (by rw [hs12]; decide) (by rw [hs12]; decide) (by rw [hs12]; rfl) (by decide) ?_
          refine zr_aload_n 0 dX6_tell_71 rfl ?_
          replace hf := zb1_s hf
          obtain ⟨v8, h9, hf⟩ := hf
          refine zr_get (zm_gR_g h9) zk6 (by decide) zl_237 dX6_tell_72 ?_
          refine zr_iload_n 1 dX6_tell_75 rfl ?_
          replace hf := zb1_s hf
          obtain ⟨v10, h11, hf⟩ := hf
          refine zr_iald h11 dX6_tell_76 ?_
          cases hf
          exact zr_iret dX6_tell_77
        rw [if_neg hs12] at hf
        rcases zdec (x2 = 2) with hs17 | hs17
        · rw [if_pos hs17] at hf
          refine zr_tableIn (off := 43) 78 dX6_tell_35 (by rw [hs17]; decide) (by rw [hs17]; decide) (by rw [hs17]; rfl) (by decide) ?_
          refine zr_aload_n 0 dX6_tell_78 rfl ?_
          replace hf := zb1_s hf
          obtain ⟨v13, h14, hf⟩ := hf
          refine zr_get (zm_gR_g h14) zk6 (by decide) zl_238 dX6_tell_79 ?_
          refine zr_iload_n 1 dX6_tell_82 rfl ?_
          replace hf := zb1_s hf
          obtain ⟨v15, h16, hf⟩ := hf
          refine zr_iald h16 dX6_tell_83 ?_
          cases hf
          exact zr_iret dX6_tell_84
        rw [if_neg hs17] at hf
        rcases zdec (x2 = 3) with hs22 | hs22
        · rw [if_pos hs22] at hf
          refine zr_tableIn (off := 50) 85 dX6_tell_35 (by rw [hs22]; decide) (by rw [hs22]; decide) (by rw [hs22]; rfl) (by decide) ?_
          refine zr_aload_n 0 dX6_tell_85 rfl ?_
          replace hf := zb1_s hf
          obtain ⟨v18, h19, hf⟩ := hf
          refine zr_get (zm_gR_g h19) zk6 (by decide) zl_239 dX6_tell_86 ?_
          refine zr_iload_n 1 dX6_tell_89 rfl ?_
          replace hf := zb1_s hf
          obtain ⟨v20, h21, hf⟩ := hf
          refine zr_iald h21 dX6_tell_90 ?_
          cases hf
          exact zr_iret dX6_tell_91
        rw [if_neg hs22] at hf
        refine zr_tableOut 92 dX6_tell_35 (by simp only [← Int32.toInt_inj] at hs7 hs12 hs17 hs22; simp at hs7 hs12 hs17 hs22; omega) (by decide) ?_
        refine zr_bipush (-2) dX6_tell_92 (by decide) ?_
        cases hf
        exact zr_iret dX6_tell_94
      · rw [if_neg hc] at hf
        refine zr_bipush (-2) dX6_tell_31 (by decide) ?_
        cases hf
        exact zr_iret dX6_tell_33
  · rw [if_pos hc] at hf
    refine zr_iload_n 2 dX6_tell_5 rfl ?_
    replace hf := zb1_s hf
    obtain ⟨s23, hg, hf⟩ := hf
    have hj24 : zz K cX6_tell (3, RX6, some .int, 0, 0, 0, some (.int r), μ) 0 0 18 [] [.int s23] μ := by
      cases hf
      exact zr_iret dX6_tell_18
    clear hf
    have hf := hg
    clear hg
    refine zr_if_ne 16 dX6_tell_6 (by decide) (fun hc => ?_) (fun hc => ?_)
    · rw [if_neg hc] at hf
      refine zr_bipush (-2) dX6_tell_16 (by decide) ?_
      cases hf
      exact zr_lv [] rfl hj24
    · rw [if_pos hc] at hf
      refine zr_aload_n 0 dX6_tell_9 rfl ?_
      replace hf := zb1_s hf
      obtain ⟨v25, h26, hf⟩ := hf
      refine zr_get (zm_gI_g h26) zk6 (by decide) zl_278 dX6_tell_10 ?_
      refine zr_goto 18 dX6_tell_13 (by decide) ?_
      cases hf
      exact zr_lv [] rfl hj24
theorem zl_496 : Cond.methodLink RX6 34 yX9_hasPlace ∈ zt := zt_at 1111 (by decide +kernel)
theorem dX6_isWithin_0 : decode cX6_isWithin 0 = .ok (.iconst 0, 1) := by decide +kernel
theorem dX6_isWithin_1 : decode cX6_isWithin 1 = .ok (.istore_n 2, 1) := by decide +kernel
theorem dX6_isWithin_2 : decode cX6_isWithin 2 = .ok (.iload_n 2, 1) := by decide +kernel
theorem dX6_isWithin_3 : decode cX6_isWithin 3 = .ok (.aload_n 0, 1) := by decide +kernel
theorem dX6_isWithin_4 : decode cX6_isWithin 4 = .ok (.getfield 24, 3) := by decide +kernel
theorem dX6_isWithin_7 : decode cX6_isWithin 7 = .ok (.if_icmp .ge 24, 3) := by decide +kernel
theorem dX6_isWithin_10 : decode cX6_isWithin 10 = .ok (.aload_n 1, 1) := by decide +kernel
theorem dX6_isWithin_11 : decode cX6_isWithin 11 = .ok (.aload_n 0, 1) := by decide +kernel
theorem dX6_isWithin_12 : decode cX6_isWithin 12 = .ok (.getfield 15, 3) := by decide +kernel
theorem dX6_isWithin_15 : decode cX6_isWithin 15 = .ok (.iload_n 2, 1) := by decide +kernel
theorem dX6_isWithin_16 : decode cX6_isWithin 16 = .ok (.iaload, 1) := by decide +kernel
theorem dX6_isWithin_17 : decode cX6_isWithin 17 = .ok (.invokevirtual 34, 3) := by decide +kernel
theorem dX6_isWithin_20 : decode cX6_isWithin 20 = .ok (.ifCond .ne 5, 3) := by decide +kernel
theorem dX6_isWithin_23 : decode cX6_isWithin 23 = .ok (.iconst 0, 1) := by decide +kernel
theorem dX6_isWithin_24 : decode cX6_isWithin 24 = .ok (.ireturn, 1) := by decide +kernel
theorem dX6_isWithin_25 : decode cX6_isWithin 25 = .ok (.iinc 2 1, 3) := by decide +kernel
theorem dX6_isWithin_28 : decode cX6_isWithin 28 = .ok (.goto (-26), 3) := by decide +kernel
theorem dX6_isWithin_31 : decode cX6_isWithin 31 = .ok (.iconst 1, 1) := by decide +kernel
theorem dX6_isWithin_32 : decode cX6_isWithin 32 = .ok (.ireturn, 1) := by decide +kernel
noncomputable def fX6_isWithin_l2 (μ : zM) (x0 : Nat) (x1 : Nat) (F2 : Int32 → Option (Int32)) (x2_1 : Int32) : Option (Int32) :=
  zb1 (zm_gI μ 6 x0 0) fun v4 =>
  if v4 ≤ x2_1 then (
  some 1)
  else (
  zb1 (zm_gR μ 6 x0 2) fun v6 =>
  zb1 (zm_aI μ 0 v6 x2_1) fun v8 =>
  zb1 (fX9_hasPlace μ x1 v8) fun v11 =>
  if v11 = 0 then (
  some 0)
  else (
  F2 (x2_1 + 1)))
noncomputable def fX6_isWithin (μ : zM) (x0 : Nat) (x1 : Nat) : Option (Int32) := zgd (zm_ck μ 6 x0) <|
  zf1 (fX6_isWithin_l2 μ x0 x1) zfu 0
theorem fX6_isWithin_ck {μ : zM} {x0 : Nat} {x1 : Nat} {z : Int32} (h : fX6_isWithin μ x0 x1 = some z) : zm_ck μ 6 x0 = true := (zgd_s h).1
set_option maxHeartbeats 4000000 in
set_option maxRecDepth 100000 in
theorem cX6_isWithin_ok {μ : zM} {x0 : Nat} {x1 : Nat} {r : Int32} (hf : fX6_isWithin μ x0 x1 = some r) : zC yX6_isWithin cX6_isWithin 3 (some .boolean) 1 0 0 [.ref x0, .ref x1] μ (some (.int r)) μ := by
  replace hf := (zgd_s hf).2
  refine zC.of (by decide) (Nat.le_of_ble_eq_true rfl) (fun K hin => ?_)
  clear hin
  show zz K cX6_isWithin (3, RX6, some .boolean, 1, 0, 0, some (.int r), μ) 0 0 0 [(0, .ref x0), (1, .ref x1)] [] μ
  refine zr_iconst 0 dX6_isWithin_0 (by decide) ?_
  refine zr_istore_n [(2, .int 0), (0, .ref x0), (1, .ref x1)] dX6_isWithin_1 (Nat.le_of_ble_eq_true rfl) rfl ?_
  have hL12 : ∀ (n : Nat) (x2_1 : Int32), zf1 (fX6_isWithin_l2 μ x0 x1) n x2_1 = some r → zz K cX6_isWithin (3, RX6, some .boolean, 1, 0, 0, some (.int r), μ) 0 0 2 [(0, .ref x0), (1, .ref x1), (2, .int x2_1)] [] μ := by
    intro n
    induction n with
    | zero => intro x2_1 hf; cases hf
    | succ n ih3 =>
      intro x2_1 hf
      replace hf := zf1_s hf
      generalize zf1 (fX6_isWithin_l2 μ x0 x1) n = F2 at hf ih3
      unfold fX6_isWithin_l2 at hf
      refine zr_iload_n 2 dX6_isWithin_2 rfl ?_
      refine zr_aload_n 0 dX6_isWithin_3 rfl ?_
      replace hf := zb1_s hf
      obtain ⟨v4, h5, hf⟩ := hf
      refine zr_get (zm_gI_g h5) zk6 (by decide) zl_278 dX6_isWithin_4 ?_
      refine zr_icmp_ge 31 dX6_isWithin_7 (by decide) (fun hc => ?_) (fun hc => ?_)
      · rw [if_pos hc] at hf
        refine zr_iconst 1 dX6_isWithin_31 (by decide) ?_
        cases hf
        exact zr_zret rfl dX6_isWithin_32
      · rw [if_neg hc] at hf
        refine zr_aload_n 1 dX6_isWithin_10 rfl ?_
        refine zr_aload_n 0 dX6_isWithin_11 rfl ?_
        replace hf := zb1_s hf
        obtain ⟨v6, h7, hf⟩ := hf
        refine zr_get (zm_gR_g h7) zk6 (by decide) zl_237 dX6_isWithin_12 ?_
        refine zr_iload_n 2 dX6_isWithin_15 rfl ?_
        replace hf := zb1_s hf
        obtain ⟨v8, h9, hf⟩ := hf
        refine zr_iald h9 dX6_isWithin_16 ?_
        replace hf := zb1_s hf
        obtain ⟨v11, h10, hf⟩ := hf
        refine zr_callV (ci := 9) [.int v8] (cX9_hasPlace_ok h10) zvs_X9_hasPlace zl_106 zl_107 (fX9_hasPlace_ck h10) rfl rfl zl_496 rfl (Nat.le_of_ble_eq_true rfl) (Nat.le_of_ble_eq_true rfl) (Nat.le_of_ble_eq_true rfl) (Nat.le_of_ble_eq_true rfl) dX6_isWithin_17 rfl ?_
        refine zr_if_ne 25 dX6_isWithin_20 (by decide) (fun hc => ?_) (fun hc => ?_)
        · rw [if_neg hc] at hf
          refine zr_iinc (j := 2) (x2_1 + 1) [(2, .int (x2_1 + 1)), (0, .ref x0), (1, .ref x1)] dX6_isWithin_25 rfl rfl (Nat.le_of_ble_eq_true rfl) rfl ?_
          refine zr_goto 2 dX6_isWithin_28 (by decide) ?_
          exact zr_lv [1, 2, 0] rfl (ih3 (x2_1 + 1) hf)
        · rw [if_pos hc] at hf
          refine zr_iconst 0 dX6_isWithin_23 (by decide) ?_
          cases hf
          exact zr_zret rfl dX6_isWithin_24
  exact zr_lv [1, 2, 0] rfl (hL12 _ 0 hf)
theorem zl_497 : Cond.methodLink RX7 3 Lib.objectInit ∈ zt := zt_at 163 (by decide +kernel)
theorem zl_498 : Cond.arrayClass .byte ∈ zt := zt_at 236 (by decide +kernel)
theorem zl_499 : Cond.fieldLink RX7 9 "TwoEchoes$Told" "tape" "[B" ∈ zt := zt_at 315 (by decide +kernel)
theorem zl_500 : Cond.fieldLink RX7 15 "TwoEchoes$Told" "length" "I" ∈ zt := zt_at 317 (by decide +kernel)
theorem zl_501 : Cond.fieldLink RX7 19 "TwoEchoes$Told" "fault" "I" ∈ zt := zt_at 319 (by decide +kernel)
theorem zl_502 : Cond.fieldLink RX7 22 "TwoEchoes$Told" "faultPlace" "I" ∈ zt := zt_at 321 (by decide +kernel)
theorem zl_503 : Cond.fieldLink RX7 25 "TwoEchoes$Told" "counts" "[I" ∈ zt := zt_at 323 (by decide +kernel)
theorem zl_504 : Cond.classLink RX7 29 RX9 ∈ zt := zt_at 164 (by decide +kernel)
theorem zl_505 : Cond.methodLinkNest RX7 31 yX9_init "TwoEchoes" ∈ zn := zn_at 167 (by decide +kernel)
theorem zl_506 : Cond.fieldLink RX7 32 "TwoEchoes$Told" "valleys" "[LTwoEchoes$Valley;" ∈ zt := zt_at 325 (by decide +kernel)
theorem zl_507 : Cond.classLink RX7 36 RX2 ∈ zt := zt_at 238 (by decide +kernel)
theorem zl_508 : Cond.methodLinkNest RX7 38 yX2_init "TwoEchoes" ∈ zn := zn_at 241 (by decide +kernel)
theorem zl_509 : Cond.fieldLink RX7 39 "TwoEchoes$Told" "days" "[LTwoEchoes$Day;" ∈ zt := zt_at 327 (by decide +kernel)
theorem zl_510 : Cond.classLink RX7 43 RX3 ∈ zt := zt_at 264 (by decide +kernel)
theorem zl_511 : Cond.methodLinkNest RX7 45 yX3_init "TwoEchoes" ∈ zn := zn_at 267 (by decide +kernel)
theorem zl_512 : Cond.fieldLink RX7 46 "TwoEchoes$Told" "lessons" "[LTwoEchoes$Lesson;" ∈ zt := zt_at 329 (by decide +kernel)
theorem zl_513 : Cond.classLink RX7 50 RX6 ∈ zt := zt_at 286 (by decide +kernel)
theorem zl_514 : Cond.methodLinkNest RX7 52 yX6_init "TwoEchoes" ∈ zn := zn_at 289 (by decide +kernel)
theorem zl_515 : Cond.fieldLink RX7 53 "TwoEchoes$Told" "sights" "[LTwoEchoes$Sight;" ∈ zt := zt_at 331 (by decide +kernel)
theorem dX7_init_0 : decode cX7_init 0 = .ok (.aload_n 0, 1) := by decide +kernel
theorem dX7_init_1 : decode cX7_init 1 = .ok (.invokespecial 3, 3) := by decide +kernel
theorem dX7_init_4 : decode cX7_init 4 = .ok (.aload_n 0, 1) := by decide +kernel
theorem dX7_init_5 : decode cX7_init 5 = .ok (.sipush 600, 3) := by decide +kernel
theorem dX7_init_8 : decode cX7_init 8 = .ok (.newarray .byte, 2) := by decide +kernel
theorem dX7_init_10 : decode cX7_init 10 = .ok (.putfield 9, 3) := by decide +kernel
theorem dX7_init_13 : decode cX7_init 13 = .ok (.aload_n 0, 1) := by decide +kernel
theorem dX7_init_14 : decode cX7_init 14 = .ok (.iconst 0, 1) := by decide +kernel
theorem dX7_init_15 : decode cX7_init 15 = .ok (.putfield 15, 3) := by decide +kernel
theorem dX7_init_18 : decode cX7_init 18 = .ok (.aload_n 0, 1) := by decide +kernel
theorem dX7_init_19 : decode cX7_init 19 = .ok (.iconst 0, 1) := by decide +kernel
theorem dX7_init_20 : decode cX7_init 20 = .ok (.putfield 19, 3) := by decide +kernel
theorem dX7_init_23 : decode cX7_init 23 = .ok (.aload_n 0, 1) := by decide +kernel
theorem dX7_init_24 : decode cX7_init 24 = .ok (.iconst (-1), 1) := by decide +kernel
theorem dX7_init_25 : decode cX7_init 25 = .ok (.putfield 22, 3) := by decide +kernel
theorem dX7_init_28 : decode cX7_init 28 = .ok (.aload_n 0, 1) := by decide +kernel
theorem dX7_init_29 : decode cX7_init 29 = .ok (.iconst 4, 1) := by decide +kernel
theorem dX7_init_30 : decode cX7_init 30 = .ok (.newarray .int, 2) := by decide +kernel
theorem dX7_init_32 : decode cX7_init 32 = .ok (.putfield 25, 3) := by decide +kernel
theorem dX7_init_35 : decode cX7_init 35 = .ok (.aload_n 0, 1) := by decide +kernel
theorem dX7_init_36 : decode cX7_init 36 = .ok (.iconst 2, 1) := by decide +kernel
theorem dX7_init_37 : decode cX7_init 37 = .ok (.anewarray 29, 3) := by decide +kernel
theorem dX7_init_40 : decode cX7_init 40 = .ok (.dup, 1) := by decide +kernel
theorem dX7_init_41 : decode cX7_init 41 = .ok (.iconst 0, 1) := by decide +kernel
theorem dX7_init_42 : decode cX7_init 42 = .ok (.new 29, 3) := by decide +kernel
theorem dX7_init_45 : decode cX7_init 45 = .ok (.dup, 1) := by decide +kernel
theorem dX7_init_46 : decode cX7_init 46 = .ok (.invokespecial 31, 3) := by decide +kernel
theorem dX7_init_49 : decode cX7_init 49 = .ok (.aastore, 1) := by decide +kernel
theorem dX7_init_50 : decode cX7_init 50 = .ok (.dup, 1) := by decide +kernel
theorem dX7_init_51 : decode cX7_init 51 = .ok (.iconst 1, 1) := by decide +kernel
theorem dX7_init_52 : decode cX7_init 52 = .ok (.new 29, 3) := by decide +kernel
theorem dX7_init_55 : decode cX7_init 55 = .ok (.dup, 1) := by decide +kernel
theorem dX7_init_56 : decode cX7_init 56 = .ok (.invokespecial 31, 3) := by decide +kernel
theorem dX7_init_59 : decode cX7_init 59 = .ok (.aastore, 1) := by decide +kernel
theorem dX7_init_60 : decode cX7_init 60 = .ok (.putfield 32, 3) := by decide +kernel
theorem dX7_init_63 : decode cX7_init 63 = .ok (.aload_n 0, 1) := by decide +kernel
theorem dX7_init_64 : decode cX7_init 64 = .ok (.iconst 2, 1) := by decide +kernel
theorem dX7_init_65 : decode cX7_init 65 = .ok (.anewarray 36, 3) := by decide +kernel
theorem dX7_init_68 : decode cX7_init 68 = .ok (.dup, 1) := by decide +kernel
theorem dX7_init_69 : decode cX7_init 69 = .ok (.iconst 0, 1) := by decide +kernel
theorem dX7_init_70 : decode cX7_init 70 = .ok (.new 36, 3) := by decide +kernel
theorem dX7_init_73 : decode cX7_init 73 = .ok (.dup, 1) := by decide +kernel
theorem dX7_init_74 : decode cX7_init 74 = .ok (.invokespecial 38, 3) := by decide +kernel
theorem dX7_init_77 : decode cX7_init 77 = .ok (.aastore, 1) := by decide +kernel
theorem dX7_init_78 : decode cX7_init 78 = .ok (.dup, 1) := by decide +kernel
theorem dX7_init_79 : decode cX7_init 79 = .ok (.iconst 1, 1) := by decide +kernel
theorem dX7_init_80 : decode cX7_init 80 = .ok (.new 36, 3) := by decide +kernel
theorem dX7_init_83 : decode cX7_init 83 = .ok (.dup, 1) := by decide +kernel
theorem dX7_init_84 : decode cX7_init 84 = .ok (.invokespecial 38, 3) := by decide +kernel
theorem dX7_init_87 : decode cX7_init 87 = .ok (.aastore, 1) := by decide +kernel
theorem dX7_init_88 : decode cX7_init 88 = .ok (.putfield 39, 3) := by decide +kernel
theorem dX7_init_91 : decode cX7_init 91 = .ok (.aload_n 0, 1) := by decide +kernel
theorem dX7_init_92 : decode cX7_init 92 = .ok (.iconst 2, 1) := by decide +kernel
theorem dX7_init_93 : decode cX7_init 93 = .ok (.anewarray 43, 3) := by decide +kernel
theorem dX7_init_96 : decode cX7_init 96 = .ok (.dup, 1) := by decide +kernel
theorem dX7_init_97 : decode cX7_init 97 = .ok (.iconst 0, 1) := by decide +kernel
theorem dX7_init_98 : decode cX7_init 98 = .ok (.new 43, 3) := by decide +kernel
theorem dX7_init_101 : decode cX7_init 101 = .ok (.dup, 1) := by decide +kernel
theorem dX7_init_102 : decode cX7_init 102 = .ok (.invokespecial 45, 3) := by decide +kernel
theorem dX7_init_105 : decode cX7_init 105 = .ok (.aastore, 1) := by decide +kernel
theorem dX7_init_106 : decode cX7_init 106 = .ok (.dup, 1) := by decide +kernel
theorem dX7_init_107 : decode cX7_init 107 = .ok (.iconst 1, 1) := by decide +kernel
theorem dX7_init_108 : decode cX7_init 108 = .ok (.new 43, 3) := by decide +kernel
theorem dX7_init_111 : decode cX7_init 111 = .ok (.dup, 1) := by decide +kernel
theorem dX7_init_112 : decode cX7_init 112 = .ok (.invokespecial 45, 3) := by decide +kernel
theorem dX7_init_115 : decode cX7_init 115 = .ok (.aastore, 1) := by decide +kernel
theorem dX7_init_116 : decode cX7_init 116 = .ok (.putfield 46, 3) := by decide +kernel
theorem dX7_init_119 : decode cX7_init 119 = .ok (.aload_n 0, 1) := by decide +kernel
theorem dX7_init_120 : decode cX7_init 120 = .ok (.iconst 2, 1) := by decide +kernel
theorem dX7_init_121 : decode cX7_init 121 = .ok (.anewarray 50, 3) := by decide +kernel
theorem dX7_init_124 : decode cX7_init 124 = .ok (.dup, 1) := by decide +kernel
theorem dX7_init_125 : decode cX7_init 125 = .ok (.iconst 0, 1) := by decide +kernel
theorem dX7_init_126 : decode cX7_init 126 = .ok (.new 50, 3) := by decide +kernel
theorem dX7_init_129 : decode cX7_init 129 = .ok (.dup, 1) := by decide +kernel
theorem dX7_init_130 : decode cX7_init 130 = .ok (.invokespecial 52, 3) := by decide +kernel
theorem dX7_init_133 : decode cX7_init 133 = .ok (.aastore, 1) := by decide +kernel
theorem dX7_init_134 : decode cX7_init 134 = .ok (.dup, 1) := by decide +kernel
theorem dX7_init_135 : decode cX7_init 135 = .ok (.iconst 1, 1) := by decide +kernel
theorem dX7_init_136 : decode cX7_init 136 = .ok (.new 50, 3) := by decide +kernel
theorem dX7_init_139 : decode cX7_init 139 = .ok (.dup, 1) := by decide +kernel
theorem dX7_init_140 : decode cX7_init 140 = .ok (.invokespecial 52, 3) := by decide +kernel
theorem dX7_init_143 : decode cX7_init 143 = .ok (.aastore, 1) := by decide +kernel
theorem dX7_init_144 : decode cX7_init 144 = .ok (.putfield 53, 3) := by decide +kernel
theorem dX7_init_147 : decode cX7_init 147 = .ok (.return_, 1) := by decide +kernel
noncomputable def fX7_init (μ : zM) (x0 : Nat) : Option (zM) :=
  zb1 (some (zm_nw μ (.inl (1, 600, .inl (fun _ => 0))))) fun m1 =>
  zb1 (zm_p m1 7 x0 0 (.ref μ.2.1)) fun m3 =>
  zb1 (zm_p m3 7 x0 1 (.int 0)) fun m5 =>
  zb1 (zm_p m5 7 x0 2 (.int 0)) fun m7 =>
  zb1 (zm_p m7 7 x0 3 (.int (-1))) fun m9 =>
  zb1 (some (zm_nw m9 (.inl (0, 4, .inl (fun _ => 0))))) fun m11 =>
  zb1 (zm_p m11 7 x0 4 (.ref m9.2.1)) fun m13 =>
  zb1 (some (zm_nw m13 (.inl (4, 2, .inr (.inr (.inr (.inr (fun _ => none)))))))) fun m15 =>
  zb1 (some (zm_nw m15 (.inr (9, [.int 0, .null, .null, .null, .int 0, .null, .null, .null, .int 0, .null, .null, .null, .null])))) fun m17 =>
  zb1 (fX9_init m17 m15.2.1) fun m20 =>
  zb1 (zm_sQ m20 4 9 m13.2.1 0 m15.2.1) fun m21 =>
  zb1 (some (zm_nw m21 (.inr (9, [.int 0, .null, .null, .null, .int 0, .null, .null, .null, .int 0, .null, .null, .null, .null])))) fun m23 =>
  zb1 (fX9_init m23 m21.2.1) fun m26 =>
  zb1 (zm_sQ m26 4 9 m13.2.1 1 m21.2.1) fun m27 =>
  zb1 (zm_p m27 7 x0 5 (.ref m13.2.1)) fun m29 =>
  zb1 (some (zm_nw m29 (.inl (5, 2, .inr (.inr (.inr (.inr (fun _ => none)))))))) fun m31 =>
  zb1 (some (zm_nw m31 (.inr (2, [.int 0, .null, .null, .null])))) fun m33 =>
  zb1 (fX2_init m33 m31.2.1) fun m36 =>
  zb1 (zm_sQ m36 5 2 m29.2.1 0 m31.2.1) fun m37 =>
  zb1 (some (zm_nw m37 (.inr (2, [.int 0, .null, .null, .null])))) fun m39 =>
  zb1 (fX2_init m39 m37.2.1) fun m42 =>
  zb1 (zm_sQ m42 5 2 m29.2.1 1 m37.2.1) fun m43 =>
  zb1 (zm_p m43 7 x0 6 (.ref m29.2.1)) fun m45 =>
  zb1 (some (zm_nw m45 (.inl (6, 2, .inr (.inr (.inr (.inr (fun _ => none)))))))) fun m47 =>
  zb1 (some (zm_nw m47 (.inr (3, [.int 0, .int 0, .null, .null])))) fun m49 =>
  zb1 (fX3_init m49 m47.2.1) fun m52 =>
  zb1 (zm_sQ m52 6 3 m45.2.1 0 m47.2.1) fun m53 =>
  zb1 (some (zm_nw m53 (.inr (3, [.int 0, .int 0, .null, .null])))) fun m55 =>
  zb1 (fX3_init m55 m53.2.1) fun m58 =>
  zb1 (zm_sQ m58 6 3 m45.2.1 1 m53.2.1) fun m59 =>
  zb1 (zm_p m59 7 x0 7 (.ref m45.2.1)) fun m61 =>
  zb1 (some (zm_nw m61 (.inl (7, 2, .inr (.inr (.inr (.inr (fun _ => none)))))))) fun m63 =>
  zb1 (some (zm_nw m63 (.inr (6, [.int 0, .null, .null, .null, .null])))) fun m65 =>
  zb1 (fX6_init m65 m63.2.1) fun m68 =>
  zb1 (zm_sQ m68 7 6 m61.2.1 0 m63.2.1) fun m69 =>
  zb1 (some (zm_nw m69 (.inr (6, [.int 0, .null, .null, .null, .null])))) fun m71 =>
  zb1 (fX6_init m71 m69.2.1) fun m74 =>
  zb1 (zm_sQ m74 7 6 m61.2.1 1 m69.2.1) fun m75 =>
  zb1 (zm_p m75 7 x0 8 (.ref m61.2.1)) fun m77 =>
  some m77
set_option maxHeartbeats 4000000 in
set_option maxRecDepth 100000 in
theorem cX7_init_ok {μ : zM} {x0 : Nat} {mo : zM} (hf : fX7_init μ x0 = some mo) : zC yX7_init cX7_init 1 (none) 2 52 1316 [.ref x0] μ (none) mo := by
  unfold fX7_init at hf
  refine zC.of (by decide) (Nat.le_of_ble_eq_true rfl) (fun K hin => ?_)
  replace hin := hin rfl
  show zz K cX7_init (1, RX7, none, 2, 52, 1316, none, mo) 0 0 0 [(0, .ref x0)] [] μ
  refine zr_aload_n 0 dX7_init_0 rfl ?_
  refine zr_objInit zl_497 zl_1 zl_2 (Nat.le_of_ble_eq_true rfl) (Nat.le_of_ble_eq_true rfl) dX7_init_1 ?_
  refine zr_aload_n 0 dX7_init_4 rfl ?_
  refine zr_sipush 600 dX7_init_5 (by decide) ?_
  refine zr_newa (t := 1) (N := 600) (atype := .byte) (by decide) rfl zl_498 (by decide) (by decide) (by decide) (Nat.le_of_ble_eq_true rfl) (Nat.le_of_ble_eq_true rfl) dX7_init_8 ?_
  replace hf := zb1_s hf
  obtain ⟨m1, h2, hf⟩ := hf
  obtain rfl := Option.some.inj h2
  replace hf := zb1_s hf
  obtain ⟨m3, h4, hf⟩ := hf
  refine zr_putF h4 hin rfl zk7 (by decide) zl_499 rfl rfl rfl dX7_init_10 ?_
  refine zr_aload_n 0 dX7_init_13 rfl ?_
  refine zr_iconst 0 dX7_init_14 (by decide) ?_
  replace hf := zb1_s hf
  obtain ⟨m5, h6, hf⟩ := hf
  refine zr_put h6 zk7 (by decide) zl_500 rfl rfl rfl dX7_init_15 ?_
  refine zr_aload_n 0 dX7_init_18 rfl ?_
  refine zr_iconst 0 dX7_init_19 (by decide) ?_
  replace hf := zb1_s hf
  obtain ⟨m7, h8, hf⟩ := hf
  refine zr_put h8 zk7 (by decide) zl_501 rfl rfl rfl dX7_init_20 ?_
  refine zr_aload_n 0 dX7_init_23 rfl ?_
  refine zr_iconst (-1) dX7_init_24 (by decide) ?_
  replace hf := zb1_s hf
  obtain ⟨m9, h10, hf⟩ := hf
  refine zr_put h10 zk7 (by decide) zl_502 rfl rfl rfl dX7_init_25 ?_
  refine zr_aload_n 0 dX7_init_28 rfl ?_
  refine zr_iconst 4 dX7_init_29 (by decide) ?_
  refine zr_newa (t := 0) (N := 4) (atype := .int) (by decide) rfl zl_3 (by decide) (by decide) (by decide) (Nat.le_of_ble_eq_true rfl) (Nat.le_of_ble_eq_true rfl) dX7_init_30 ?_
  replace hf := zb1_s hf
  obtain ⟨m11, h12, hf⟩ := hf
  obtain rfl := Option.some.inj h12
  replace hf := zb1_s hf
  obtain ⟨m13, h14, hf⟩ := hf
  refine zr_putF h14 hin rfl zk7 (by decide) zl_503 rfl rfl rfl dX7_init_32 ?_
  refine zr_aload_n 0 dX7_init_35 rfl ?_
  refine zr_iconst 2 dX7_init_36 (by decide) ?_
  refine zr_newq (t := 4) (N := 2) (by decide) rfl zl_504 (by decide) (by decide) (by decide) (Nat.le_of_ble_eq_true rfl) (Nat.le_of_ble_eq_true rfl) dX7_init_37 ?_
  replace hf := zb1_s hf
  obtain ⟨m15, h16, hf⟩ := hf
  obtain rfl := Option.some.inj h16
  refine zr_dup dX7_init_40 rfl ?_
  refine zr_iconst 0 dX7_init_41 (by decide) ?_
  refine zr_new [.int 0, .null, .null, .null, .int 0, .null, .null, .null, .int 0, .null, .null, .null, .null] zk9 zl_504 zl_242 zl_14 (by decide +kernel) (Nat.le_of_ble_eq_true rfl) (Nat.le_of_ble_eq_true rfl) dX7_init_42 ?_
  replace hf := zb1_s hf
  obtain ⟨m17, h18, hf⟩ := hf
  obtain rfl := Option.some.inj h18
  refine zr_dup dX7_init_45 rfl ?_
  replace hf := zb1_s hf
  obtain ⟨m20, h19, hf⟩ := hf
  refine zr_callIN [] (cX9_init_ok h19) zvs_X9_init zl_245 rfl zl_505 rfl (Nat.le_of_ble_eq_true rfl) (Nat.le_of_ble_eq_true rfl) (Nat.le_of_ble_eq_true rfl) (Nat.le_of_ble_eq_true rfl) dX7_init_46 rfl ?_
  replace hf := zb1_s hf
  obtain ⟨m21, h22, hf⟩ := hf
  refine zr_aast h22 (by decide) rfl zk9 dX7_init_49 ?_
  refine zr_dup dX7_init_50 rfl ?_
  refine zr_iconst 1 dX7_init_51 (by decide) ?_
  refine zr_new [.int 0, .null, .null, .null, .int 0, .null, .null, .null, .int 0, .null, .null, .null, .null] zk9 zl_504 zl_242 zl_14 (by decide +kernel) (Nat.le_of_ble_eq_true rfl) (Nat.le_of_ble_eq_true rfl) dX7_init_52 ?_
  replace hf := zb1_s hf
  obtain ⟨m23, h24, hf⟩ := hf
  obtain rfl := Option.some.inj h24
  refine zr_dup dX7_init_55 rfl ?_
  replace hf := zb1_s hf
  obtain ⟨m26, h25, hf⟩ := hf
  refine zr_callIN [] (cX9_init_ok h25) zvs_X9_init zl_245 rfl zl_505 rfl (Nat.le_of_ble_eq_true rfl) (Nat.le_of_ble_eq_true rfl) (Nat.le_of_ble_eq_true rfl) (Nat.le_of_ble_eq_true rfl) dX7_init_56 rfl ?_
  replace hf := zb1_s hf
  obtain ⟨m27, h28, hf⟩ := hf
  refine zr_aast h28 (by decide) rfl zk9 dX7_init_59 ?_
  replace hf := zb1_s hf
  obtain ⟨m29, h30, hf⟩ := hf
  refine zr_putF h30 hin rfl zk7 (by decide) zl_506 rfl rfl rfl dX7_init_60 ?_
  refine zr_aload_n 0 dX7_init_63 rfl ?_
  refine zr_iconst 2 dX7_init_64 (by decide) ?_
  refine zr_newq (t := 5) (N := 2) (by decide) rfl zl_507 (by decide) (by decide) (by decide) (Nat.le_of_ble_eq_true rfl) (Nat.le_of_ble_eq_true rfl) dX7_init_65 ?_
  replace hf := zb1_s hf
  obtain ⟨m31, h32, hf⟩ := hf
  obtain rfl := Option.some.inj h32
  refine zr_dup dX7_init_68 rfl ?_
  refine zr_iconst 0 dX7_init_69 (by decide) ?_
  refine zr_new [.int 0, .null, .null, .null] zk2 zl_507 zl_248 zl_249 (by decide +kernel) (Nat.le_of_ble_eq_true rfl) (Nat.le_of_ble_eq_true rfl) dX7_init_70 ?_
  replace hf := zb1_s hf
  obtain ⟨m33, h34, hf⟩ := hf
  obtain rfl := Option.some.inj h34
  refine zr_dup dX7_init_73 rfl ?_
  replace hf := zb1_s hf
  obtain ⟨m36, h35, hf⟩ := hf
  refine zr_callIN [] (cX2_init_ok h35) zvs_X2_init zl_252 rfl zl_508 rfl (Nat.le_of_ble_eq_true rfl) (Nat.le_of_ble_eq_true rfl) (Nat.le_of_ble_eq_true rfl) (Nat.le_of_ble_eq_true rfl) dX7_init_74 rfl ?_
  replace hf := zb1_s hf
  obtain ⟨m37, h38, hf⟩ := hf
  refine zr_aast h38 (by decide) rfl zk2 dX7_init_77 ?_
  refine zr_dup dX7_init_78 rfl ?_
  refine zr_iconst 1 dX7_init_79 (by decide) ?_
  refine zr_new [.int 0, .null, .null, .null] zk2 zl_507 zl_248 zl_249 (by decide +kernel) (Nat.le_of_ble_eq_true rfl) (Nat.le_of_ble_eq_true rfl) dX7_init_80 ?_
  replace hf := zb1_s hf
  obtain ⟨m39, h40, hf⟩ := hf
  obtain rfl := Option.some.inj h40
  refine zr_dup dX7_init_83 rfl ?_
  replace hf := zb1_s hf
  obtain ⟨m42, h41, hf⟩ := hf
  refine zr_callIN [] (cX2_init_ok h41) zvs_X2_init zl_252 rfl zl_508 rfl (Nat.le_of_ble_eq_true rfl) (Nat.le_of_ble_eq_true rfl) (Nat.le_of_ble_eq_true rfl) (Nat.le_of_ble_eq_true rfl) dX7_init_84 rfl ?_
  replace hf := zb1_s hf
  obtain ⟨m43, h44, hf⟩ := hf
  refine zr_aast h44 (by decide) rfl zk2 dX7_init_87 ?_
  replace hf := zb1_s hf
  obtain ⟨m45, h46, hf⟩ := hf
  refine zr_putF h46 hin rfl zk7 (by decide) zl_509 rfl rfl rfl dX7_init_88 ?_
  refine zr_aload_n 0 dX7_init_91 rfl ?_
  refine zr_iconst 2 dX7_init_92 (by decide) ?_
  refine zr_newq (t := 6) (N := 2) (by decide) rfl zl_510 (by decide) (by decide) (by decide) (Nat.le_of_ble_eq_true rfl) (Nat.le_of_ble_eq_true rfl) dX7_init_93 ?_
  replace hf := zb1_s hf
  obtain ⟨m47, h48, hf⟩ := hf
  obtain rfl := Option.some.inj h48
  refine zr_dup dX7_init_96 rfl ?_
  refine zr_iconst 0 dX7_init_97 (by decide) ?_
  refine zr_new [.int 0, .int 0, .null, .null] zk3 zl_510 zl_255 zl_207 (by decide +kernel) (Nat.le_of_ble_eq_true rfl) (Nat.le_of_ble_eq_true rfl) dX7_init_98 ?_
  replace hf := zb1_s hf
  obtain ⟨m49, h50, hf⟩ := hf
  obtain rfl := Option.some.inj h50
  refine zr_dup dX7_init_101 rfl ?_
  replace hf := zb1_s hf
  obtain ⟨m52, h51, hf⟩ := hf
  refine zr_callIN [] (cX3_init_ok h51) zvs_X3_init zl_258 rfl zl_511 rfl (Nat.le_of_ble_eq_true rfl) (Nat.le_of_ble_eq_true rfl) (Nat.le_of_ble_eq_true rfl) (Nat.le_of_ble_eq_true rfl) dX7_init_102 rfl ?_
  replace hf := zb1_s hf
  obtain ⟨m53, h54, hf⟩ := hf
  refine zr_aast h54 (by decide) rfl zk3 dX7_init_105 ?_
  refine zr_dup dX7_init_106 rfl ?_
  refine zr_iconst 1 dX7_init_107 (by decide) ?_
  refine zr_new [.int 0, .int 0, .null, .null] zk3 zl_510 zl_255 zl_207 (by decide +kernel) (Nat.le_of_ble_eq_true rfl) (Nat.le_of_ble_eq_true rfl) dX7_init_108 ?_
  replace hf := zb1_s hf
  obtain ⟨m55, h56, hf⟩ := hf
  obtain rfl := Option.some.inj h56
  refine zr_dup dX7_init_111 rfl ?_
  replace hf := zb1_s hf
  obtain ⟨m58, h57, hf⟩ := hf
  refine zr_callIN [] (cX3_init_ok h57) zvs_X3_init zl_258 rfl zl_511 rfl (Nat.le_of_ble_eq_true rfl) (Nat.le_of_ble_eq_true rfl) (Nat.le_of_ble_eq_true rfl) (Nat.le_of_ble_eq_true rfl) dX7_init_112 rfl ?_
  replace hf := zb1_s hf
  obtain ⟨m59, h60, hf⟩ := hf
  refine zr_aast h60 (by decide) rfl zk3 dX7_init_115 ?_
  replace hf := zb1_s hf
  obtain ⟨m61, h62, hf⟩ := hf
  refine zr_putF h62 hin rfl zk7 (by decide) zl_512 rfl rfl rfl dX7_init_116 ?_
  refine zr_aload_n 0 dX7_init_119 rfl ?_
  refine zr_iconst 2 dX7_init_120 (by decide) ?_
  refine zr_newq (t := 7) (N := 2) (by decide) rfl zl_513 (by decide) (by decide) (by decide) (Nat.le_of_ble_eq_true rfl) (Nat.le_of_ble_eq_true rfl) dX7_init_121 ?_
  replace hf := zb1_s hf
  obtain ⟨m63, h64, hf⟩ := hf
  obtain rfl := Option.some.inj h64
  refine zr_dup dX7_init_124 rfl ?_
  refine zr_iconst 0 dX7_init_125 (by decide) ?_
  refine zr_new [.int 0, .null, .null, .null, .null] zk6 zl_513 zl_261 zl_262 (by decide +kernel) (Nat.le_of_ble_eq_true rfl) (Nat.le_of_ble_eq_true rfl) dX7_init_126 ?_
  replace hf := zb1_s hf
  obtain ⟨m65, h66, hf⟩ := hf
  obtain rfl := Option.some.inj h66
  refine zr_dup dX7_init_129 rfl ?_
  replace hf := zb1_s hf
  obtain ⟨m68, h67, hf⟩ := hf
  refine zr_callIN [] (cX6_init_ok h67) zvs_X6_init zl_265 rfl zl_514 rfl (Nat.le_of_ble_eq_true rfl) (Nat.le_of_ble_eq_true rfl) (Nat.le_of_ble_eq_true rfl) (Nat.le_of_ble_eq_true rfl) dX7_init_130 rfl ?_
  replace hf := zb1_s hf
  obtain ⟨m69, h70, hf⟩ := hf
  refine zr_aast h70 (by decide) rfl zk6 dX7_init_133 ?_
  refine zr_dup dX7_init_134 rfl ?_
  refine zr_iconst 1 dX7_init_135 (by decide) ?_
  refine zr_new [.int 0, .null, .null, .null, .null] zk6 zl_513 zl_261 zl_262 (by decide +kernel) (Nat.le_of_ble_eq_true rfl) (Nat.le_of_ble_eq_true rfl) dX7_init_136 ?_
  replace hf := zb1_s hf
  obtain ⟨m71, h72, hf⟩ := hf
  obtain rfl := Option.some.inj h72
  refine zr_dup dX7_init_139 rfl ?_
  replace hf := zb1_s hf
  obtain ⟨m74, h73, hf⟩ := hf
  refine zr_callIN [] (cX6_init_ok h73) zvs_X6_init zl_265 rfl zl_514 rfl (Nat.le_of_ble_eq_true rfl) (Nat.le_of_ble_eq_true rfl) (Nat.le_of_ble_eq_true rfl) (Nat.le_of_ble_eq_true rfl) dX7_init_140 rfl ?_
  replace hf := zb1_s hf
  obtain ⟨m75, h76, hf⟩ := hf
  refine zr_aast h76 (by decide) rfl zk6 dX7_init_143 ?_
  replace hf := zb1_s hf
  obtain ⟨m77, h78, hf⟩ := hf
  refine zr_putF h78 hin rfl zk7 (by decide) zl_515 rfl rfl rfl dX7_init_144 ?_
  cases hf
  exact zr_vret dX7_init_147
theorem dX7_put_0 : decode cX7_put 0 = .ok (.bipush 24, 2) := by decide +kernel
theorem dX7_put_2 : decode cX7_put 2 = .ok (.istore_n 2, 1) := by decide +kernel
theorem dX7_put_3 : decode cX7_put 3 = .ok (.iload_n 2, 1) := by decide +kernel
theorem dX7_put_4 : decode cX7_put 4 = .ok (.ifCond .lt 42, 3) := by decide +kernel
theorem dX7_put_7 : decode cX7_put 7 = .ok (.aload_n 0, 1) := by decide +kernel
theorem dX7_put_8 : decode cX7_put 8 = .ok (.getfield 15, 3) := by decide +kernel
theorem dX7_put_11 : decode cX7_put 11 = .ok (.sipush 600, 3) := by decide +kernel
theorem dX7_put_14 : decode cX7_put 14 = .ok (.if_icmp .ge 32, 3) := by decide +kernel
theorem dX7_put_17 : decode cX7_put 17 = .ok (.aload_n 0, 1) := by decide +kernel
theorem dX7_put_18 : decode cX7_put 18 = .ok (.getfield 9, 3) := by decide +kernel
theorem dX7_put_21 : decode cX7_put 21 = .ok (.aload_n 0, 1) := by decide +kernel
theorem dX7_put_22 : decode cX7_put 22 = .ok (.getfield 15, 3) := by decide +kernel
theorem dX7_put_25 : decode cX7_put 25 = .ok (.iload_n 1, 1) := by decide +kernel
theorem dX7_put_26 : decode cX7_put 26 = .ok (.iload_n 2, 1) := by decide +kernel
theorem dX7_put_27 : decode cX7_put 27 = .ok (.iushr, 1) := by decide +kernel
theorem dX7_put_28 : decode cX7_put 28 = .ok (.i2b, 1) := by decide +kernel
theorem dX7_put_29 : decode cX7_put 29 = .ok (.bastore, 1) := by decide +kernel
theorem dX7_put_30 : decode cX7_put 30 = .ok (.aload_n 0, 1) := by decide +kernel
theorem dX7_put_31 : decode cX7_put 31 = .ok (.dup, 1) := by decide +kernel
theorem dX7_put_32 : decode cX7_put 32 = .ok (.getfield 15, 3) := by decide +kernel
theorem dX7_put_35 : decode cX7_put 35 = .ok (.iconst 1, 1) := by decide +kernel
theorem dX7_put_36 : decode cX7_put 36 = .ok (.iadd, 1) := by decide +kernel
theorem dX7_put_37 : decode cX7_put 37 = .ok (.putfield 15, 3) := by decide +kernel
theorem dX7_put_40 : decode cX7_put 40 = .ok (.iinc 2 (-8), 3) := by decide +kernel
theorem dX7_put_43 : decode cX7_put 43 = .ok (.goto (-40), 3) := by decide +kernel
theorem dX7_put_46 : decode cX7_put 46 = .ok (.return_, 1) := by decide +kernel
noncomputable def fX7_put_l3 (x0 : Nat) (x1 : Int32) (F3 : Int32 → zM → Option (zM)) (x2_1 : Int32) (m2 : zM) : Option (zM) :=
  if x2_1 < 0 then (
  some m2)
  else (
  zb1 (zm_gI m2 7 x0 1) fun v7 =>
  if 600 ≤ v7 then (
  some m2)
  else (
  zb1 (zm_gR m2 7 x0 0) fun v9 =>
  zb1 (zm_gI m2 7 x0 1) fun v11 =>
  zb1 (zm_sI m2 1 v9 v11 (vp_nar .byte ((((x1 : Int32).toUInt32 >>> ((x2_1 : Int32).toUInt32 &&& Int32.toUInt32 31)).toInt32 : Int32).toInt8.toInt32))) fun m13 =>
  zb1 (zm_gI m13 7 x0 1) fun v15 =>
  zb1 (zm_p m13 7 x0 1 (.int (v15 + 1))) fun m17 =>
  F3 (x2_1 + (-8)) m17))
noncomputable def fX7_put (μ : zM) (x0 : Nat) (x1 : Int32) : Option (zM) := zgd (zm_ck μ 7 x0) <|
  zb1 (zf2 (fX7_put_l3 x0 x1) zfu 24 μ : Option (zM)) fun (m5 : zM) =>
  some m5
theorem fX7_put_ck {μ : zM} {x0 : Nat} {x1 : Int32} {z : zM} (h : fX7_put μ x0 x1 = some z) : zm_ck μ 7 x0 = true := (zgd_s h).1
set_option maxHeartbeats 4000000 in
set_option maxRecDepth 100000 in
theorem cX7_put_ok {μ : zM} {x0 : Nat} {x1 : Int32} {mo : zM} (hf : fX7_put μ x0 x1 = some mo) : zC yX7_put cX7_put 3 (none) 0 0 0 [.ref x0, .int x1] μ (none) mo := by
  replace hf := (zgd_s hf).2
  refine zC.of (by decide) (Nat.le_of_ble_eq_true rfl) (fun K hin => ?_)
  clear hin
  show zz K cX7_put (3, RX7, none, 0, 0, 0, none, mo) 0 0 0 [(0, .ref x0), (1, .int x1)] [] μ
  refine zr_bipush 24 dX7_put_0 (by decide) ?_
  refine zr_istore_n [(2, .int 24), (0, .ref x0), (1, .int x1)] dX7_put_2 (Nat.le_of_ble_eq_true rfl) rfl ?_
  replace hf := zb1_s hf
  obtain ⟨m5, hg, hf⟩ := hf
  have hj6 : zz K cX7_put (3, RX7, none, 0, 0, 0, none, mo) 0 0 46 [] [] m5 := by
    cases hf
    exact zr_vret dX7_put_46
  clear hf
  have hf := hg
  clear hg
  have hL19 : ∀ (n : Nat) (x2_1 : Int32) (m2 : zM), zf2 (fX7_put_l3 x0 x1) n x2_1 m2 = some m5 → zz K cX7_put (3, RX7, none, 0, 0, 0, none, mo) 0 0 3 [(0, .ref x0), (1, .int x1), (2, .int x2_1)] [] m2 := by
    intro n
    induction n with
    | zero => intro x2_1 m2 hf; cases hf
    | succ n ih4 =>
      intro x2_1 m2 hf
      replace hf := zf2_s hf
      generalize zf2 (fX7_put_l3 x0 x1) n = F3 at hf ih4
      unfold fX7_put_l3 at hf
      refine zr_iload_n 2 dX7_put_3 rfl ?_
      refine zr_if_lt 46 dX7_put_4 (by decide) (fun hc => ?_) (fun hc => ?_)
      · rw [if_pos hc] at hf
        cases hf
        exact zr_lv [] rfl hj6
      · rw [if_neg hc] at hf
        refine zr_aload_n 0 dX7_put_7 rfl ?_
        replace hf := zb1_s hf
        obtain ⟨v7, h8, hf⟩ := hf
        refine zr_get (zm_gI_g h8) zk7 (by decide) zl_500 dX7_put_8 ?_
        refine zr_sipush 600 dX7_put_11 (by decide) ?_
        refine zr_icmp_ge 46 dX7_put_14 (by decide) (fun hc => ?_) (fun hc => ?_)
        · rw [if_pos hc] at hf
          cases hf
          exact zr_lv [] rfl hj6
        · rw [if_neg hc] at hf
          refine zr_aload_n 0 dX7_put_17 rfl ?_
          replace hf := zb1_s hf
          obtain ⟨v9, h10, hf⟩ := hf
          refine zr_get (zm_gR_g h10) zk7 (by decide) zl_499 dX7_put_18 ?_
          refine zr_aload_n 0 dX7_put_21 rfl ?_
          replace hf := zb1_s hf
          obtain ⟨v11, h12, hf⟩ := hf
          refine zr_get (zm_gI_g h12) zk7 (by decide) zl_500 dX7_put_22 ?_
          refine zr_iload_n 1 dX7_put_25 rfl ?_
          refine zr_iload_n 2 dX7_put_26 rfl ?_
          refine zr_iushr dX7_put_27 ?_
          refine zr_i2b dX7_put_28 ?_
          replace hf := zb1_s hf
          obtain ⟨m13, h14, hf⟩ := hf
          refine zr_bast h14 dX7_put_29 ?_
          refine zr_aload_n 0 dX7_put_30 rfl ?_
          refine zr_dup dX7_put_31 rfl ?_
          replace hf := zb1_s hf
          obtain ⟨v15, h16, hf⟩ := hf
          refine zr_get (zm_gI_g h16) zk7 (by decide) zl_500 dX7_put_32 ?_
          refine zr_iconst 1 dX7_put_35 (by decide) ?_
          refine zr_iadd dX7_put_36 ?_
          replace hf := zb1_s hf
          obtain ⟨m17, h18, hf⟩ := hf
          refine zr_put h18 zk7 (by decide) zl_500 rfl rfl rfl dX7_put_37 ?_
          refine zr_iinc (j := 2) (x2_1 + (-8)) [(2, .int (x2_1 + (-8))), (0, .ref x0), (1, .int x1)] dX7_put_40 rfl rfl (Nat.le_of_ble_eq_true rfl) rfl ?_
          refine zr_goto 3 dX7_put_43 (by decide) ?_
          exact zr_lv [1, 2, 0] rfl (ih4 (x2_1 + (-8)) m17 hf)
  exact zr_lv [1, 2, 0] rfl (hL19 _ 24 μ hf)
theorem dX7_slotFor_0 : decode cX7_slotFor 0 = .ok (.iload_n 1, 1) := by decide +kernel
theorem dX7_slotFor_1 : decode cX7_slotFor 1 = .ok (.ifCond .lt 8, 3) := by decide +kernel
theorem dX7_slotFor_4 : decode cX7_slotFor 4 = .ok (.iload_n 1, 1) := by decide +kernel
theorem dX7_slotFor_5 : decode cX7_slotFor 5 = .ok (.iconst 4, 1) := by decide +kernel
theorem dX7_slotFor_6 : decode cX7_slotFor 6 = .ok (.if_icmp .lt 5, 3) := by decide +kernel
theorem dX7_slotFor_9 : decode cX7_slotFor 9 = .ok (.iconst (-1), 1) := by decide +kernel
theorem dX7_slotFor_10 : decode cX7_slotFor 10 = .ok (.ireturn, 1) := by decide +kernel
theorem dX7_slotFor_11 : decode cX7_slotFor 11 = .ok (.iload_n 2, 1) := by decide +kernel
theorem dX7_slotFor_12 : decode cX7_slotFor 12 = .ok (.iconst (-1), 1) := by decide +kernel
theorem dX7_slotFor_13 : decode cX7_slotFor 13 = .ok (.if_icmp .ne 24, 3) := by decide +kernel
theorem dX7_slotFor_16 : decode cX7_slotFor 16 = .ok (.aload_n 0, 1) := by decide +kernel
theorem dX7_slotFor_17 : decode cX7_slotFor 17 = .ok (.getfield 25, 3) := by decide +kernel
theorem dX7_slotFor_20 : decode cX7_slotFor 20 = .ok (.iload_n 1, 1) := by decide +kernel
theorem dX7_slotFor_21 : decode cX7_slotFor 21 = .ok (.iaload, 1) := by decide +kernel
theorem dX7_slotFor_22 : decode cX7_slotFor 22 = .ok (.iconst 2, 1) := by decide +kernel
theorem dX7_slotFor_23 : decode cX7_slotFor 23 = .ok (.if_icmp .ge 12, 3) := by decide +kernel
theorem dX7_slotFor_26 : decode cX7_slotFor 26 = .ok (.aload_n 0, 1) := by decide +kernel
theorem dX7_slotFor_27 : decode cX7_slotFor 27 = .ok (.getfield 25, 3) := by decide +kernel
theorem dX7_slotFor_30 : decode cX7_slotFor 30 = .ok (.iload_n 1, 1) := by decide +kernel
theorem dX7_slotFor_31 : decode cX7_slotFor 31 = .ok (.iaload, 1) := by decide +kernel
theorem dX7_slotFor_32 : decode cX7_slotFor 32 = .ok (.goto 4, 3) := by decide +kernel
theorem dX7_slotFor_35 : decode cX7_slotFor 35 = .ok (.iconst (-1), 1) := by decide +kernel
theorem dX7_slotFor_36 : decode cX7_slotFor 36 = .ok (.ireturn, 1) := by decide +kernel
theorem dX7_slotFor_37 : decode cX7_slotFor 37 = .ok (.iload_n 2, 1) := by decide +kernel
theorem dX7_slotFor_38 : decode cX7_slotFor 38 = .ok (.ifCond .lt 17, 3) := by decide +kernel
theorem dX7_slotFor_41 : decode cX7_slotFor 41 = .ok (.iload_n 2, 1) := by decide +kernel
theorem dX7_slotFor_42 : decode cX7_slotFor 42 = .ok (.aload_n 0, 1) := by decide +kernel
theorem dX7_slotFor_43 : decode cX7_slotFor 43 = .ok (.getfield 25, 3) := by decide +kernel
theorem dX7_slotFor_46 : decode cX7_slotFor 46 = .ok (.iload_n 1, 1) := by decide +kernel
theorem dX7_slotFor_47 : decode cX7_slotFor 47 = .ok (.iaload, 1) := by decide +kernel
theorem dX7_slotFor_48 : decode cX7_slotFor 48 = .ok (.if_icmp .ge 7, 3) := by decide +kernel
theorem dX7_slotFor_51 : decode cX7_slotFor 51 = .ok (.iload_n 2, 1) := by decide +kernel
theorem dX7_slotFor_52 : decode cX7_slotFor 52 = .ok (.goto 4, 3) := by decide +kernel
theorem dX7_slotFor_55 : decode cX7_slotFor 55 = .ok (.iconst (-1), 1) := by decide +kernel
theorem dX7_slotFor_56 : decode cX7_slotFor 56 = .ok (.ireturn, 1) := by decide +kernel
noncomputable def fX7_slotFor (μ : zM) (x0 : Nat) (x1 : Int32) (x2 : Int32) : Option (Int32) := zgd (zm_ck μ 7 x0) <|
  if x1 < 0 then (
  some (-1))
  else (
  if x1 < 4 then (
  if x2 = (-1) then (
  zb1 (zm_gR μ 7 x0 4) fun v7 =>
  zb1 (zm_aI μ 0 v7 x1) fun v9 =>
  zb1 (if 2 ≤ v9 then (
  some (-1))
  else (
  zb1 (zm_gR μ 7 x0 4) fun v13 =>
  zb1 (zm_aI μ 0 v13 x1) fun v15 =>
  some v15) : Option (Int32)) fun (s11 : Int32) =>
  some s11)
  else (
  zb1 (if x2 < 0 then (
  some (-1))
  else (
  zb1 (zm_gR μ 7 x0 4) fun v3 =>
  zb1 (zm_aI μ 0 v3 x1) fun v5 =>
  if v5 ≤ x2 then (
  some (-1))
  else (
  some x2)) : Option (Int32)) fun (s1 : Int32) =>
  some s1))
  else (
  some (-1)))
theorem fX7_slotFor_ck {μ : zM} {x0 : Nat} {x1 : Int32} {x2 : Int32} {z : Int32} (h : fX7_slotFor μ x0 x1 x2 = some z) : zm_ck μ 7 x0 = true := (zgd_s h).1
set_option maxHeartbeats 4000000 in
set_option maxRecDepth 100000 in
theorem cX7_slotFor_ok {μ : zM} {x0 : Nat} {x1 : Int32} {x2 : Int32} {r : Int32} (hf : fX7_slotFor μ x0 x1 x2 = some r) : zC yX7_slotFor cX7_slotFor 3 (some .int) 0 0 0 [.ref x0, .int x1, .int x2] μ (some (.int r)) μ := by
  replace hf := (zgd_s hf).2
  refine zC.of (by decide) (Nat.le_of_ble_eq_true rfl) (fun K hin => ?_)
  clear hin
  show zz K cX7_slotFor (3, RX7, some .int, 0, 0, 0, some (.int r), μ) 0 0 0 [(0, .ref x0), (1, .int x1), (2, .int x2)] [] μ
  refine zr_iload_n 1 dX7_slotFor_0 rfl ?_
  refine zr_if_lt 9 dX7_slotFor_1 (by decide) (fun hc => ?_) (fun hc => ?_)
  · rw [if_pos hc] at hf
    refine zr_iconst (-1) dX7_slotFor_9 (by decide) ?_
    cases hf
    exact zr_iret dX7_slotFor_10
  · rw [if_neg hc] at hf
    refine zr_iload_n 1 dX7_slotFor_4 rfl ?_
    refine zr_iconst 4 dX7_slotFor_5 (by decide) ?_
    refine zr_icmp_lt 11 dX7_slotFor_6 (by decide) (fun hc => ?_) (fun hc => ?_)
    · rw [if_pos hc] at hf
      refine zr_iload_n 2 dX7_slotFor_11 rfl ?_
      refine zr_iconst (-1) dX7_slotFor_12 (by decide) ?_
      refine zr_icmp_ne 37 dX7_slotFor_13 (by decide) (fun hc => ?_) (fun hc => ?_)
      · rw [if_neg hc] at hf
        refine zr_iload_n 2 dX7_slotFor_37 rfl ?_
        replace hf := zb1_s hf
        obtain ⟨s1, hg, hf⟩ := hf
        have hj2 : zz K cX7_slotFor (3, RX7, some .int, 0, 0, 0, some (.int r), μ) 0 0 56 [] [.int s1] μ := by
          cases hf
          exact zr_iret dX7_slotFor_56
        clear hf
        have hf := hg
        clear hg
        refine zr_if_lt 55 dX7_slotFor_38 (by decide) (fun hc => ?_) (fun hc => ?_)
        · rw [if_pos hc] at hf
          refine zr_iconst (-1) dX7_slotFor_55 (by decide) ?_
          cases hf
          exact zr_lv [] rfl hj2
        · rw [if_neg hc] at hf
          refine zr_iload_n 2 dX7_slotFor_41 rfl ?_
          refine zr_aload_n 0 dX7_slotFor_42 rfl ?_
          replace hf := zb1_s hf
          obtain ⟨v3, h4, hf⟩ := hf
          refine zr_get (zm_gR_g h4) zk7 (by decide) zl_503 dX7_slotFor_43 ?_
          refine zr_iload_n 1 dX7_slotFor_46 rfl ?_
          replace hf := zb1_s hf
          obtain ⟨v5, h6, hf⟩ := hf
          refine zr_iald h6 dX7_slotFor_47 ?_
          refine zr_icmp_ge 55 dX7_slotFor_48 (by decide) (fun hc => ?_) (fun hc => ?_)
          · rw [if_pos hc] at hf
            refine zr_iconst (-1) dX7_slotFor_55 (by decide) ?_
            cases hf
            exact zr_lv [] rfl hj2
          · rw [if_neg hc] at hf
            refine zr_iload_n 2 dX7_slotFor_51 rfl ?_
            refine zr_goto 56 dX7_slotFor_52 (by decide) ?_
            cases hf
            exact zr_lv [] rfl hj2
      · rw [if_pos hc] at hf
        refine zr_aload_n 0 dX7_slotFor_16 rfl ?_
        replace hf := zb1_s hf
        obtain ⟨v7, h8, hf⟩ := hf
        refine zr_get (zm_gR_g h8) zk7 (by decide) zl_503 dX7_slotFor_17 ?_
        refine zr_iload_n 1 dX7_slotFor_20 rfl ?_
        replace hf := zb1_s hf
        obtain ⟨v9, h10, hf⟩ := hf
        refine zr_iald h10 dX7_slotFor_21 ?_
        refine zr_iconst 2 dX7_slotFor_22 (by decide) ?_
        replace hf := zb1_s hf
        obtain ⟨s11, hg, hf⟩ := hf
        have hj12 : zz K cX7_slotFor (3, RX7, some .int, 0, 0, 0, some (.int r), μ) 0 0 36 [] [.int s11] μ := by
          cases hf
          exact zr_iret dX7_slotFor_36
        clear hf
        have hf := hg
        clear hg
        refine zr_icmp_ge 35 dX7_slotFor_23 (by decide) (fun hc => ?_) (fun hc => ?_)
        · rw [if_pos hc] at hf
          refine zr_iconst (-1) dX7_slotFor_35 (by decide) ?_
          cases hf
          exact zr_lv [] rfl hj12
        · rw [if_neg hc] at hf
          refine zr_aload_n 0 dX7_slotFor_26 rfl ?_
          replace hf := zb1_s hf
          obtain ⟨v13, h14, hf⟩ := hf
          refine zr_get (zm_gR_g h14) zk7 (by decide) zl_503 dX7_slotFor_27 ?_
          refine zr_iload_n 1 dX7_slotFor_30 rfl ?_
          replace hf := zb1_s hf
          obtain ⟨v15, h16, hf⟩ := hf
          refine zr_iald h16 dX7_slotFor_31 ?_
          refine zr_goto 36 dX7_slotFor_32 (by decide) ?_
          cases hf
          exact zr_lv [] rfl hj12
    · rw [if_neg hc] at hf
      refine zr_iconst (-1) dX7_slotFor_9 (by decide) ?_
      cases hf
      exact zr_iret dX7_slotFor_10
theorem zl_516 : Cond.methodLink RX9 58 arraycopyName ∈ zt := zt_at 736 (by decide +kernel)
theorem dX9_copyFrom_0 : decode cX9_copyFrom 0 = .ok (.aload_n 0, 1) := by decide +kernel
theorem dX9_copyFrom_1 : decode cX9_copyFrom 1 = .ok (.aload_n 1, 1) := by decide +kernel
theorem dX9_copyFrom_2 : decode cX9_copyFrom 2 = .ok (.getfield 42, 3) := by decide +kernel
theorem dX9_copyFrom_5 : decode cX9_copyFrom 5 = .ok (.putfield 42, 3) := by decide +kernel
theorem dX9_copyFrom_8 : decode cX9_copyFrom 8 = .ok (.aload_n 1, 1) := by decide +kernel
theorem dX9_copyFrom_9 : decode cX9_copyFrom 9 = .ok (.getfield 9, 3) := by decide +kernel
theorem dX9_copyFrom_12 : decode cX9_copyFrom 12 = .ok (.iconst 0, 1) := by decide +kernel
theorem dX9_copyFrom_13 : decode cX9_copyFrom 13 = .ok (.aload_n 0, 1) := by decide +kernel
theorem dX9_copyFrom_14 : decode cX9_copyFrom 14 = .ok (.getfield 9, 3) := by decide +kernel
theorem dX9_copyFrom_17 : decode cX9_copyFrom 17 = .ok (.iconst 0, 1) := by decide +kernel
theorem dX9_copyFrom_18 : decode cX9_copyFrom 18 = .ok (.bipush 8, 2) := by decide +kernel
theorem dX9_copyFrom_20 : decode cX9_copyFrom 20 = .ok (.invokestatic 58, 3) := by decide +kernel
theorem dX9_copyFrom_23 : decode cX9_copyFrom 23 = .ok (.aload_n 1, 1) := by decide +kernel
theorem dX9_copyFrom_24 : decode cX9_copyFrom 24 = .ok (.getfield 15, 3) := by decide +kernel
theorem dX9_copyFrom_27 : decode cX9_copyFrom 27 = .ok (.iconst 0, 1) := by decide +kernel
theorem dX9_copyFrom_28 : decode cX9_copyFrom 28 = .ok (.aload_n 0, 1) := by decide +kernel
theorem dX9_copyFrom_29 : decode cX9_copyFrom 29 = .ok (.getfield 15, 3) := by decide +kernel
theorem dX9_copyFrom_32 : decode cX9_copyFrom 32 = .ok (.iconst 0, 1) := by decide +kernel
theorem dX9_copyFrom_33 : decode cX9_copyFrom 33 = .ok (.bipush 8, 2) := by decide +kernel
theorem dX9_copyFrom_35 : decode cX9_copyFrom 35 = .ok (.invokestatic 58, 3) := by decide +kernel
theorem dX9_copyFrom_38 : decode cX9_copyFrom 38 = .ok (.aload_n 1, 1) := by decide +kernel
theorem dX9_copyFrom_39 : decode cX9_copyFrom 39 = .ok (.getfield 18, 3) := by decide +kernel
theorem dX9_copyFrom_42 : decode cX9_copyFrom 42 = .ok (.iconst 0, 1) := by decide +kernel
theorem dX9_copyFrom_43 : decode cX9_copyFrom 43 = .ok (.aload_n 0, 1) := by decide +kernel
theorem dX9_copyFrom_44 : decode cX9_copyFrom 44 = .ok (.getfield 18, 3) := by decide +kernel
theorem dX9_copyFrom_47 : decode cX9_copyFrom 47 = .ok (.iconst 0, 1) := by decide +kernel
theorem dX9_copyFrom_48 : decode cX9_copyFrom 48 = .ok (.bipush 8, 2) := by decide +kernel
theorem dX9_copyFrom_50 : decode cX9_copyFrom 50 = .ok (.invokestatic 58, 3) := by decide +kernel
theorem dX9_copyFrom_53 : decode cX9_copyFrom 53 = .ok (.aload_n 0, 1) := by decide +kernel
theorem dX9_copyFrom_54 : decode cX9_copyFrom 54 = .ok (.aload_n 1, 1) := by decide +kernel
theorem dX9_copyFrom_55 : decode cX9_copyFrom 55 = .ok (.getfield 46, 3) := by decide +kernel
theorem dX9_copyFrom_58 : decode cX9_copyFrom 58 = .ok (.putfield 46, 3) := by decide +kernel
theorem dX9_copyFrom_61 : decode cX9_copyFrom 61 = .ok (.aload_n 1, 1) := by decide +kernel
theorem dX9_copyFrom_62 : decode cX9_copyFrom 62 = .ok (.getfield 21, 3) := by decide +kernel
theorem dX9_copyFrom_65 : decode cX9_copyFrom 65 = .ok (.iconst 0, 1) := by decide +kernel
theorem dX9_copyFrom_66 : decode cX9_copyFrom 66 = .ok (.aload_n 0, 1) := by decide +kernel
theorem dX9_copyFrom_67 : decode cX9_copyFrom 67 = .ok (.getfield 21, 3) := by decide +kernel
theorem dX9_copyFrom_70 : decode cX9_copyFrom 70 = .ok (.iconst 0, 1) := by decide +kernel
theorem dX9_copyFrom_71 : decode cX9_copyFrom 71 = .ok (.bipush 6, 2) := by decide +kernel
theorem dX9_copyFrom_73 : decode cX9_copyFrom 73 = .ok (.invokestatic 58, 3) := by decide +kernel
theorem dX9_copyFrom_76 : decode cX9_copyFrom 76 = .ok (.aload_n 1, 1) := by decide +kernel
theorem dX9_copyFrom_77 : decode cX9_copyFrom 77 = .ok (.getfield 24, 3) := by decide +kernel
theorem dX9_copyFrom_80 : decode cX9_copyFrom 80 = .ok (.iconst 0, 1) := by decide +kernel
theorem dX9_copyFrom_81 : decode cX9_copyFrom 81 = .ok (.aload_n 0, 1) := by decide +kernel
theorem dX9_copyFrom_82 : decode cX9_copyFrom 82 = .ok (.getfield 24, 3) := by decide +kernel
theorem dX9_copyFrom_85 : decode cX9_copyFrom 85 = .ok (.iconst 0, 1) := by decide +kernel
theorem dX9_copyFrom_86 : decode cX9_copyFrom 86 = .ok (.bipush 6, 2) := by decide +kernel
theorem dX9_copyFrom_88 : decode cX9_copyFrom 88 = .ok (.invokestatic 58, 3) := by decide +kernel
theorem dX9_copyFrom_91 : decode cX9_copyFrom 91 = .ok (.aload_n 1, 1) := by decide +kernel
theorem dX9_copyFrom_92 : decode cX9_copyFrom 92 = .ok (.getfield 27, 3) := by decide +kernel
theorem dX9_copyFrom_95 : decode cX9_copyFrom 95 = .ok (.iconst 0, 1) := by decide +kernel
theorem dX9_copyFrom_96 : decode cX9_copyFrom 96 = .ok (.aload_n 0, 1) := by decide +kernel
theorem dX9_copyFrom_97 : decode cX9_copyFrom 97 = .ok (.getfield 27, 3) := by decide +kernel
theorem dX9_copyFrom_100 : decode cX9_copyFrom 100 = .ok (.iconst 0, 1) := by decide +kernel
theorem dX9_copyFrom_101 : decode cX9_copyFrom 101 = .ok (.bipush 6, 2) := by decide +kernel
theorem dX9_copyFrom_103 : decode cX9_copyFrom 103 = .ok (.invokestatic 58, 3) := by decide +kernel
theorem dX9_copyFrom_106 : decode cX9_copyFrom 106 = .ok (.aload_n 0, 1) := by decide +kernel
theorem dX9_copyFrom_107 : decode cX9_copyFrom 107 = .ok (.aload_n 1, 1) := by decide +kernel
theorem dX9_copyFrom_108 : decode cX9_copyFrom 108 = .ok (.getfield 49, 3) := by decide +kernel
theorem dX9_copyFrom_111 : decode cX9_copyFrom 111 = .ok (.putfield 49, 3) := by decide +kernel
theorem dX9_copyFrom_114 : decode cX9_copyFrom 114 = .ok (.aload_n 1, 1) := by decide +kernel
theorem dX9_copyFrom_115 : decode cX9_copyFrom 115 = .ok (.getfield 30, 3) := by decide +kernel
theorem dX9_copyFrom_118 : decode cX9_copyFrom 118 = .ok (.iconst 0, 1) := by decide +kernel
theorem dX9_copyFrom_119 : decode cX9_copyFrom 119 = .ok (.aload_n 0, 1) := by decide +kernel
theorem dX9_copyFrom_120 : decode cX9_copyFrom 120 = .ok (.getfield 30, 3) := by decide +kernel
theorem dX9_copyFrom_123 : decode cX9_copyFrom 123 = .ok (.iconst 0, 1) := by decide +kernel
theorem dX9_copyFrom_124 : decode cX9_copyFrom 124 = .ok (.iconst 4, 1) := by decide +kernel
theorem dX9_copyFrom_125 : decode cX9_copyFrom 125 = .ok (.invokestatic 58, 3) := by decide +kernel
theorem dX9_copyFrom_128 : decode cX9_copyFrom 128 = .ok (.aload_n 1, 1) := by decide +kernel
theorem dX9_copyFrom_129 : decode cX9_copyFrom 129 = .ok (.getfield 33, 3) := by decide +kernel
theorem dX9_copyFrom_132 : decode cX9_copyFrom 132 = .ok (.iconst 0, 1) := by decide +kernel
theorem dX9_copyFrom_133 : decode cX9_copyFrom 133 = .ok (.aload_n 0, 1) := by decide +kernel
theorem dX9_copyFrom_134 : decode cX9_copyFrom 134 = .ok (.getfield 33, 3) := by decide +kernel
theorem dX9_copyFrom_137 : decode cX9_copyFrom 137 = .ok (.iconst 0, 1) := by decide +kernel
theorem dX9_copyFrom_138 : decode cX9_copyFrom 138 = .ok (.iconst 4, 1) := by decide +kernel
theorem dX9_copyFrom_139 : decode cX9_copyFrom 139 = .ok (.invokestatic 58, 3) := by decide +kernel
theorem dX9_copyFrom_142 : decode cX9_copyFrom 142 = .ok (.aload_n 1, 1) := by decide +kernel
theorem dX9_copyFrom_143 : decode cX9_copyFrom 143 = .ok (.getfield 36, 3) := by decide +kernel
theorem dX9_copyFrom_146 : decode cX9_copyFrom 146 = .ok (.iconst 0, 1) := by decide +kernel
theorem dX9_copyFrom_147 : decode cX9_copyFrom 147 = .ok (.aload_n 0, 1) := by decide +kernel
theorem dX9_copyFrom_148 : decode cX9_copyFrom 148 = .ok (.getfield 36, 3) := by decide +kernel
theorem dX9_copyFrom_151 : decode cX9_copyFrom 151 = .ok (.iconst 0, 1) := by decide +kernel
theorem dX9_copyFrom_152 : decode cX9_copyFrom 152 = .ok (.iconst 4, 1) := by decide +kernel
theorem dX9_copyFrom_153 : decode cX9_copyFrom 153 = .ok (.invokestatic 58, 3) := by decide +kernel
theorem dX9_copyFrom_156 : decode cX9_copyFrom 156 = .ok (.aload_n 1, 1) := by decide +kernel
theorem dX9_copyFrom_157 : decode cX9_copyFrom 157 = .ok (.getfield 39, 3) := by decide +kernel
theorem dX9_copyFrom_160 : decode cX9_copyFrom 160 = .ok (.iconst 0, 1) := by decide +kernel
theorem dX9_copyFrom_161 : decode cX9_copyFrom 161 = .ok (.aload_n 0, 1) := by decide +kernel
theorem dX9_copyFrom_162 : decode cX9_copyFrom 162 = .ok (.getfield 39, 3) := by decide +kernel
theorem dX9_copyFrom_165 : decode cX9_copyFrom 165 = .ok (.iconst 0, 1) := by decide +kernel
theorem dX9_copyFrom_166 : decode cX9_copyFrom 166 = .ok (.bipush 100, 2) := by decide +kernel
theorem dX9_copyFrom_168 : decode cX9_copyFrom 168 = .ok (.invokestatic 58, 3) := by decide +kernel
theorem dX9_copyFrom_171 : decode cX9_copyFrom 171 = .ok (.return_, 1) := by decide +kernel
noncomputable def fX9_copyFrom (μ : zM) (x0 : Nat) (x1 : Nat) : Option (zM) := zgd (zm_ck μ 9 x0) <|
  zb1 (zm_gI μ 9 x1 0) fun v1 =>
  zb1 (zm_p μ 9 x0 0 (.int v1)) fun m3 =>
  zb1 (zm_gR m3 9 x1 1) fun v5 =>
  zb1 (zm_gR m3 9 x0 1) fun v7 =>
  zb1 (zm_cpy m3 0 v5 0 v7 0 8) fun m9 =>
  zb1 (zm_gR m9 9 x1 2) fun v11 =>
  zb1 (zm_gR m9 9 x0 2) fun v13 =>
  zb1 (zm_cpy m9 0 v11 0 v13 0 8) fun m15 =>
  zb1 (zm_gR m15 9 x1 3) fun v17 =>
  zb1 (zm_gR m15 9 x0 3) fun v19 =>
  zb1 (zm_cpy m15 0 v17 0 v19 0 8) fun m21 =>
  zb1 (zm_gI m21 9 x1 4) fun v23 =>
  zb1 (zm_p m21 9 x0 4 (.int v23)) fun m25 =>
  zb1 (zm_gR m25 9 x1 5) fun v27 =>
  zb1 (zm_gR m25 9 x0 5) fun v29 =>
  zb1 (zm_cpy m25 0 v27 0 v29 0 6) fun m31 =>
  zb1 (zm_gR m31 9 x1 6) fun v33 =>
  zb1 (zm_gR m31 9 x0 6) fun v35 =>
  zb1 (zm_cpy m31 0 v33 0 v35 0 6) fun m37 =>
  zb1 (zm_gR m37 9 x1 7) fun v39 =>
  zb1 (zm_gR m37 9 x0 7) fun v41 =>
  zb1 (zm_cpy m37 0 v39 0 v41 0 6) fun m43 =>
  zb1 (zm_gI m43 9 x1 8) fun v45 =>
  zb1 (zm_p m43 9 x0 8 (.int v45)) fun m47 =>
  zb1 (zm_gR m47 9 x1 9) fun v49 =>
  zb1 (zm_gR m47 9 x0 9) fun v51 =>
  zb1 (zm_cpy m47 0 v49 0 v51 0 4) fun m53 =>
  zb1 (zm_gR m53 9 x1 10) fun v55 =>
  zb1 (zm_gR m53 9 x0 10) fun v57 =>
  zb1 (zm_cpy m53 0 v55 0 v57 0 4) fun m59 =>
  zb1 (zm_gR m59 9 x1 11) fun v61 =>
  zb1 (zm_gR m59 9 x0 11) fun v63 =>
  zb1 (zm_cpy m59 0 v61 0 v63 0 4) fun m65 =>
  zb1 (zm_gR m65 9 x1 12) fun v67 =>
  zb1 (zm_gR m65 9 x0 12) fun v69 =>
  zb1 (zm_cpy m65 0 v67 0 v69 0 100) fun m71 =>
  some m71
theorem fX9_copyFrom_ck {μ : zM} {x0 : Nat} {x1 : Nat} {z : zM} (h : fX9_copyFrom μ x0 x1 = some z) : zm_ck μ 9 x0 = true := (zgd_s h).1
set_option maxHeartbeats 4000000 in
set_option maxRecDepth 100000 in
theorem cX9_copyFrom_ok {μ : zM} {x0 : Nat} {x1 : Nat} {mo : zM} (hf : fX9_copyFrom μ x0 x1 = some mo) : zC yX9_copyFrom cX9_copyFrom 2 (none) 1 0 0 [.ref x0, .ref x1] μ (none) mo := by
  replace hf := (zgd_s hf).2
  refine zC.of (by decide) (Nat.le_of_ble_eq_true rfl) (fun K hin => ?_)
  clear hin
  show zz K cX9_copyFrom (2, RX9, none, 1, 0, 0, none, mo) 0 0 0 [(0, .ref x0), (1, .ref x1)] [] μ
  refine zr_aload_n 0 dX9_copyFrom_0 rfl ?_
  refine zr_aload_n 1 dX9_copyFrom_1 rfl ?_
  replace hf := zb1_s hf
  obtain ⟨v1, h2, hf⟩ := hf
  refine zr_get (zm_gI_g h2) zk9 (by decide) zl_8 dX9_copyFrom_2 ?_
  replace hf := zb1_s hf
  obtain ⟨m3, h4, hf⟩ := hf
  refine zr_put h4 zk9 (by decide) zl_8 rfl rfl rfl dX9_copyFrom_5 ?_
  refine zr_aload_n 1 dX9_copyFrom_8 rfl ?_
  replace hf := zb1_s hf
  obtain ⟨v5, h6, hf⟩ := hf
  refine zr_get (zm_gR_g h6) zk9 (by decide) zl_116 dX9_copyFrom_9 ?_
  refine zr_iconst 0 dX9_copyFrom_12 (by decide) ?_
  refine zr_aload_n 0 dX9_copyFrom_13 rfl ?_
  replace hf := zb1_s hf
  obtain ⟨v7, h8, hf⟩ := hf
  refine zr_get (zm_gR_g h8) zk9 (by decide) zl_116 dX9_copyFrom_14 ?_
  refine zr_iconst 0 dX9_copyFrom_17 (by decide) ?_
  refine zr_bipush 8 dX9_copyFrom_18 (by decide) ?_
  replace hf := zb1_s hf
  obtain ⟨m9, h10, hf⟩ := hf
  refine zr_cpy h10 (by decide) zl_516 zl_99 zl_100 zl_101 (Nat.le_of_ble_eq_true rfl) (Nat.le_of_ble_eq_true rfl) dX9_copyFrom_20 ?_
  refine zr_aload_n 1 dX9_copyFrom_23 rfl ?_
  replace hf := zb1_s hf
  obtain ⟨v11, h12, hf⟩ := hf
  refine zr_get (zm_gR_g h12) zk9 (by decide) zl_115 dX9_copyFrom_24 ?_
  refine zr_iconst 0 dX9_copyFrom_27 (by decide) ?_
  refine zr_aload_n 0 dX9_copyFrom_28 rfl ?_
  replace hf := zb1_s hf
  obtain ⟨v13, h14, hf⟩ := hf
  refine zr_get (zm_gR_g h14) zk9 (by decide) zl_115 dX9_copyFrom_29 ?_
  refine zr_iconst 0 dX9_copyFrom_32 (by decide) ?_
  refine zr_bipush 8 dX9_copyFrom_33 (by decide) ?_
  replace hf := zb1_s hf
  obtain ⟨m15, h16, hf⟩ := hf
  refine zr_cpy h16 (by decide) zl_516 zl_99 zl_100 zl_101 (Nat.le_of_ble_eq_true rfl) (Nat.le_of_ble_eq_true rfl) dX9_copyFrom_35 ?_
  refine zr_aload_n 1 dX9_copyFrom_38 rfl ?_
  replace hf := zb1_s hf
  obtain ⟨v17, h18, hf⟩ := hf
  refine zr_get (zm_gR_g h18) zk9 (by decide) zl_228 dX9_copyFrom_39 ?_
  refine zr_iconst 0 dX9_copyFrom_42 (by decide) ?_
  refine zr_aload_n 0 dX9_copyFrom_43 rfl ?_
  replace hf := zb1_s hf
  obtain ⟨v19, h20, hf⟩ := hf
  refine zr_get (zm_gR_g h20) zk9 (by decide) zl_228 dX9_copyFrom_44 ?_
  refine zr_iconst 0 dX9_copyFrom_47 (by decide) ?_
  refine zr_bipush 8 dX9_copyFrom_48 (by decide) ?_
  replace hf := zb1_s hf
  obtain ⟨m21, h22, hf⟩ := hf
  refine zr_cpy h22 (by decide) zl_516 zl_99 zl_100 zl_101 (Nat.le_of_ble_eq_true rfl) (Nat.le_of_ble_eq_true rfl) dX9_copyFrom_50 ?_
  refine zr_aload_n 0 dX9_copyFrom_53 rfl ?_
  refine zr_aload_n 1 dX9_copyFrom_54 rfl ?_
  replace hf := zb1_s hf
  obtain ⟨v23, h24, hf⟩ := hf
  refine zr_get (zm_gI_g h24) zk9 (by decide) zl_103 dX9_copyFrom_55 ?_
  replace hf := zb1_s hf
  obtain ⟨m25, h26, hf⟩ := hf
  refine zr_put h26 zk9 (by decide) zl_103 rfl rfl rfl dX9_copyFrom_58 ?_
  refine zr_aload_n 1 dX9_copyFrom_61 rfl ?_
  replace hf := zb1_s hf
  obtain ⟨v27, h28, hf⟩ := hf
  refine zr_get (zm_gR_g h28) zk9 (by decide) zl_229 dX9_copyFrom_62 ?_
  refine zr_iconst 0 dX9_copyFrom_65 (by decide) ?_
  refine zr_aload_n 0 dX9_copyFrom_66 rfl ?_
  replace hf := zb1_s hf
  obtain ⟨v29, h30, hf⟩ := hf
  refine zr_get (zm_gR_g h30) zk9 (by decide) zl_229 dX9_copyFrom_67 ?_
  refine zr_iconst 0 dX9_copyFrom_70 (by decide) ?_
  refine zr_bipush 6 dX9_copyFrom_71 (by decide) ?_
  replace hf := zb1_s hf
  obtain ⟨m31, h32, hf⟩ := hf
  refine zr_cpy h32 (by decide) zl_516 zl_99 zl_100 zl_101 (Nat.le_of_ble_eq_true rfl) (Nat.le_of_ble_eq_true rfl) dX9_copyFrom_73 ?_
  refine zr_aload_n 1 dX9_copyFrom_76 rfl ?_
  replace hf := zb1_s hf
  obtain ⟨v33, h34, hf⟩ := hf
  refine zr_get (zm_gR_g h34) zk9 (by decide) zl_230 dX9_copyFrom_77 ?_
  refine zr_iconst 0 dX9_copyFrom_80 (by decide) ?_
  refine zr_aload_n 0 dX9_copyFrom_81 rfl ?_
  replace hf := zb1_s hf
  obtain ⟨v35, h36, hf⟩ := hf
  refine zr_get (zm_gR_g h36) zk9 (by decide) zl_230 dX9_copyFrom_82 ?_
  refine zr_iconst 0 dX9_copyFrom_85 (by decide) ?_
  refine zr_bipush 6 dX9_copyFrom_86 (by decide) ?_
  replace hf := zb1_s hf
  obtain ⟨m37, h38, hf⟩ := hf
  refine zr_cpy h38 (by decide) zl_516 zl_99 zl_100 zl_101 (Nat.le_of_ble_eq_true rfl) (Nat.le_of_ble_eq_true rfl) dX9_copyFrom_88 ?_
  refine zr_aload_n 1 dX9_copyFrom_91 rfl ?_
  replace hf := zb1_s hf
  obtain ⟨v39, h40, hf⟩ := hf
  refine zr_get (zm_gR_g h40) zk9 (by decide) zl_231 dX9_copyFrom_92 ?_
  refine zr_iconst 0 dX9_copyFrom_95 (by decide) ?_
  refine zr_aload_n 0 dX9_copyFrom_96 rfl ?_
  replace hf := zb1_s hf
  obtain ⟨v41, h42, hf⟩ := hf
  refine zr_get (zm_gR_g h42) zk9 (by decide) zl_231 dX9_copyFrom_97 ?_
  refine zr_iconst 0 dX9_copyFrom_100 (by decide) ?_
  refine zr_bipush 6 dX9_copyFrom_101 (by decide) ?_
  replace hf := zb1_s hf
  obtain ⟨m43, h44, hf⟩ := hf
  refine zr_cpy h44 (by decide) zl_516 zl_99 zl_100 zl_101 (Nat.le_of_ble_eq_true rfl) (Nat.le_of_ble_eq_true rfl) dX9_copyFrom_103 ?_
  refine zr_aload_n 0 dX9_copyFrom_106 rfl ?_
  refine zr_aload_n 1 dX9_copyFrom_107 rfl ?_
  replace hf := zb1_s hf
  obtain ⟨v45, h46, hf⟩ := hf
  refine zr_get (zm_gI_g h46) zk9 (by decide) zl_276 dX9_copyFrom_108 ?_
  replace hf := zb1_s hf
  obtain ⟨m47, h48, hf⟩ := hf
  refine zr_put h48 zk9 (by decide) zl_276 rfl rfl rfl dX9_copyFrom_111 ?_
  refine zr_aload_n 1 dX9_copyFrom_114 rfl ?_
  replace hf := zb1_s hf
  obtain ⟨v49, h50, hf⟩ := hf
  refine zr_get (zm_gR_g h50) zk9 (by decide) zl_232 dX9_copyFrom_115 ?_
  refine zr_iconst 0 dX9_copyFrom_118 (by decide) ?_
  refine zr_aload_n 0 dX9_copyFrom_119 rfl ?_
  replace hf := zb1_s hf
  obtain ⟨v51, h52, hf⟩ := hf
  refine zr_get (zm_gR_g h52) zk9 (by decide) zl_232 dX9_copyFrom_120 ?_
  refine zr_iconst 0 dX9_copyFrom_123 (by decide) ?_
  refine zr_iconst 4 dX9_copyFrom_124 (by decide) ?_
  replace hf := zb1_s hf
  obtain ⟨m53, h54, hf⟩ := hf
  refine zr_cpy h54 (by decide) zl_516 zl_99 zl_100 zl_101 (Nat.le_of_ble_eq_true rfl) (Nat.le_of_ble_eq_true rfl) dX9_copyFrom_125 ?_
  refine zr_aload_n 1 dX9_copyFrom_128 rfl ?_
  replace hf := zb1_s hf
  obtain ⟨v55, h56, hf⟩ := hf
  refine zr_get (zm_gR_g h56) zk9 (by decide) zl_233 dX9_copyFrom_129 ?_
  refine zr_iconst 0 dX9_copyFrom_132 (by decide) ?_
  refine zr_aload_n 0 dX9_copyFrom_133 rfl ?_
  replace hf := zb1_s hf
  obtain ⟨v57, h58, hf⟩ := hf
  refine zr_get (zm_gR_g h58) zk9 (by decide) zl_233 dX9_copyFrom_134 ?_
  refine zr_iconst 0 dX9_copyFrom_137 (by decide) ?_
  refine zr_iconst 4 dX9_copyFrom_138 (by decide) ?_
  replace hf := zb1_s hf
  obtain ⟨m59, h60, hf⟩ := hf
  refine zr_cpy h60 (by decide) zl_516 zl_99 zl_100 zl_101 (Nat.le_of_ble_eq_true rfl) (Nat.le_of_ble_eq_true rfl) dX9_copyFrom_139 ?_
  refine zr_aload_n 1 dX9_copyFrom_142 rfl ?_
  replace hf := zb1_s hf
  obtain ⟨v61, h62, hf⟩ := hf
  refine zr_get (zm_gR_g h62) zk9 (by decide) zl_234 dX9_copyFrom_143 ?_
  refine zr_iconst 0 dX9_copyFrom_146 (by decide) ?_
  refine zr_aload_n 0 dX9_copyFrom_147 rfl ?_
  replace hf := zb1_s hf
  obtain ⟨v63, h64, hf⟩ := hf
  refine zr_get (zm_gR_g h64) zk9 (by decide) zl_234 dX9_copyFrom_148 ?_
  refine zr_iconst 0 dX9_copyFrom_151 (by decide) ?_
  refine zr_iconst 4 dX9_copyFrom_152 (by decide) ?_
  replace hf := zb1_s hf
  obtain ⟨m65, h66, hf⟩ := hf
  refine zr_cpy h66 (by decide) zl_516 zl_99 zl_100 zl_101 (Nat.le_of_ble_eq_true rfl) (Nat.le_of_ble_eq_true rfl) dX9_copyFrom_153 ?_
  refine zr_aload_n 1 dX9_copyFrom_156 rfl ?_
  replace hf := zb1_s hf
  obtain ⟨v67, h68, hf⟩ := hf
  refine zr_get (zm_gR_g h68) zk9 (by decide) zl_7 dX9_copyFrom_157 ?_
  refine zr_iconst 0 dX9_copyFrom_160 (by decide) ?_
  refine zr_aload_n 0 dX9_copyFrom_161 rfl ?_
  replace hf := zb1_s hf
  obtain ⟨v69, h70, hf⟩ := hf
  refine zr_get (zm_gR_g h70) zk9 (by decide) zl_7 dX9_copyFrom_162 ?_
  refine zr_iconst 0 dX9_copyFrom_165 (by decide) ?_
  refine zr_bipush 100 dX9_copyFrom_166 (by decide) ?_
  replace hf := zb1_s hf
  obtain ⟨m71, h72, hf⟩ := hf
  refine zr_cpy h72 (by decide) zl_516 zl_99 zl_100 zl_101 (Nat.le_of_ble_eq_true rfl) (Nat.le_of_ble_eq_true rfl) dX9_copyFrom_168 ?_
  cases hf
  exact zr_vret dX9_copyFrom_171
theorem zl_517 : Cond.methodLink RX7 88 Lib.Math.max.name ∈ zt := zt_at 754 (by decide +kernel)
theorem zl_518 : Cond.fieldLink RX7 57 "TwoEchoes$Reader" "valley" "LTwoEchoes$Valley;" ∈ zt := zt_at 368 (by decide +kernel)
theorem zl_519 : Cond.code yX9_copyFrom cX9_copyFrom 2 (none) ∈ zt := zt_at 735 (by decide +kernel)
theorem zvs_X9_copyFrom : zvS yX9_copyFrom cX9_copyFrom 2 (none) 1 := ⟨zl_519, zl_14, ⟨by decide +kernel, by decide +kernel, by decide +kernel⟩, by decide⟩
theorem zl_520 : Cond.methodLink RX7 63 yX9_copyFrom ∈ zt := zt_at 732 (by decide +kernel)
theorem zl_521 : Cond.instanceMethod yX9_copyFrom ∈ zt := zt_at 733 (by decide +kernel)
theorem zl_522 : Cond.selects RX9 yX9_copyFrom yX9_copyFrom ∈ zt := zt_at 734 (by decide +kernel)
theorem zl_523 : Cond.fieldLink RX7 67 "TwoEchoes$Reader" "day" "LTwoEchoes$Day;" ∈ zt := zt_at 370 (by decide +kernel)
theorem zl_524 : Cond.code yX2_copyFrom cX2_copyFrom 2 (none) ∈ zt := zt_at 742 (by decide +kernel)
theorem zvs_X2_copyFrom : zvS yX2_copyFrom cX2_copyFrom 2 (none) 1 := ⟨zl_524, zl_249, ⟨by decide +kernel, by decide +kernel, by decide +kernel⟩, by decide⟩
theorem zl_525 : Cond.methodLink RX7 71 yX2_copyFrom ∈ zt := zt_at 739 (by decide +kernel)
theorem zl_526 : Cond.instanceMethod yX2_copyFrom ∈ zt := zt_at 740 (by decide +kernel)
theorem zl_527 : Cond.selects RX2 yX2_copyFrom yX2_copyFrom ∈ zt := zt_at 741 (by decide +kernel)
theorem zl_528 : Cond.fieldLink RX7 74 "TwoEchoes$Reader" "lesson" "LTwoEchoes$Lesson;" ∈ zt := zt_at 372 (by decide +kernel)
theorem zl_529 : Cond.code yX3_copyFrom cX3_copyFrom 2 (none) ∈ zt := zt_at 747 (by decide +kernel)
theorem zvs_X3_copyFrom : zvS yX3_copyFrom cX3_copyFrom 2 (none) 1 := ⟨zl_529, zl_207, ⟨by decide +kernel, by decide +kernel, by decide +kernel⟩, by decide⟩
theorem zl_530 : Cond.methodLink RX7 78 yX3_copyFrom ∈ zt := zt_at 744 (by decide +kernel)
theorem zl_531 : Cond.instanceMethod yX3_copyFrom ∈ zt := zt_at 745 (by decide +kernel)
theorem zl_532 : Cond.selects RX3 yX3_copyFrom yX3_copyFrom ∈ zt := zt_at 746 (by decide +kernel)
theorem zl_533 : Cond.fieldLink RX7 81 "TwoEchoes$Reader" "sight" "LTwoEchoes$Sight;" ∈ zt := zt_at 374 (by decide +kernel)
theorem zl_534 : Cond.code yX6_copyFrom cX6_copyFrom 2 (none) ∈ zt := zt_at 752 (by decide +kernel)
theorem zvs_X6_copyFrom : zvS yX6_copyFrom cX6_copyFrom 2 (none) 1 := ⟨zl_534, zl_262, ⟨by decide +kernel, by decide +kernel, by decide +kernel⟩, by decide⟩
theorem zl_535 : Cond.methodLink RX7 85 yX6_copyFrom ∈ zt := zt_at 749 (by decide +kernel)
theorem zl_536 : Cond.instanceMethod yX6_copyFrom ∈ zt := zt_at 750 (by decide +kernel)
theorem zl_537 : Cond.selects RX6 yX6_copyFrom yX6_copyFrom ∈ zt := zt_at 751 (by decide +kernel)
theorem dX7_keep_0 : decode cX7_keep 0 = .ok (.iload_n 1, 1) := by decide +kernel
theorem dX7_keep_1 : decode cX7_keep 1 = .ok (.tableswitch 75 0 2 #[27, 43, 59], 27) := by decide +kernel
theorem dX7_keep_28 : decode cX7_keep 28 = .ok (.aload_n 0, 1) := by decide +kernel
theorem dX7_keep_29 : decode cX7_keep 29 = .ok (.getfield 32, 3) := by decide +kernel
theorem dX7_keep_32 : decode cX7_keep 32 = .ok (.iload_n 2, 1) := by decide +kernel
theorem dX7_keep_33 : decode cX7_keep 33 = .ok (.aaload, 1) := by decide +kernel
theorem dX7_keep_34 : decode cX7_keep 34 = .ok (.aload_n 3, 1) := by decide +kernel
theorem dX7_keep_35 : decode cX7_keep 35 = .ok (.getfield 57, 3) := by decide +kernel
theorem dX7_keep_38 : decode cX7_keep 38 = .ok (.invokevirtual 63, 3) := by decide +kernel
theorem dX7_keep_41 : decode cX7_keep 41 = .ok (.goto 48, 3) := by decide +kernel
theorem dX7_keep_44 : decode cX7_keep 44 = .ok (.aload_n 0, 1) := by decide +kernel
theorem dX7_keep_45 : decode cX7_keep 45 = .ok (.getfield 39, 3) := by decide +kernel
theorem dX7_keep_48 : decode cX7_keep 48 = .ok (.iload_n 2, 1) := by decide +kernel
theorem dX7_keep_49 : decode cX7_keep 49 = .ok (.aaload, 1) := by decide +kernel
theorem dX7_keep_50 : decode cX7_keep 50 = .ok (.aload_n 3, 1) := by decide +kernel
theorem dX7_keep_51 : decode cX7_keep 51 = .ok (.getfield 67, 3) := by decide +kernel
theorem dX7_keep_54 : decode cX7_keep 54 = .ok (.invokevirtual 71, 3) := by decide +kernel
theorem dX7_keep_57 : decode cX7_keep 57 = .ok (.goto 32, 3) := by decide +kernel
theorem dX7_keep_60 : decode cX7_keep 60 = .ok (.aload_n 0, 1) := by decide +kernel
theorem dX7_keep_61 : decode cX7_keep 61 = .ok (.getfield 46, 3) := by decide +kernel
theorem dX7_keep_64 : decode cX7_keep 64 = .ok (.iload_n 2, 1) := by decide +kernel
theorem dX7_keep_65 : decode cX7_keep 65 = .ok (.aaload, 1) := by decide +kernel
theorem dX7_keep_66 : decode cX7_keep 66 = .ok (.aload_n 3, 1) := by decide +kernel
theorem dX7_keep_67 : decode cX7_keep 67 = .ok (.getfield 74, 3) := by decide +kernel
theorem dX7_keep_70 : decode cX7_keep 70 = .ok (.invokevirtual 78, 3) := by decide +kernel
theorem dX7_keep_73 : decode cX7_keep 73 = .ok (.goto 16, 3) := by decide +kernel
theorem dX7_keep_76 : decode cX7_keep 76 = .ok (.aload_n 0, 1) := by decide +kernel
theorem dX7_keep_77 : decode cX7_keep 77 = .ok (.getfield 53, 3) := by decide +kernel
theorem dX7_keep_80 : decode cX7_keep 80 = .ok (.iload_n 2, 1) := by decide +kernel
theorem dX7_keep_81 : decode cX7_keep 81 = .ok (.aaload, 1) := by decide +kernel
theorem dX7_keep_82 : decode cX7_keep 82 = .ok (.aload_n 3, 1) := by decide +kernel
theorem dX7_keep_83 : decode cX7_keep 83 = .ok (.getfield 81, 3) := by decide +kernel
theorem dX7_keep_86 : decode cX7_keep 86 = .ok (.invokevirtual 85, 3) := by decide +kernel
theorem dX7_keep_89 : decode cX7_keep 89 = .ok (.aload_n 0, 1) := by decide +kernel
theorem dX7_keep_90 : decode cX7_keep 90 = .ok (.getfield 25, 3) := by decide +kernel
theorem dX7_keep_93 : decode cX7_keep 93 = .ok (.iload_n 1, 1) := by decide +kernel
theorem dX7_keep_94 : decode cX7_keep 94 = .ok (.aload_n 0, 1) := by decide +kernel
theorem dX7_keep_95 : decode cX7_keep 95 = .ok (.getfield 25, 3) := by decide +kernel
theorem dX7_keep_98 : decode cX7_keep 98 = .ok (.iload_n 1, 1) := by decide +kernel
theorem dX7_keep_99 : decode cX7_keep 99 = .ok (.iaload, 1) := by decide +kernel
theorem dX7_keep_100 : decode cX7_keep 100 = .ok (.iload_n 2, 1) := by decide +kernel
theorem dX7_keep_101 : decode cX7_keep 101 = .ok (.iconst 1, 1) := by decide +kernel
theorem dX7_keep_102 : decode cX7_keep 102 = .ok (.iadd, 1) := by decide +kernel
theorem dX7_keep_103 : decode cX7_keep 103 = .ok (.invokestatic 88, 3) := by decide +kernel
theorem dX7_keep_106 : decode cX7_keep 106 = .ok (.iastore, 1) := by decide +kernel
theorem dX7_keep_107 : decode cX7_keep 107 = .ok (.return_, 1) := by decide +kernel
noncomputable def fX7_keep (μ : zM) (x0 : Nat) (x1 : Int32) (x2 : Int32) (x3 : Nat) : Option (zM) := zgd (zm_ck μ 7 x0) <|
  zc1 (if x1 = 0 then (
  zb1 (zm_gR μ 7 x0 5) fun v11 =>
  zb1 (zm_aQ μ 4 v11 x2) fun v13 =>
  zb1 (zm_gR μ 4 x3 0) fun v15 =>
  zb1 v13 fun a17 =>
  zb1 (fX9_copyFrom μ a17 v15) fun m20 =>
  some m20)
  else (
  if x1 = 1 then (
  zb1 (zm_gR μ 7 x0 6) fun v22 =>
  zb1 (zm_aQ μ 5 v22 x2) fun v24 =>
  zb1 (zm_gR μ 4 x3 1) fun v26 =>
  zb1 v24 fun a28 =>
  zb1 (fX2_copyFrom μ a28 v26) fun m31 =>
  some m31)
  else (
  if x1 = 2 then (
  zb1 (zm_gR μ 7 x0 7) fun v33 =>
  zb1 (zm_aQ μ 6 v33 x2) fun v35 =>
  zb1 (zm_gR μ 4 x3 2) fun v37 =>
  zb1 v35 fun a39 =>
  zb1 (fX3_copyFrom μ a39 v37) fun m42 =>
  some m42)
  else (
  zb1 (zm_gR μ 7 x0 8) fun v44 =>
  zb1 (zm_aQ μ 7 v44 x2) fun v46 =>
  zb1 (zm_gR μ 4 x3 3) fun v48 =>
  zb1 v46 fun a50 =>
  zb1 (fX6_copyFrom μ a50 v48) fun m53 =>
  some m53))) : Option (zM)) fun (m1 : zM) =>
  zb1 (zm_gR m1 7 x0 4) fun v3 =>
  zb1 (zm_gR m1 7 x0 4) fun v5 =>
  zb1 (zm_aI m1 0 v5 x1) fun v7 =>
  zb1 (zm_sI m1 0 v3 x1 (if v7 < (x2 + 1) then (x2 + 1) else v7 : Int32)) fun m9 =>
  some m9
theorem fX7_keep_ck {μ : zM} {x0 : Nat} {x1 : Int32} {x2 : Int32} {x3 : Nat} {z : zM} (h : fX7_keep μ x0 x1 x2 x3 = some z) : zm_ck μ 7 x0 = true := (zgd_s h).1
set_option maxHeartbeats 4000000 in
set_option maxRecDepth 100000 in
theorem cX7_keep_ok {μ : zM} {x0 : Nat} {x1 : Int32} {x2 : Int32} {x3 : Nat} {mo : zM} (hf : fX7_keep μ x0 x1 x2 x3 = some mo) : zC yX7_keep cX7_keep 4 (none) 2 0 0 [.ref x0, .int x1, .int x2, .ref x3] μ (none) mo := by
  replace hf := (zgd_s hf).2
  refine zC.of (by decide) (Nat.le_of_ble_eq_true rfl) (fun K hin => ?_)
  clear hin
  show zz K cX7_keep (4, RX7, none, 2, 0, 0, none, mo) 0 0 0 [(0, .ref x0), (1, .int x1), (2, .int x2), (3, .ref x3)] [] μ
  refine zr_iload_n 1 dX7_keep_0 rfl ?_
  replace hf := zc1_s hf
  obtain ⟨m1, hg, hf⟩ := hf
  have hj2 : zz K cX7_keep (4, RX7, none, 2, 0, 0, none, mo) 0 0 89 [(0, .ref x0), (1, .int x1), (2, .int x2)] [] m1 := by
    refine zr_aload_n 0 dX7_keep_89 rfl ?_
    replace hf := zb1_s hf
    obtain ⟨v3, h4, hf⟩ := hf
    refine zr_get (zm_gR_g h4) zk7 (by decide) zl_503 dX7_keep_90 ?_
    refine zr_iload_n 1 dX7_keep_93 rfl ?_
    refine zr_aload_n 0 dX7_keep_94 rfl ?_
    replace hf := zb1_s hf
    obtain ⟨v5, h6, hf⟩ := hf
    refine zr_get (zm_gR_g h6) zk7 (by decide) zl_503 dX7_keep_95 ?_
    refine zr_iload_n 1 dX7_keep_98 rfl ?_
    replace hf := zb1_s hf
    obtain ⟨v7, h8, hf⟩ := hf
    refine zr_iald h8 dX7_keep_99 ?_
    refine zr_iload_n 2 dX7_keep_100 rfl ?_
    refine zr_iconst 1 dX7_keep_101 (by decide) ?_
    refine zr_iadd dX7_keep_102 ?_
    refine zr_mmax zl_517 zl_55 zl_11 zl_56 (Nat.le_of_ble_eq_true rfl) (Nat.le_of_ble_eq_true rfl) (Nat.le_of_ble_eq_true rfl) (Nat.le_of_ble_eq_true rfl) dX7_keep_103 ?_
    replace hf := zb1_s hf
    obtain ⟨m9, h10, hf⟩ := hf
    refine zr_iast h10 dX7_keep_106 ?_
    cases hf
    exact zr_vret dX7_keep_107
  clear hf
  have hf := hg
  clear hg
  rcases zdec (x1 = 0) with hs21 | hs21
  · rw [if_pos hs21] at hf
    refine zr_tableIn (off := 27) 28 dX7_keep_1 (by rw [hs21]; decide) (by rw [hs21]; decide) (by rw [hs21]; rfl) (by decide) ?_
    refine zr_aload_n 0 dX7_keep_28 rfl ?_
    replace hf := zb1_s hf
    obtain ⟨v11, h12, hf⟩ := hf
    refine zr_get (zm_gR_g h12) zk7 (by decide) zl_506 dX7_keep_29 ?_
    refine zr_iload_n 2 dX7_keep_32 rfl ?_
    replace hf := zb1_s hf
    obtain ⟨v13, h14, hf⟩ := hf
    refine zr_aald h14 (by decide) rfl dX7_keep_33 ?_
    refine zr_aload_n 3 dX7_keep_34 rfl ?_
    replace hf := zb1_s hf
    obtain ⟨v15, h16, hf⟩ := hf
    refine zr_get (zm_gR_g h16) zk4 (by decide) zl_518 dX7_keep_35 ?_
    replace hf := zb1_s hf
    obtain ⟨a17, h18, hf⟩ := hf
    subst h18
    replace hf := zb1_s hf
    obtain ⟨m20, h19, hf⟩ := hf
    refine zr_callV (ci := 9) [.ref v15] (cX9_copyFrom_ok h19) zvs_X9_copyFrom zl_521 zl_522 (fX9_copyFrom_ck h19) rfl rfl zl_520 rfl (Nat.le_of_ble_eq_true rfl) (Nat.le_of_ble_eq_true rfl) (Nat.le_of_ble_eq_true rfl) (Nat.le_of_ble_eq_true rfl) dX7_keep_38 rfl ?_
    refine zr_goto 89 dX7_keep_41 (by decide) ?_
    cases hf
    exact zr_lv [0, 1, 2] rfl hj2
  rw [if_neg hs21] at hf
  rcases zdec (x1 = 1) with hs32 | hs32
  · rw [if_pos hs32] at hf
    refine zr_tableIn (off := 43) 44 dX7_keep_1 (by rw [hs32]; decide) (by rw [hs32]; decide) (by rw [hs32]; rfl) (by decide) ?_
    refine zr_aload_n 0 dX7_keep_44 rfl ?_
    replace hf := zb1_s hf
    obtain ⟨v22, h23, hf⟩ := hf
    refine zr_get (zm_gR_g h23) zk7 (by decide) zl_509 dX7_keep_45 ?_
    refine zr_iload_n 2 dX7_keep_48 rfl ?_
    replace hf := zb1_s hf
    obtain ⟨v24, h25, hf⟩ := hf
    refine zr_aald h25 (by decide) rfl dX7_keep_49 ?_
    refine zr_aload_n 3 dX7_keep_50 rfl ?_
    replace hf := zb1_s hf
    obtain ⟨v26, h27, hf⟩ := hf
    refine zr_get (zm_gR_g h27) zk4 (by decide) zl_523 dX7_keep_51 ?_
    replace hf := zb1_s hf
    obtain ⟨a28, h29, hf⟩ := hf
    subst h29
    replace hf := zb1_s hf
    obtain ⟨m31, h30, hf⟩ := hf
    refine zr_callV (ci := 2) [.ref v26] (cX2_copyFrom_ok h30) zvs_X2_copyFrom zl_526 zl_527 (fX2_copyFrom_ck h30) rfl rfl zl_525 rfl (Nat.le_of_ble_eq_true rfl) (Nat.le_of_ble_eq_true rfl) (Nat.le_of_ble_eq_true rfl) (Nat.le_of_ble_eq_true rfl) dX7_keep_54 rfl ?_
    refine zr_goto 89 dX7_keep_57 (by decide) ?_
    cases hf
    exact zr_lv [0, 1, 2] rfl hj2
  rw [if_neg hs32] at hf
  rcases zdec (x1 = 2) with hs43 | hs43
  · rw [if_pos hs43] at hf
    refine zr_tableIn (off := 59) 60 dX7_keep_1 (by rw [hs43]; decide) (by rw [hs43]; decide) (by rw [hs43]; rfl) (by decide) ?_
    refine zr_aload_n 0 dX7_keep_60 rfl ?_
    replace hf := zb1_s hf
    obtain ⟨v33, h34, hf⟩ := hf
    refine zr_get (zm_gR_g h34) zk7 (by decide) zl_512 dX7_keep_61 ?_
    refine zr_iload_n 2 dX7_keep_64 rfl ?_
    replace hf := zb1_s hf
    obtain ⟨v35, h36, hf⟩ := hf
    refine zr_aald h36 (by decide) rfl dX7_keep_65 ?_
    refine zr_aload_n 3 dX7_keep_66 rfl ?_
    replace hf := zb1_s hf
    obtain ⟨v37, h38, hf⟩ := hf
    refine zr_get (zm_gR_g h38) zk4 (by decide) zl_528 dX7_keep_67 ?_
    replace hf := zb1_s hf
    obtain ⟨a39, h40, hf⟩ := hf
    subst h40
    replace hf := zb1_s hf
    obtain ⟨m42, h41, hf⟩ := hf
    refine zr_callV (ci := 3) [.ref v37] (cX3_copyFrom_ok h41) zvs_X3_copyFrom zl_531 zl_532 (fX3_copyFrom_ck h41) rfl rfl zl_530 rfl (Nat.le_of_ble_eq_true rfl) (Nat.le_of_ble_eq_true rfl) (Nat.le_of_ble_eq_true rfl) (Nat.le_of_ble_eq_true rfl) dX7_keep_70 rfl ?_
    refine zr_goto 89 dX7_keep_73 (by decide) ?_
    cases hf
    exact zr_lv [0, 1, 2] rfl hj2
  rw [if_neg hs43] at hf
  refine zr_tableOut 76 dX7_keep_1 (by simp only [← Int32.toInt_inj] at hs21 hs32 hs43; simp at hs21 hs32 hs43; omega) (by decide) ?_
  refine zr_aload_n 0 dX7_keep_76 rfl ?_
  replace hf := zb1_s hf
  obtain ⟨v44, h45, hf⟩ := hf
  refine zr_get (zm_gR_g h45) zk7 (by decide) zl_515 dX7_keep_77 ?_
  refine zr_iload_n 2 dX7_keep_80 rfl ?_
  replace hf := zb1_s hf
  obtain ⟨v46, h47, hf⟩ := hf
  refine zr_aald h47 (by decide) rfl dX7_keep_81 ?_
  refine zr_aload_n 3 dX7_keep_82 rfl ?_
  replace hf := zb1_s hf
  obtain ⟨v48, h49, hf⟩ := hf
  refine zr_get (zm_gR_g h49) zk4 (by decide) zl_533 dX7_keep_83 ?_
  replace hf := zb1_s hf
  obtain ⟨a50, h51, hf⟩ := hf
  subst h51
  replace hf := zb1_s hf
  obtain ⟨m53, h52, hf⟩ := hf
  refine zr_callV (ci := 6) [.ref v48] (cX6_copyFrom_ok h52) zvs_X6_copyFrom zl_536 zl_537 (fX6_copyFrom_ck h52) rfl rfl zl_535 rfl (Nat.le_of_ble_eq_true rfl) (Nat.le_of_ble_eq_true rfl) (Nat.le_of_ble_eq_true rfl) (Nat.le_of_ble_eq_true rfl) dX7_keep_86 rfl ?_
  cases hf
  exact zr_lv [0, 1, 2] rfl hj2
theorem zl_538 : Cond.methodLink RX7 94 arraycopyName ∈ zt := zt_at 1330 (by decide +kernel)
theorem dX7_copyFrom_0 : decode cX7_copyFrom 0 = .ok (.aload_n 1, 1) := by decide +kernel
theorem dX7_copyFrom_1 : decode cX7_copyFrom 1 = .ok (.getfield 9, 3) := by decide +kernel
theorem dX7_copyFrom_4 : decode cX7_copyFrom 4 = .ok (.iconst 0, 1) := by decide +kernel
theorem dX7_copyFrom_5 : decode cX7_copyFrom 5 = .ok (.aload_n 0, 1) := by decide +kernel
theorem dX7_copyFrom_6 : decode cX7_copyFrom 6 = .ok (.getfield 9, 3) := by decide +kernel
theorem dX7_copyFrom_9 : decode cX7_copyFrom 9 = .ok (.iconst 0, 1) := by decide +kernel
theorem dX7_copyFrom_10 : decode cX7_copyFrom 10 = .ok (.sipush 600, 3) := by decide +kernel
theorem dX7_copyFrom_13 : decode cX7_copyFrom 13 = .ok (.invokestatic 94, 3) := by decide +kernel
theorem dX7_copyFrom_16 : decode cX7_copyFrom 16 = .ok (.aload_n 0, 1) := by decide +kernel
theorem dX7_copyFrom_17 : decode cX7_copyFrom 17 = .ok (.aload_n 1, 1) := by decide +kernel
theorem dX7_copyFrom_18 : decode cX7_copyFrom 18 = .ok (.getfield 15, 3) := by decide +kernel
theorem dX7_copyFrom_21 : decode cX7_copyFrom 21 = .ok (.putfield 15, 3) := by decide +kernel
theorem dX7_copyFrom_24 : decode cX7_copyFrom 24 = .ok (.aload_n 0, 1) := by decide +kernel
theorem dX7_copyFrom_25 : decode cX7_copyFrom 25 = .ok (.aload_n 1, 1) := by decide +kernel
theorem dX7_copyFrom_26 : decode cX7_copyFrom 26 = .ok (.getfield 19, 3) := by decide +kernel
theorem dX7_copyFrom_29 : decode cX7_copyFrom 29 = .ok (.putfield 19, 3) := by decide +kernel
theorem dX7_copyFrom_32 : decode cX7_copyFrom 32 = .ok (.aload_n 0, 1) := by decide +kernel
theorem dX7_copyFrom_33 : decode cX7_copyFrom 33 = .ok (.aload_n 1, 1) := by decide +kernel
theorem dX7_copyFrom_34 : decode cX7_copyFrom 34 = .ok (.getfield 22, 3) := by decide +kernel
theorem dX7_copyFrom_37 : decode cX7_copyFrom 37 = .ok (.putfield 22, 3) := by decide +kernel
theorem dX7_copyFrom_40 : decode cX7_copyFrom 40 = .ok (.aload_n 1, 1) := by decide +kernel
theorem dX7_copyFrom_41 : decode cX7_copyFrom 41 = .ok (.getfield 25, 3) := by decide +kernel
theorem dX7_copyFrom_44 : decode cX7_copyFrom 44 = .ok (.iconst 0, 1) := by decide +kernel
theorem dX7_copyFrom_45 : decode cX7_copyFrom 45 = .ok (.aload_n 0, 1) := by decide +kernel
theorem dX7_copyFrom_46 : decode cX7_copyFrom 46 = .ok (.getfield 25, 3) := by decide +kernel
theorem dX7_copyFrom_49 : decode cX7_copyFrom 49 = .ok (.iconst 0, 1) := by decide +kernel
theorem dX7_copyFrom_50 : decode cX7_copyFrom 50 = .ok (.iconst 4, 1) := by decide +kernel
theorem dX7_copyFrom_51 : decode cX7_copyFrom 51 = .ok (.invokestatic 94, 3) := by decide +kernel
theorem dX7_copyFrom_54 : decode cX7_copyFrom 54 = .ok (.iconst 0, 1) := by decide +kernel
theorem dX7_copyFrom_55 : decode cX7_copyFrom 55 = .ok (.istore_n 2, 1) := by decide +kernel
theorem dX7_copyFrom_56 : decode cX7_copyFrom 56 = .ok (.iload_n 2, 1) := by decide +kernel
theorem dX7_copyFrom_57 : decode cX7_copyFrom 57 = .ok (.iconst 2, 1) := by decide +kernel
theorem dX7_copyFrom_58 : decode cX7_copyFrom 58 = .ok (.if_icmp .ge 69, 3) := by decide +kernel
theorem dX7_copyFrom_61 : decode cX7_copyFrom 61 = .ok (.aload_n 0, 1) := by decide +kernel
theorem dX7_copyFrom_62 : decode cX7_copyFrom 62 = .ok (.getfield 32, 3) := by decide +kernel
theorem dX7_copyFrom_65 : decode cX7_copyFrom 65 = .ok (.iload_n 2, 1) := by decide +kernel
theorem dX7_copyFrom_66 : decode cX7_copyFrom 66 = .ok (.aaload, 1) := by decide +kernel
theorem dX7_copyFrom_67 : decode cX7_copyFrom 67 = .ok (.aload_n 1, 1) := by decide +kernel
theorem dX7_copyFrom_68 : decode cX7_copyFrom 68 = .ok (.getfield 32, 3) := by decide +kernel
theorem dX7_copyFrom_71 : decode cX7_copyFrom 71 = .ok (.iload_n 2, 1) := by decide +kernel
theorem dX7_copyFrom_72 : decode cX7_copyFrom 72 = .ok (.aaload, 1) := by decide +kernel
theorem dX7_copyFrom_73 : decode cX7_copyFrom 73 = .ok (.invokevirtual 63, 3) := by decide +kernel
theorem dX7_copyFrom_76 : decode cX7_copyFrom 76 = .ok (.aload_n 0, 1) := by decide +kernel
theorem dX7_copyFrom_77 : decode cX7_copyFrom 77 = .ok (.getfield 39, 3) := by decide +kernel
theorem dX7_copyFrom_80 : decode cX7_copyFrom 80 = .ok (.iload_n 2, 1) := by decide +kernel
theorem dX7_copyFrom_81 : decode cX7_copyFrom 81 = .ok (.aaload, 1) := by decide +kernel
theorem dX7_copyFrom_82 : decode cX7_copyFrom 82 = .ok (.aload_n 1, 1) := by decide +kernel
theorem dX7_copyFrom_83 : decode cX7_copyFrom 83 = .ok (.getfield 39, 3) := by decide +kernel
theorem dX7_copyFrom_86 : decode cX7_copyFrom 86 = .ok (.iload_n 2, 1) := by decide +kernel
theorem dX7_copyFrom_87 : decode cX7_copyFrom 87 = .ok (.aaload, 1) := by decide +kernel
theorem dX7_copyFrom_88 : decode cX7_copyFrom 88 = .ok (.invokevirtual 71, 3) := by decide +kernel
theorem dX7_copyFrom_91 : decode cX7_copyFrom 91 = .ok (.aload_n 0, 1) := by decide +kernel
theorem dX7_copyFrom_92 : decode cX7_copyFrom 92 = .ok (.getfield 46, 3) := by decide +kernel
theorem dX7_copyFrom_95 : decode cX7_copyFrom 95 = .ok (.iload_n 2, 1) := by decide +kernel
theorem dX7_copyFrom_96 : decode cX7_copyFrom 96 = .ok (.aaload, 1) := by decide +kernel
theorem dX7_copyFrom_97 : decode cX7_copyFrom 97 = .ok (.aload_n 1, 1) := by decide +kernel
theorem dX7_copyFrom_98 : decode cX7_copyFrom 98 = .ok (.getfield 46, 3) := by decide +kernel
theorem dX7_copyFrom_101 : decode cX7_copyFrom 101 = .ok (.iload_n 2, 1) := by decide +kernel
theorem dX7_copyFrom_102 : decode cX7_copyFrom 102 = .ok (.aaload, 1) := by decide +kernel
theorem dX7_copyFrom_103 : decode cX7_copyFrom 103 = .ok (.invokevirtual 78, 3) := by decide +kernel
theorem dX7_copyFrom_106 : decode cX7_copyFrom 106 = .ok (.aload_n 0, 1) := by decide +kernel
theorem dX7_copyFrom_107 : decode cX7_copyFrom 107 = .ok (.getfield 53, 3) := by decide +kernel
theorem dX7_copyFrom_110 : decode cX7_copyFrom 110 = .ok (.iload_n 2, 1) := by decide +kernel
theorem dX7_copyFrom_111 : decode cX7_copyFrom 111 = .ok (.aaload, 1) := by decide +kernel
theorem dX7_copyFrom_112 : decode cX7_copyFrom 112 = .ok (.aload_n 1, 1) := by decide +kernel
theorem dX7_copyFrom_113 : decode cX7_copyFrom 113 = .ok (.getfield 53, 3) := by decide +kernel
theorem dX7_copyFrom_116 : decode cX7_copyFrom 116 = .ok (.iload_n 2, 1) := by decide +kernel
theorem dX7_copyFrom_117 : decode cX7_copyFrom 117 = .ok (.aaload, 1) := by decide +kernel
theorem dX7_copyFrom_118 : decode cX7_copyFrom 118 = .ok (.invokevirtual 85, 3) := by decide +kernel
theorem dX7_copyFrom_121 : decode cX7_copyFrom 121 = .ok (.iinc 2 1, 3) := by decide +kernel
theorem dX7_copyFrom_124 : decode cX7_copyFrom 124 = .ok (.goto (-68), 3) := by decide +kernel
theorem dX7_copyFrom_127 : decode cX7_copyFrom 127 = .ok (.return_, 1) := by decide +kernel
noncomputable def fX7_copyFrom_l56 (x0 : Nat) (x1 : Nat) (F27 : Int32 → zM → Option (zM)) (x2_25 : Int32) (m26 : zM) : Option (zM) :=
  if 2 ≤ x2_25 then (
  some m26)
  else (
  zb1 (zm_gR m26 7 x0 5) fun v31 =>
  zb1 (zm_aQ m26 4 v31 x2_25) fun v33 =>
  zb1 (zm_gR m26 7 x1 5) fun v35 =>
  zb1 (zm_aQ m26 4 v35 x2_25) fun v37 =>
  zb1 v37 fun a39 =>
  zb1 v33 fun a41 =>
  zb1 (fX9_copyFrom m26 a41 a39) fun m44 =>
  zb1 (zm_gR m44 7 x0 6) fun v45 =>
  zb1 (zm_aQ m44 5 v45 x2_25) fun v47 =>
  zb1 (zm_gR m44 7 x1 6) fun v49 =>
  zb1 (zm_aQ m44 5 v49 x2_25) fun v51 =>
  zb1 v51 fun a53 =>
  zb1 v47 fun a55 =>
  zb1 (fX2_copyFrom m44 a55 a53) fun m58 =>
  zb1 (zm_gR m58 7 x0 7) fun v59 =>
  zb1 (zm_aQ m58 6 v59 x2_25) fun v61 =>
  zb1 (zm_gR m58 7 x1 7) fun v63 =>
  zb1 (zm_aQ m58 6 v63 x2_25) fun v65 =>
  zb1 v65 fun a67 =>
  zb1 v61 fun a69 =>
  zb1 (fX3_copyFrom m58 a69 a67) fun m72 =>
  zb1 (zm_gR m72 7 x0 8) fun v73 =>
  zb1 (zm_aQ m72 7 v73 x2_25) fun v75 =>
  zb1 (zm_gR m72 7 x1 8) fun v77 =>
  zb1 (zm_aQ m72 7 v77 x2_25) fun v79 =>
  zb1 v79 fun a81 =>
  zb1 v75 fun a83 =>
  zb1 (fX6_copyFrom m72 a83 a81) fun m86 =>
  F27 (x2_25 + 1) m86)
noncomputable def fX7_copyFrom (μ : zM) (x0 : Nat) (x1 : Nat) : Option (zM) := zgd (zm_ck μ 7 x0) <|
  zb1 (zm_gR μ 7 x1 0) fun v1 =>
  zb1 (zm_gR μ 7 x0 0) fun v3 =>
  zb1 (zm_cpy μ 1 v1 0 v3 0 600) fun m5 =>
  zb1 (zm_gI m5 7 x1 1) fun v7 =>
  zb1 (zm_p m5 7 x0 1 (.int v7)) fun m9 =>
  zb1 (zm_gI m9 7 x1 2) fun v11 =>
  zb1 (zm_p m9 7 x0 2 (.int v11)) fun m13 =>
  zb1 (zm_gI m13 7 x1 3) fun v15 =>
  zb1 (zm_p m13 7 x0 3 (.int v15)) fun m17 =>
  zb1 (zm_gR m17 7 x1 4) fun v19 =>
  zb1 (zm_gR m17 7 x0 4) fun v21 =>
  zb1 (zm_cpy m17 0 v19 0 v21 0 4) fun m23 =>
  zb1 (zf2 (fX7_copyFrom_l56 x0 x1) zfu 0 m23 : Option (zM)) fun (m29 : zM) =>
  some m29
theorem fX7_copyFrom_ck {μ : zM} {x0 : Nat} {x1 : Nat} {z : zM} (h : fX7_copyFrom μ x0 x1 = some z) : zm_ck μ 7 x0 = true := (zgd_s h).1
set_option maxHeartbeats 4000000 in
set_option maxRecDepth 100000 in
theorem cX7_copyFrom_ok {μ : zM} {x0 : Nat} {x1 : Nat} {mo : zM} (hf : fX7_copyFrom μ x0 x1 = some mo) : zC yX7_copyFrom cX7_copyFrom 3 (none) 2 0 0 [.ref x0, .ref x1] μ (none) mo := by
  replace hf := (zgd_s hf).2
  refine zC.of (by decide) (Nat.le_of_ble_eq_true rfl) (fun K hin => ?_)
  clear hin
  show zz K cX7_copyFrom (3, RX7, none, 2, 0, 0, none, mo) 0 0 0 [(0, .ref x0), (1, .ref x1)] [] μ
  refine zr_aload_n 1 dX7_copyFrom_0 rfl ?_
  replace hf := zb1_s hf
  obtain ⟨v1, h2, hf⟩ := hf
  refine zr_get (zm_gR_g h2) zk7 (by decide) zl_499 dX7_copyFrom_1 ?_
  refine zr_iconst 0 dX7_copyFrom_4 (by decide) ?_
  refine zr_aload_n 0 dX7_copyFrom_5 rfl ?_
  replace hf := zb1_s hf
  obtain ⟨v3, h4, hf⟩ := hf
  refine zr_get (zm_gR_g h4) zk7 (by decide) zl_499 dX7_copyFrom_6 ?_
  refine zr_iconst 0 dX7_copyFrom_9 (by decide) ?_
  refine zr_sipush 600 dX7_copyFrom_10 (by decide) ?_
  replace hf := zb1_s hf
  obtain ⟨m5, h6, hf⟩ := hf
  refine zr_cpy h6 (by decide) zl_538 zl_99 zl_100 zl_101 (Nat.le_of_ble_eq_true rfl) (Nat.le_of_ble_eq_true rfl) dX7_copyFrom_13 ?_
  refine zr_aload_n 0 dX7_copyFrom_16 rfl ?_
  refine zr_aload_n 1 dX7_copyFrom_17 rfl ?_
  replace hf := zb1_s hf
  obtain ⟨v7, h8, hf⟩ := hf
  refine zr_get (zm_gI_g h8) zk7 (by decide) zl_500 dX7_copyFrom_18 ?_
  replace hf := zb1_s hf
  obtain ⟨m9, h10, hf⟩ := hf
  refine zr_put h10 zk7 (by decide) zl_500 rfl rfl rfl dX7_copyFrom_21 ?_
  refine zr_aload_n 0 dX7_copyFrom_24 rfl ?_
  refine zr_aload_n 1 dX7_copyFrom_25 rfl ?_
  replace hf := zb1_s hf
  obtain ⟨v11, h12, hf⟩ := hf
  refine zr_get (zm_gI_g h12) zk7 (by decide) zl_501 dX7_copyFrom_26 ?_
  replace hf := zb1_s hf
  obtain ⟨m13, h14, hf⟩ := hf
  refine zr_put h14 zk7 (by decide) zl_501 rfl rfl rfl dX7_copyFrom_29 ?_
  refine zr_aload_n 0 dX7_copyFrom_32 rfl ?_
  refine zr_aload_n 1 dX7_copyFrom_33 rfl ?_
  replace hf := zb1_s hf
  obtain ⟨v15, h16, hf⟩ := hf
  refine zr_get (zm_gI_g h16) zk7 (by decide) zl_502 dX7_copyFrom_34 ?_
  replace hf := zb1_s hf
  obtain ⟨m17, h18, hf⟩ := hf
  refine zr_put h18 zk7 (by decide) zl_502 rfl rfl rfl dX7_copyFrom_37 ?_
  refine zr_aload_n 1 dX7_copyFrom_40 rfl ?_
  replace hf := zb1_s hf
  obtain ⟨v19, h20, hf⟩ := hf
  refine zr_get (zm_gR_g h20) zk7 (by decide) zl_503 dX7_copyFrom_41 ?_
  refine zr_iconst 0 dX7_copyFrom_44 (by decide) ?_
  refine zr_aload_n 0 dX7_copyFrom_45 rfl ?_
  replace hf := zb1_s hf
  obtain ⟨v21, h22, hf⟩ := hf
  refine zr_get (zm_gR_g h22) zk7 (by decide) zl_503 dX7_copyFrom_46 ?_
  refine zr_iconst 0 dX7_copyFrom_49 (by decide) ?_
  refine zr_iconst 4 dX7_copyFrom_50 (by decide) ?_
  replace hf := zb1_s hf
  obtain ⟨m23, h24, hf⟩ := hf
  refine zr_cpy h24 (by decide) zl_538 zl_99 zl_100 zl_101 (Nat.le_of_ble_eq_true rfl) (Nat.le_of_ble_eq_true rfl) dX7_copyFrom_51 ?_
  refine zr_iconst 0 dX7_copyFrom_54 (by decide) ?_
  refine zr_istore_n [(2, .int 0), (0, .ref x0), (1, .ref x1)] dX7_copyFrom_55 (Nat.le_of_ble_eq_true rfl) rfl ?_
  replace hf := zb1_s hf
  obtain ⟨m29, hg, hf⟩ := hf
  have hj30 : zz K cX7_copyFrom (3, RX7, none, 2, 0, 0, none, mo) 0 0 127 [] [] m29 := by
    cases hf
    exact zr_vret dX7_copyFrom_127
  clear hf
  have hf := hg
  clear hg
  have hL87 : ∀ (n : Nat) (x2_25 : Int32) (m26 : zM), zf2 (fX7_copyFrom_l56 x0 x1) n x2_25 m26 = some m29 → zz K cX7_copyFrom (3, RX7, none, 2, 0, 0, none, mo) 0 0 56 [(0, .ref x0), (1, .ref x1), (2, .int x2_25)] [] m26 := by
    intro n
    induction n with
    | zero => intro x2_25 m26 hf; cases hf
    | succ n ih28 =>
      intro x2_25 m26 hf
      replace hf := zf2_s hf
      generalize zf2 (fX7_copyFrom_l56 x0 x1) n = F27 at hf ih28
      unfold fX7_copyFrom_l56 at hf
      refine zr_iload_n 2 dX7_copyFrom_56 rfl ?_
      refine zr_iconst 2 dX7_copyFrom_57 (by decide) ?_
      refine zr_icmp_ge 127 dX7_copyFrom_58 (by decide) (fun hc => ?_) (fun hc => ?_)
      · rw [if_pos hc] at hf
        cases hf
        exact zr_lv [] rfl hj30
      · rw [if_neg hc] at hf
        refine zr_aload_n 0 dX7_copyFrom_61 rfl ?_
        replace hf := zb1_s hf
        obtain ⟨v31, h32, hf⟩ := hf
        refine zr_get (zm_gR_g h32) zk7 (by decide) zl_506 dX7_copyFrom_62 ?_
        refine zr_iload_n 2 dX7_copyFrom_65 rfl ?_
        replace hf := zb1_s hf
        obtain ⟨v33, h34, hf⟩ := hf
        refine zr_aald h34 (by decide) rfl dX7_copyFrom_66 ?_
        refine zr_aload_n 1 dX7_copyFrom_67 rfl ?_
        replace hf := zb1_s hf
        obtain ⟨v35, h36, hf⟩ := hf
        refine zr_get (zm_gR_g h36) zk7 (by decide) zl_506 dX7_copyFrom_68 ?_
        refine zr_iload_n 2 dX7_copyFrom_71 rfl ?_
        replace hf := zb1_s hf
        obtain ⟨v37, h38, hf⟩ := hf
        refine zr_aald h38 (by decide) rfl dX7_copyFrom_72 ?_
        replace hf := zb1_s hf
        obtain ⟨a39, h40, hf⟩ := hf
        subst h40
        replace hf := zb1_s hf
        obtain ⟨a41, h42, hf⟩ := hf
        subst h42
        replace hf := zb1_s hf
        obtain ⟨m44, h43, hf⟩ := hf
        refine zr_callV (ci := 9) [.ref a39] (cX9_copyFrom_ok h43) zvs_X9_copyFrom zl_521 zl_522 (fX9_copyFrom_ck h43) rfl rfl zl_520 rfl (Nat.le_of_ble_eq_true rfl) (Nat.le_of_ble_eq_true rfl) (Nat.le_of_ble_eq_true rfl) (Nat.le_of_ble_eq_true rfl) dX7_copyFrom_73 rfl ?_
        refine zr_aload_n 0 dX7_copyFrom_76 rfl ?_
        replace hf := zb1_s hf
        obtain ⟨v45, h46, hf⟩ := hf
        refine zr_get (zm_gR_g h46) zk7 (by decide) zl_509 dX7_copyFrom_77 ?_
        refine zr_iload_n 2 dX7_copyFrom_80 rfl ?_
        replace hf := zb1_s hf
        obtain ⟨v47, h48, hf⟩ := hf
        refine zr_aald h48 (by decide) rfl dX7_copyFrom_81 ?_
        refine zr_aload_n 1 dX7_copyFrom_82 rfl ?_
        replace hf := zb1_s hf
        obtain ⟨v49, h50, hf⟩ := hf
        refine zr_get (zm_gR_g h50) zk7 (by decide) zl_509 dX7_copyFrom_83 ?_
        refine zr_iload_n 2 dX7_copyFrom_86 rfl ?_
        replace hf := zb1_s hf
        obtain ⟨v51, h52, hf⟩ := hf
        refine zr_aald h52 (by decide) rfl dX7_copyFrom_87 ?_
        replace hf := zb1_s hf
        obtain ⟨a53, h54, hf⟩ := hf
        subst h54
        replace hf := zb1_s hf
        obtain ⟨a55, h56, hf⟩ := hf
        subst h56
        replace hf := zb1_s hf
        obtain ⟨m58, h57, hf⟩ := hf
        refine zr_callV (ci := 2) [.ref a53] (cX2_copyFrom_ok h57) zvs_X2_copyFrom zl_526 zl_527 (fX2_copyFrom_ck h57) rfl rfl zl_525 rfl (Nat.le_of_ble_eq_true rfl) (Nat.le_of_ble_eq_true rfl) (Nat.le_of_ble_eq_true rfl) (Nat.le_of_ble_eq_true rfl) dX7_copyFrom_88 rfl ?_
        refine zr_aload_n 0 dX7_copyFrom_91 rfl ?_
        replace hf := zb1_s hf
        obtain ⟨v59, h60, hf⟩ := hf
        refine zr_get (zm_gR_g h60) zk7 (by decide) zl_512 dX7_copyFrom_92 ?_
        refine zr_iload_n 2 dX7_copyFrom_95 rfl ?_
        replace hf := zb1_s hf
        obtain ⟨v61, h62, hf⟩ := hf
        refine zr_aald h62 (by decide) rfl dX7_copyFrom_96 ?_
        refine zr_aload_n 1 dX7_copyFrom_97 rfl ?_
        replace hf := zb1_s hf
        obtain ⟨v63, h64, hf⟩ := hf
        refine zr_get (zm_gR_g h64) zk7 (by decide) zl_512 dX7_copyFrom_98 ?_
        refine zr_iload_n 2 dX7_copyFrom_101 rfl ?_
        replace hf := zb1_s hf
        obtain ⟨v65, h66, hf⟩ := hf
        refine zr_aald h66 (by decide) rfl dX7_copyFrom_102 ?_
        replace hf := zb1_s hf
        obtain ⟨a67, h68, hf⟩ := hf
        subst h68
        replace hf := zb1_s hf
        obtain ⟨a69, h70, hf⟩ := hf
        subst h70
        replace hf := zb1_s hf
        obtain ⟨m72, h71, hf⟩ := hf
        refine zr_callV (ci := 3) [.ref a67] (cX3_copyFrom_ok h71) zvs_X3_copyFrom zl_531 zl_532 (fX3_copyFrom_ck h71) rfl rfl zl_530 rfl (Nat.le_of_ble_eq_true rfl) (Nat.le_of_ble_eq_true rfl) (Nat.le_of_ble_eq_true rfl) (Nat.le_of_ble_eq_true rfl) dX7_copyFrom_103 rfl ?_
        refine zr_aload_n 0 dX7_copyFrom_106 rfl ?_
        replace hf := zb1_s hf
        obtain ⟨v73, h74, hf⟩ := hf
        refine zr_get (zm_gR_g h74) zk7 (by decide) zl_515 dX7_copyFrom_107 ?_
        refine zr_iload_n 2 dX7_copyFrom_110 rfl ?_
        replace hf := zb1_s hf
        obtain ⟨v75, h76, hf⟩ := hf
        refine zr_aald h76 (by decide) rfl dX7_copyFrom_111 ?_
        refine zr_aload_n 1 dX7_copyFrom_112 rfl ?_
        replace hf := zb1_s hf
        obtain ⟨v77, h78, hf⟩ := hf
        refine zr_get (zm_gR_g h78) zk7 (by decide) zl_515 dX7_copyFrom_113 ?_
        refine zr_iload_n 2 dX7_copyFrom_116 rfl ?_
        replace hf := zb1_s hf
        obtain ⟨v79, h80, hf⟩ := hf
        refine zr_aald h80 (by decide) rfl dX7_copyFrom_117 ?_
        replace hf := zb1_s hf
        obtain ⟨a81, h82, hf⟩ := hf
        subst h82
        replace hf := zb1_s hf
        obtain ⟨a83, h84, hf⟩ := hf
        subst h84
        replace hf := zb1_s hf
        obtain ⟨m86, h85, hf⟩ := hf
        refine zr_callV (ci := 6) [.ref a81] (cX6_copyFrom_ok h85) zvs_X6_copyFrom zl_536 zl_537 (fX6_copyFrom_ck h85) rfl rfl zl_535 rfl (Nat.le_of_ble_eq_true rfl) (Nat.le_of_ble_eq_true rfl) (Nat.le_of_ble_eq_true rfl) (Nat.le_of_ble_eq_true rfl) dX7_copyFrom_118 rfl ?_
        refine zr_iinc (j := 2) (x2_25 + 1) [(2, .int (x2_25 + 1)), (0, .ref x0), (1, .ref x1)] dX7_copyFrom_121 rfl rfl (Nat.le_of_ble_eq_true rfl) rfl ?_
        refine zr_goto 56 dX7_copyFrom_124 (by decide) ?_
        exact zr_lv [1, 2, 0] rfl (ih28 (x2_25 + 1) m86 hf)
  exact zr_lv [1, 2, 0] rfl (hL87 _ 0 m23 hf)
theorem zl_539 : Cond.methodLink RX8 3 Lib.objectInit ∈ zt := zt_at 459 (by decide +kernel)
theorem zl_540 : Cond.fieldLink RX8 9 "TwoEchoes$Trade" "bestOfSeller" "[I" ∈ zt := zt_at 460 (by decide +kernel)
theorem zl_541 : Cond.fieldLink RX8 15 "TwoEchoes$Trade" "bestOfBuyer" "[I" ∈ zt := zt_at 461 (by decide +kernel)
theorem dX8_init_0 : decode cX8_init 0 = .ok (.aload_n 0, 1) := by decide +kernel
theorem dX8_init_1 : decode cX8_init 1 = .ok (.invokespecial 3, 3) := by decide +kernel
theorem dX8_init_4 : decode cX8_init 4 = .ok (.aload_n 0, 1) := by decide +kernel
theorem dX8_init_5 : decode cX8_init 5 = .ok (.bipush 100, 2) := by decide +kernel
theorem dX8_init_7 : decode cX8_init 7 = .ok (.newarray .int, 2) := by decide +kernel
theorem dX8_init_9 : decode cX8_init 9 = .ok (.putfield 9, 3) := by decide +kernel
theorem dX8_init_12 : decode cX8_init 12 = .ok (.aload_n 0, 1) := by decide +kernel
theorem dX8_init_13 : decode cX8_init 13 = .ok (.bipush 100, 2) := by decide +kernel
theorem dX8_init_15 : decode cX8_init 15 = .ok (.newarray .int, 2) := by decide +kernel
theorem dX8_init_17 : decode cX8_init 17 = .ok (.putfield 15, 3) := by decide +kernel
theorem dX8_init_20 : decode cX8_init 20 = .ok (.return_, 1) := by decide +kernel
noncomputable def fX8_init (μ : zM) (x0 : Nat) : Option (zM) :=
  zb1 (some (zm_nw μ (.inl (0, 100, .inl (fun _ => 0))))) fun m1 =>
  zb1 (zm_p m1 8 x0 0 (.ref μ.2.1)) fun m3 =>
  zb1 (some (zm_nw m3 (.inl (0, 100, .inl (fun _ => 0))))) fun m5 =>
  zb1 (zm_p m5 8 x0 1 (.ref m3.2.1)) fun m7 =>
  some m7
set_option maxHeartbeats 4000000 in
set_option maxRecDepth 100000 in
theorem cX8_init_ok {μ : zM} {x0 : Nat} {mo : zM} (hf : fX8_init μ x0 = some mo) : zC yX8_init cX8_init 1 (none) 1 2 200 [.ref x0] μ (none) mo := by
  unfold fX8_init at hf
  refine zC.of (by decide) (Nat.le_of_ble_eq_true rfl) (fun K hin => ?_)
  replace hin := hin rfl
  show zz K cX8_init (1, RX8, none, 1, 2, 200, none, mo) 0 0 0 [(0, .ref x0)] [] μ
  refine zr_aload_n 0 dX8_init_0 rfl ?_
  refine zr_objInit zl_539 zl_1 zl_2 (Nat.le_of_ble_eq_true rfl) (Nat.le_of_ble_eq_true rfl) dX8_init_1 ?_
  refine zr_aload_n 0 dX8_init_4 rfl ?_
  refine zr_bipush 100 dX8_init_5 (by decide) ?_
  refine zr_newa (t := 0) (N := 100) (atype := .int) (by decide) rfl zl_3 (by decide) (by decide) (by decide) (Nat.le_of_ble_eq_true rfl) (Nat.le_of_ble_eq_true rfl) dX8_init_7 ?_
  replace hf := zb1_s hf
  obtain ⟨m1, h2, hf⟩ := hf
  obtain rfl := Option.some.inj h2
  replace hf := zb1_s hf
  obtain ⟨m3, h4, hf⟩ := hf
  refine zr_putF h4 hin rfl zk8 (by decide) zl_540 rfl rfl rfl dX8_init_9 ?_
  refine zr_aload_n 0 dX8_init_12 rfl ?_
  refine zr_bipush 100 dX8_init_13 (by decide) ?_
  refine zr_newa (t := 0) (N := 100) (atype := .int) (by decide) rfl zl_3 (by decide) (by decide) (by decide) (Nat.le_of_ble_eq_true rfl) (Nat.le_of_ble_eq_true rfl) dX8_init_15 ?_
  replace hf := zb1_s hf
  obtain ⟨m5, h6, hf⟩ := hf
  obtain rfl := Option.some.inj h6
  replace hf := zb1_s hf
  obtain ⟨m7, h8, hf⟩ := hf
  refine zr_putF h8 hin rfl zk8 (by decide) zl_541 rfl rfl rfl dX8_init_17 ?_
  cases hf
  exact zr_vret dX8_init_20
theorem zl_542 : Cond.methodLink RX9 64 yX9_hasPerson ∈ zt := zt_at 778 (by decide +kernel)
theorem dX9_isOfKind_0 : decode cX9_isOfKind 0 = .ok (.aload_n 0, 1) := by decide +kernel
theorem dX9_isOfKind_1 : decode cX9_isOfKind 1 = .ok (.iload_n 1, 1) := by decide +kernel
theorem dX9_isOfKind_2 : decode cX9_isOfKind 2 = .ok (.invokevirtual 64, 3) := by decide +kernel
theorem dX9_isOfKind_5 : decode cX9_isOfKind 5 = .ok (.ifCond .eq 17, 3) := by decide +kernel
theorem dX9_isOfKind_8 : decode cX9_isOfKind 8 = .ok (.aload_n 0, 1) := by decide +kernel
theorem dX9_isOfKind_9 : decode cX9_isOfKind 9 = .ok (.getfield 21, 3) := by decide +kernel
theorem dX9_isOfKind_12 : decode cX9_isOfKind 12 = .ok (.iload_n 1, 1) := by decide +kernel
theorem dX9_isOfKind_13 : decode cX9_isOfKind 13 = .ok (.iaload, 1) := by decide +kernel
theorem dX9_isOfKind_14 : decode cX9_isOfKind 14 = .ok (.iload_n 2, 1) := by decide +kernel
theorem dX9_isOfKind_15 : decode cX9_isOfKind 15 = .ok (.if_icmp .ne 7, 3) := by decide +kernel
theorem dX9_isOfKind_18 : decode cX9_isOfKind 18 = .ok (.iconst 1, 1) := by decide +kernel
theorem dX9_isOfKind_19 : decode cX9_isOfKind 19 = .ok (.goto 4, 3) := by decide +kernel
theorem dX9_isOfKind_22 : decode cX9_isOfKind 22 = .ok (.iconst 0, 1) := by decide +kernel
theorem dX9_isOfKind_23 : decode cX9_isOfKind 23 = .ok (.ireturn, 1) := by decide +kernel
noncomputable def fX9_isOfKind (μ : zM) (x0 : Nat) (x1 : Int32) (x2 : Int32) : Option (Int32) := zgd (zm_ck μ 9 x0) <|
  zb1 (fX9_hasPerson μ x0 x1) fun v2 =>
  zb1 (if v2 = 0 then (
  some 0)
  else (
  zb1 (zm_gR μ 9 x0 5) fun v7 =>
  zb1 (zm_aI μ 0 v7 x1) fun v9 =>
  if v9 = x2 then (
  some 1)
  else (
  some 0)) : Option (Int32)) fun (s3 : Int32) =>
  zb1 (zbz s3) fun v5 =>
  some v5
theorem fX9_isOfKind_ck {μ : zM} {x0 : Nat} {x1 : Int32} {x2 : Int32} {z : Int32} (h : fX9_isOfKind μ x0 x1 x2 = some z) : zm_ck μ 9 x0 = true := (zgd_s h).1
set_option maxHeartbeats 4000000 in
set_option maxRecDepth 100000 in
theorem cX9_isOfKind_ok {μ : zM} {x0 : Nat} {x1 : Int32} {x2 : Int32} {r : Int32} (hf : fX9_isOfKind μ x0 x1 x2 = some r) : zC yX9_isOfKind cX9_isOfKind 3 (some .boolean) 1 0 0 [.ref x0, .int x1, .int x2] μ (some (.int r)) μ := by
  replace hf := (zgd_s hf).2
  refine zC.of (by decide) (Nat.le_of_ble_eq_true rfl) (fun K hin => ?_)
  clear hin
  show zz K cX9_isOfKind (3, RX9, some .boolean, 1, 0, 0, some (.int r), μ) 0 0 0 [(0, .ref x0), (1, .int x1), (2, .int x2)] [] μ
  refine zr_aload_n 0 dX9_isOfKind_0 rfl ?_
  refine zr_iload_n 1 dX9_isOfKind_1 rfl ?_
  replace hf := zb1_s hf
  obtain ⟨v2, h1, hf⟩ := hf
  refine zr_callV (ci := 9) [.int x1] (cX9_hasPerson_ok h1) zvs_X9_hasPerson zl_136 zl_137 (fX9_hasPerson_ck h1) rfl rfl zl_542 rfl (Nat.le_of_ble_eq_true rfl) (Nat.le_of_ble_eq_true rfl) (Nat.le_of_ble_eq_true rfl) (Nat.le_of_ble_eq_true rfl) dX9_isOfKind_2 rfl ?_
  replace hf := zb1_s hf
  obtain ⟨s3, hg, hf⟩ := hf
  have hj4 : zz K cX9_isOfKind (3, RX9, some .boolean, 1, 0, 0, some (.int r), μ) 0 0 23 [] [.int s3] μ := by
    replace hf := zb1_s hf
    obtain ⟨v5, hn6, hf⟩ := hf
    replace hn6 := zbz_s hn6
    obtain ⟨hn6, rfl⟩ := hn6
    cases hf
    exact zr_zret hn6 dX9_isOfKind_23
  clear hf
  have hf := hg
  clear hg
  refine zr_if_eq 22 dX9_isOfKind_5 (by decide) (fun hc => ?_) (fun hc => ?_)
  · rw [if_pos hc] at hf
    refine zr_iconst 0 dX9_isOfKind_22 (by decide) ?_
    cases hf
    exact zr_lv [] rfl hj4
  · rw [if_neg hc] at hf
    refine zr_aload_n 0 dX9_isOfKind_8 rfl ?_
    replace hf := zb1_s hf
    obtain ⟨v7, h8, hf⟩ := hf
    refine zr_get (zm_gR_g h8) zk9 (by decide) zl_229 dX9_isOfKind_9 ?_
    refine zr_iload_n 1 dX9_isOfKind_12 rfl ?_
    replace hf := zb1_s hf
    obtain ⟨v9, h10, hf⟩ := hf
    refine zr_iald h10 dX9_isOfKind_13 ?_
    refine zr_iload_n 2 dX9_isOfKind_14 rfl ?_
    refine zr_icmp_ne 22 dX9_isOfKind_15 (by decide) (fun hc => ?_) (fun hc => ?_)
    · rw [if_neg hc] at hf
      refine zr_iconst 0 dX9_isOfKind_22 (by decide) ?_
      cases hf
      exact zr_lv [] rfl hj4
    · rw [if_pos hc] at hf
      refine zr_iconst 1 dX9_isOfKind_18 (by decide) ?_
      refine zr_goto 23 dX9_isOfKind_19 (by decide) ?_
      cases hf
      exact zr_lv [] rfl hj4
theorem dX8_isKeener_0 : decode cX8_isKeener 0 = .ok (.iload_n 0, 1) := by decide +kernel
theorem dX8_isKeener_1 : decode cX8_isKeener 1 = .ok (.ifCond .ne 16, 3) := by decide +kernel
theorem dX8_isKeener_4 : decode cX8_isKeener 4 = .ok (.iload_n 1, 1) := by decide +kernel
theorem dX8_isKeener_5 : decode cX8_isKeener 5 = .ok (.iload_n 2, 1) := by decide +kernel
theorem dX8_isKeener_6 : decode cX8_isKeener 6 = .ok (.if_icmp .ge 7, 3) := by decide +kernel
theorem dX8_isKeener_9 : decode cX8_isKeener 9 = .ok (.iconst 1, 1) := by decide +kernel
theorem dX8_isKeener_10 : decode cX8_isKeener 10 = .ok (.goto 17, 3) := by decide +kernel
theorem dX8_isKeener_13 : decode cX8_isKeener 13 = .ok (.iconst 0, 1) := by decide +kernel
theorem dX8_isKeener_14 : decode cX8_isKeener 14 = .ok (.goto 13, 3) := by decide +kernel
theorem dX8_isKeener_17 : decode cX8_isKeener 17 = .ok (.iload_n 1, 1) := by decide +kernel
theorem dX8_isKeener_18 : decode cX8_isKeener 18 = .ok (.iload_n 2, 1) := by decide +kernel
theorem dX8_isKeener_19 : decode cX8_isKeener 19 = .ok (.if_icmp .le 7, 3) := by decide +kernel
theorem dX8_isKeener_22 : decode cX8_isKeener 22 = .ok (.iconst 1, 1) := by decide +kernel
theorem dX8_isKeener_23 : decode cX8_isKeener 23 = .ok (.goto 4, 3) := by decide +kernel
theorem dX8_isKeener_26 : decode cX8_isKeener 26 = .ok (.iconst 0, 1) := by decide +kernel
theorem dX8_isKeener_27 : decode cX8_isKeener 27 = .ok (.ireturn, 1) := by decide +kernel
noncomputable def fX8_isKeener (μ : zM) (x0 : Int32) (x1 : Int32) (x2 : Int32) : Option (Int32) :=
  zb1 (if x0 = 0 then (
  if x2 ≤ x1 then (
  some 0)
  else (
  some 1))
  else (
  if x1 ≤ x2 then (
  some 0)
  else (
  some 1)) : Option (Int32)) fun (s1 : Int32) =>
  zb1 (zbz s1) fun v3 =>
  some v3
set_option maxHeartbeats 4000000 in
set_option maxRecDepth 100000 in
theorem cX8_isKeener_ok {μ : zM} {x0 : Int32} {x1 : Int32} {x2 : Int32} {r : Int32} (hf : fX8_isKeener μ x0 x1 x2 = some r) : zC yX8_isKeener cX8_isKeener 3 (some .boolean) 0 0 0 [.int x0, .int x1, .int x2] μ (some (.int r)) μ := by
  unfold fX8_isKeener at hf
  refine zC.of (by decide) (Nat.le_of_ble_eq_true rfl) (fun K hin => ?_)
  clear hin
  show zz K cX8_isKeener (3, RX8, some .boolean, 0, 0, 0, some (.int r), μ) 0 0 0 [(0, .int x0), (1, .int x1), (2, .int x2)] [] μ
  refine zr_iload_n 0 dX8_isKeener_0 rfl ?_
  replace hf := zb1_s hf
  obtain ⟨s1, hg, hf⟩ := hf
  have hj2 : zz K cX8_isKeener (3, RX8, some .boolean, 0, 0, 0, some (.int r), μ) 0 0 27 [] [.int s1] μ := by
    replace hf := zb1_s hf
    obtain ⟨v3, hn4, hf⟩ := hf
    replace hn4 := zbz_s hn4
    obtain ⟨hn4, rfl⟩ := hn4
    cases hf
    exact zr_zret hn4 dX8_isKeener_27
  clear hf
  have hf := hg
  clear hg
  refine zr_if_ne 17 dX8_isKeener_1 (by decide) (fun hc => ?_) (fun hc => ?_)
  · rw [if_neg hc] at hf
    refine zr_iload_n 1 dX8_isKeener_17 rfl ?_
    refine zr_iload_n 2 dX8_isKeener_18 rfl ?_
    refine zr_icmp_le 26 dX8_isKeener_19 (by decide) (fun hc => ?_) (fun hc => ?_)
    · rw [if_pos hc] at hf
      refine zr_iconst 0 dX8_isKeener_26 (by decide) ?_
      cases hf
      exact zr_lv [] rfl hj2
    · rw [if_neg hc] at hf
      refine zr_iconst 1 dX8_isKeener_22 (by decide) ?_
      refine zr_goto 27 dX8_isKeener_23 (by decide) ?_
      cases hf
      exact zr_lv [] rfl hj2
  · rw [if_pos hc] at hf
    refine zr_iload_n 1 dX8_isKeener_4 rfl ?_
    refine zr_iload_n 2 dX8_isKeener_5 rfl ?_
    refine zr_icmp_ge 13 dX8_isKeener_6 (by decide) (fun hc => ?_) (fun hc => ?_)
    · rw [if_pos hc] at hf
      refine zr_iconst 0 dX8_isKeener_13 (by decide) ?_
      refine zr_goto 27 dX8_isKeener_14 (by decide) ?_
      cases hf
      exact zr_lv [] rfl hj2
    · rw [if_neg hc] at hf
      refine zr_iconst 1 dX8_isKeener_9 (by decide) ?_
      refine zr_goto 27 dX8_isKeener_10 (by decide) ?_
      cases hf
      exact zr_lv [] rfl hj2
theorem zl_543 : Cond.fieldLink RX8 27 "TwoEchoes$Valley" "people" "I" ∈ zt := zt_at 189 (by decide +kernel)
theorem zl_544 : Cond.code yX9_isOfKind cX9_isOfKind 3 (some .boolean) ∈ zt := zt_at 985 (by decide +kernel)
theorem zvs_X9_isOfKind : zvS yX9_isOfKind cX9_isOfKind 3 (some .boolean) 2 := ⟨zl_544, zl_14, ⟨by decide +kernel, by decide +kernel, by decide +kernel⟩, by decide⟩
theorem zl_545 : Cond.methodLink RX8 31 yX9_isOfKind ∈ zt := zt_at 982 (by decide +kernel)
theorem zl_546 : Cond.instanceMethod yX9_isOfKind ∈ zt := zt_at 983 (by decide +kernel)
theorem zl_547 : Cond.selects RX9 yX9_isOfKind yX9_isOfKind ∈ zt := zt_at 984 (by decide +kernel)
theorem zl_548 : Cond.fieldLink RX8 22 "TwoEchoes$Valley" "wish" "[I" ∈ zt := zt_at 200 (by decide +kernel)
theorem zl_549 : Cond.code yX8_isKeener cX8_isKeener 3 (some .boolean) ∈ zt := zt_at 988 (by decide +kernel)
theorem zl_550 : Cond.initialized RX8 ∈ zt := zt_at 138 (by decide +kernel)
theorem zvs_X8_isKeener : zvS yX8_isKeener cX8_isKeener 3 (some .boolean) 3 := ⟨zl_549, zl_550, ⟨by decide +kernel, by decide +kernel, by decide +kernel⟩, by decide⟩
theorem zl_551 : Cond.methodLink RX8 35 yX8_isKeener ∈ zt := zt_at 986 (by decide +kernel)
theorem zl_552 : Cond.static yX8_isKeener ∈ zt := zt_at 987 (by decide +kernel)
theorem dX8_bestLeft_0 : decode cX8_bestLeft 0 = .ok (.iconst (-1), 1) := by decide +kernel
theorem dX8_bestLeft_1 : decode cX8_bestLeft 1 = .ok (.istore_n 3, 1) := by decide +kernel
theorem dX8_bestLeft_2 : decode cX8_bestLeft 2 = .ok (.iconst 0, 1) := by decide +kernel
theorem dX8_bestLeft_3 : decode cX8_bestLeft 3 = .ok (.istore 4, 2) := by decide +kernel
theorem dX8_bestLeft_5 : decode cX8_bestLeft 5 = .ok (.iload 4, 2) := by decide +kernel
theorem dX8_bestLeft_7 : decode cX8_bestLeft 7 = .ok (.aload_n 0, 1) := by decide +kernel
theorem dX8_bestLeft_8 : decode cX8_bestLeft 8 = .ok (.getfield 27, 3) := by decide +kernel
theorem dX8_bestLeft_11 : decode cX8_bestLeft 11 = .ok (.if_icmp .ge 59, 3) := by decide +kernel
theorem dX8_bestLeft_14 : decode cX8_bestLeft 14 = .ok (.aload_n 0, 1) := by decide +kernel
theorem dX8_bestLeft_15 : decode cX8_bestLeft 15 = .ok (.iload 4, 2) := by decide +kernel
theorem dX8_bestLeft_17 : decode cX8_bestLeft 17 = .ok (.iload_n 1, 1) := by decide +kernel
theorem dX8_bestLeft_18 : decode cX8_bestLeft 18 = .ok (.invokevirtual 31, 3) := by decide +kernel
theorem dX8_bestLeft_21 : decode cX8_bestLeft 21 = .ok (.ifCond .eq 43, 3) := by decide +kernel
theorem dX8_bestLeft_24 : decode cX8_bestLeft 24 = .ok (.iload_n 2, 1) := by decide +kernel
theorem dX8_bestLeft_25 : decode cX8_bestLeft 25 = .ok (.iload 4, 2) := by decide +kernel
theorem dX8_bestLeft_27 : decode cX8_bestLeft 27 = .ok (.ishr, 1) := by decide +kernel
theorem dX8_bestLeft_28 : decode cX8_bestLeft 28 = .ok (.iconst 1, 1) := by decide +kernel
theorem dX8_bestLeft_29 : decode cX8_bestLeft 29 = .ok (.iand, 1) := by decide +kernel
theorem dX8_bestLeft_30 : decode cX8_bestLeft 30 = .ok (.ifCond .eq 6, 3) := by decide +kernel
theorem dX8_bestLeft_33 : decode cX8_bestLeft 33 = .ok (.goto 31, 3) := by decide +kernel
theorem dX8_bestLeft_36 : decode cX8_bestLeft 36 = .ok (.iload_n 3, 1) := by decide +kernel
theorem dX8_bestLeft_37 : decode cX8_bestLeft 37 = .ok (.iconst (-1), 1) := by decide +kernel
theorem dX8_bestLeft_38 : decode cX8_bestLeft 38 = .ok (.if_icmp .eq 23, 3) := by decide +kernel
theorem dX8_bestLeft_41 : decode cX8_bestLeft 41 = .ok (.iload_n 1, 1) := by decide +kernel
theorem dX8_bestLeft_42 : decode cX8_bestLeft 42 = .ok (.aload_n 0, 1) := by decide +kernel
theorem dX8_bestLeft_43 : decode cX8_bestLeft 43 = .ok (.getfield 22, 3) := by decide +kernel
theorem dX8_bestLeft_46 : decode cX8_bestLeft 46 = .ok (.iload 4, 2) := by decide +kernel
theorem dX8_bestLeft_48 : decode cX8_bestLeft 48 = .ok (.iaload, 1) := by decide +kernel
theorem dX8_bestLeft_49 : decode cX8_bestLeft 49 = .ok (.aload_n 0, 1) := by decide +kernel
theorem dX8_bestLeft_50 : decode cX8_bestLeft 50 = .ok (.getfield 22, 3) := by decide +kernel
theorem dX8_bestLeft_53 : decode cX8_bestLeft 53 = .ok (.iload_n 3, 1) := by decide +kernel
theorem dX8_bestLeft_54 : decode cX8_bestLeft 54 = .ok (.iaload, 1) := by decide +kernel
theorem dX8_bestLeft_55 : decode cX8_bestLeft 55 = .ok (.invokestatic 35, 3) := by decide +kernel
theorem dX8_bestLeft_58 : decode cX8_bestLeft 58 = .ok (.ifCond .eq 6, 3) := by decide +kernel
theorem dX8_bestLeft_61 : decode cX8_bestLeft 61 = .ok (.iload 4, 2) := by decide +kernel
theorem dX8_bestLeft_63 : decode cX8_bestLeft 63 = .ok (.istore_n 3, 1) := by decide +kernel
theorem dX8_bestLeft_64 : decode cX8_bestLeft 64 = .ok (.iinc 4 1, 3) := by decide +kernel
theorem dX8_bestLeft_67 : decode cX8_bestLeft 67 = .ok (.goto (-62), 3) := by decide +kernel
theorem dX8_bestLeft_70 : decode cX8_bestLeft 70 = .ok (.iload_n 3, 1) := by decide +kernel
theorem dX8_bestLeft_71 : decode cX8_bestLeft 71 = .ok (.ireturn, 1) := by decide +kernel
noncomputable def fX8_bestLeft_l5 (μ : zM) (x0 : Nat) (x1 : Int32) (x2 : Int32) (F3 : Int32 → Int32 → Option (Int32)) (x3_1 : Int32) (x4_2 : Int32) : Option (Int32) :=
  zb1 (zm_gI μ 9 x0 4) fun v7 =>
  if v7 ≤ x4_2 then (
  some x3_1)
  else (
  zb1 (fX9_isOfKind μ x0 x4_2 x1) fun v10 =>
  zb1 (if v10 = 0 then (
  some x3_1)
  else (
  if ((x2 >>> (x4_2 &&& 31)) &&& 1) = 0 then (
  if x3_1 = (-1) then (
  some x4_2)
  else (
  zb1 (zm_gR μ 9 x0 7) fun v13 =>
  zb1 (zm_aI μ 0 v13 x4_2) fun v15 =>
  zb1 (zm_gR μ 9 x0 7) fun v17 =>
  zb1 (zm_aI μ 0 v17 x3_1) fun v19 =>
  zb1 (fX8_isKeener μ x1 v15 v19) fun v22 =>
  if v22 = 0 then (
  some x3_1)
  else (
  some x4_2)))
  else (
  some x3_1)) : Option (Int32)) fun (x3_11 : Int32) =>
  F3 x3_11 (x4_2 + 1))
noncomputable def fX8_bestLeft (μ : zM) (x0 : Nat) (x1 : Int32) (x2 : Int32) : Option (Int32) :=
  zb1 (zf2 (fX8_bestLeft_l5 μ x0 x1 x2) zfu (-1) 0 : Option (Int32)) fun (x3_5 : Int32) =>
  some x3_5
set_option maxHeartbeats 4000000 in
set_option maxRecDepth 100000 in
theorem cX8_bestLeft_ok {μ : zM} {x0 : Nat} {x1 : Int32} {x2 : Int32} {r : Int32} (hf : fX8_bestLeft μ x0 x1 x2 = some r) : zC yX8_bestLeft cX8_bestLeft 5 (some .int) 2 0 0 [.ref x0, .int x1, .int x2] μ (some (.int r)) μ := by
  unfold fX8_bestLeft at hf
  refine zC.of (by decide) (Nat.le_of_ble_eq_true rfl) (fun K hin => ?_)
  clear hin
  show zz K cX8_bestLeft (5, RX8, some .int, 2, 0, 0, some (.int r), μ) 0 0 0 [(0, .ref x0), (1, .int x1), (2, .int x2)] [] μ
  refine zr_iconst (-1) dX8_bestLeft_0 (by decide) ?_
  refine zr_istore_n [(3, .int (-1)), (0, .ref x0), (1, .int x1), (2, .int x2)] dX8_bestLeft_1 (Nat.le_of_ble_eq_true rfl) rfl ?_
  refine zr_iconst 0 dX8_bestLeft_2 (by decide) ?_
  refine zr_istore [(4, .int 0), (3, .int (-1)), (0, .ref x0), (1, .int x1), (2, .int x2)] dX8_bestLeft_3 (Nat.le_of_ble_eq_true rfl) rfl ?_
  replace hf := zb1_s hf
  obtain ⟨x3_5, hg, hf⟩ := hf
  have hj6 : zz K cX8_bestLeft (5, RX8, some .int, 2, 0, 0, some (.int r), μ) 0 0 70 [(3, .int x3_5)] [] μ := by
    refine zr_iload_n 0 dX8_bestLeft_70 rfl ?_
    cases hf
    exact zr_iret dX8_bestLeft_71
  clear hf
  have hf := hg
  clear hg
  have hL23 : ∀ (n : Nat) (x3_1 : Int32) (x4_2 : Int32), zf2 (fX8_bestLeft_l5 μ x0 x1 x2) n x3_1 x4_2 = some x3_5 → zz K cX8_bestLeft (5, RX8, some .int, 2, 0, 0, some (.int r), μ) 0 0 5 [(0, .ref x0), (1, .int x1), (2, .int x2), (3, .int x3_1), (4, .int x4_2)] [] μ := by
    intro n
    induction n with
    | zero => intro x3_1 x4_2 hf; cases hf
    | succ n ih4 =>
      intro x3_1 x4_2 hf
      replace hf := zf2_s hf
      generalize zf2 (fX8_bestLeft_l5 μ x0 x1 x2) n = F3 at hf ih4
      unfold fX8_bestLeft_l5 at hf
      refine zr_iload 4 dX8_bestLeft_5 rfl ?_
      refine zr_aload_n 0 dX8_bestLeft_7 rfl ?_
      replace hf := zb1_s hf
      obtain ⟨v7, h8, hf⟩ := hf
      refine zr_get (zm_gI_g h8) zk9 (by decide) zl_543 dX8_bestLeft_8 ?_
      refine zr_icmp_ge 70 dX8_bestLeft_11 (by decide) (fun hc => ?_) (fun hc => ?_)
      · rw [if_pos hc] at hf
        cases hf
        exact zr_lv [3] rfl hj6
      · rw [if_neg hc] at hf
        refine zr_aload_n 0 dX8_bestLeft_14 rfl ?_
        refine zr_iload 4 dX8_bestLeft_15 rfl ?_
        refine zr_iload_n 1 dX8_bestLeft_17 rfl ?_
        replace hf := zb1_s hf
        obtain ⟨v10, h9, hf⟩ := hf
        refine zr_callV (ci := 9) [.int x4_2, .int x1] (cX9_isOfKind_ok h9) zvs_X9_isOfKind zl_546 zl_547 (fX9_isOfKind_ck h9) rfl rfl zl_545 rfl (Nat.le_of_ble_eq_true rfl) (Nat.le_of_ble_eq_true rfl) (Nat.le_of_ble_eq_true rfl) (Nat.le_of_ble_eq_true rfl) dX8_bestLeft_18 rfl ?_
        replace hf := zb1_s hf
        obtain ⟨x3_11, hg, hf⟩ := hf
        have hj12 : zz K cX8_bestLeft (5, RX8, some .int, 2, 0, 0, some (.int r), μ) 0 0 64 [(0, .ref x0), (1, .int x1), (2, .int x2), (3, .int x3_11), (4, .int x4_2)] [] μ := by
          refine zr_iinc (j := 4) (x4_2 + 1) [(4, .int (x4_2 + 1)), (0, .ref x0), (1, .int x1), (2, .int x2), (3, .int x3_11)] dX8_bestLeft_64 rfl rfl (Nat.le_of_ble_eq_true rfl) rfl ?_
          refine zr_goto 5 dX8_bestLeft_67 (by decide) ?_
          exact zr_lv [1, 2, 3, 4, 0] rfl (ih4 x3_11 (x4_2 + 1) hf)
        clear hf
        have hf := hg
        clear hg
        refine zr_if_eq 64 dX8_bestLeft_21 (by decide) (fun hc => ?_) (fun hc => ?_)
        · rw [if_pos hc] at hf
          cases hf
          exact zr_lv [0, 1, 2, 3, 4] rfl hj12
        · rw [if_neg hc] at hf
          refine zr_iload_n 2 dX8_bestLeft_24 rfl ?_
          refine zr_iload 4 dX8_bestLeft_25 rfl ?_
          refine zr_ishr dX8_bestLeft_27 ?_
          refine zr_iconst 1 dX8_bestLeft_28 (by decide) ?_
          refine zr_iand dX8_bestLeft_29 ?_
          refine zr_if_eq 36 dX8_bestLeft_30 (by decide) (fun hc => ?_) (fun hc => ?_)
          · rw [if_pos hc] at hf
            refine zr_iload_n 3 dX8_bestLeft_36 rfl ?_
            refine zr_iconst (-1) dX8_bestLeft_37 (by decide) ?_
            refine zr_icmp_eq 61 dX8_bestLeft_38 (by decide) (fun hc => ?_) (fun hc => ?_)
            · rw [if_pos hc] at hf
              refine zr_iload 4 dX8_bestLeft_61 rfl ?_
              refine zr_istore_n [(3, .int x4_2), (0, .ref x0), (1, .int x1), (2, .int x2), (4, .int x4_2)] dX8_bestLeft_63 (Nat.le_of_ble_eq_true rfl) rfl ?_
              cases hf
              exact zr_lv [1, 2, 3, 0, 4] rfl hj12
            · rw [if_neg hc] at hf
              refine zr_iload_n 1 dX8_bestLeft_41 rfl ?_
              refine zr_aload_n 0 dX8_bestLeft_42 rfl ?_
              replace hf := zb1_s hf
              obtain ⟨v13, h14, hf⟩ := hf
              refine zr_get (zm_gR_g h14) zk9 (by decide) zl_548 dX8_bestLeft_43 ?_
              refine zr_iload 4 dX8_bestLeft_46 rfl ?_
              replace hf := zb1_s hf
              obtain ⟨v15, h16, hf⟩ := hf
              refine zr_iald h16 dX8_bestLeft_48 ?_
              refine zr_aload_n 0 dX8_bestLeft_49 rfl ?_
              replace hf := zb1_s hf
              obtain ⟨v17, h18, hf⟩ := hf
              refine zr_get (zm_gR_g h18) zk9 (by decide) zl_548 dX8_bestLeft_50 ?_
              refine zr_iload_n 3 dX8_bestLeft_53 rfl ?_
              replace hf := zb1_s hf
              obtain ⟨v19, h20, hf⟩ := hf
              refine zr_iald h20 dX8_bestLeft_54 ?_
              replace hf := zb1_s hf
              obtain ⟨v22, h21, hf⟩ := hf
              refine zr_callS [.int x1, .int v15, .int v19] (cX8_isKeener_ok h21) zvs_X8_isKeener zl_552 zl_551 rfl (Nat.le_of_ble_eq_true rfl) (Nat.le_of_ble_eq_true rfl) (Nat.le_of_ble_eq_true rfl) (Nat.le_of_ble_eq_true rfl) dX8_bestLeft_55 rfl ?_
              refine zr_if_eq 64 dX8_bestLeft_58 (by decide) (fun hc => ?_) (fun hc => ?_)
              · rw [if_pos hc] at hf
                cases hf
                exact zr_lv [0, 1, 2, 3, 4] rfl hj12
              · rw [if_neg hc] at hf
                refine zr_iload 4 dX8_bestLeft_61 rfl ?_
                refine zr_istore_n [(3, .int x4_2), (0, .ref x0), (1, .int x1), (2, .int x2), (4, .int x4_2)] dX8_bestLeft_63 (Nat.le_of_ble_eq_true rfl) rfl ?_
                cases hf
                exact zr_lv [1, 2, 3, 0, 4] rfl hj12
          · rw [if_neg hc] at hf
            refine zr_goto 64 dX8_bestLeft_33 (by decide) ?_
            cases hf
            exact zr_lv [0, 1, 2, 3, 4] rfl hj12
  exact zr_lv [2, 3, 4, 1, 0] rfl (hL23 _ (-1) 0 hf)
theorem zl_553 : Cond.code yX8_bestLeft cX8_bestLeft 5 (some .int) ∈ zt := zt_at 981 (by decide +kernel)
theorem zvs_X8_bestLeft : zvS yX8_bestLeft cX8_bestLeft 5 (some .int) 3 := ⟨zl_553, zl_550, ⟨by decide +kernel, by decide +kernel, by decide +kernel⟩, by decide⟩
theorem zl_554 : Cond.methodLink RX8 18 yX8_bestLeft ∈ zt := zt_at 979 (by decide +kernel)
theorem zl_555 : Cond.static yX8_bestLeft ∈ zt := zt_at 980 (by decide +kernel)
theorem dX8_gainOfCouple_0 : decode cX8_gainOfCouple 0 = .ok (.iconst 0, 1) := by decide +kernel
theorem dX8_gainOfCouple_1 : decode cX8_gainOfCouple 1 = .ok (.istore_n 2, 1) := by decide +kernel
theorem dX8_gainOfCouple_2 : decode cX8_gainOfCouple 2 = .ok (.iconst 0, 1) := by decide +kernel
theorem dX8_gainOfCouple_3 : decode cX8_gainOfCouple 3 = .ok (.istore_n 3, 1) := by decide +kernel
theorem dX8_gainOfCouple_4 : decode cX8_gainOfCouple 4 = .ok (.iconst (-1), 1) := by decide +kernel
theorem dX8_gainOfCouple_5 : decode cX8_gainOfCouple 5 = .ok (.istore 4, 2) := by decide +kernel
theorem dX8_gainOfCouple_7 : decode cX8_gainOfCouple 7 = .ok (.iconst (-1), 1) := by decide +kernel
theorem dX8_gainOfCouple_8 : decode cX8_gainOfCouple 8 = .ok (.istore 5, 2) := by decide +kernel
theorem dX8_gainOfCouple_10 : decode cX8_gainOfCouple 10 = .ok (.iconst 0, 1) := by decide +kernel
theorem dX8_gainOfCouple_11 : decode cX8_gainOfCouple 11 = .ok (.istore 6, 2) := by decide +kernel
theorem dX8_gainOfCouple_13 : decode cX8_gainOfCouple 13 = .ok (.iload 6, 2) := by decide +kernel
theorem dX8_gainOfCouple_15 : decode cX8_gainOfCouple 15 = .ok (.iload_n 1, 1) := by decide +kernel
theorem dX8_gainOfCouple_16 : decode cX8_gainOfCouple 16 = .ok (.if_icmp .gt 53, 3) := by decide +kernel
theorem dX8_gainOfCouple_19 : decode cX8_gainOfCouple 19 = .ok (.aload_n 0, 1) := by decide +kernel
theorem dX8_gainOfCouple_20 : decode cX8_gainOfCouple 20 = .ok (.iconst 0, 1) := by decide +kernel
theorem dX8_gainOfCouple_21 : decode cX8_gainOfCouple 21 = .ok (.iload_n 2, 1) := by decide +kernel
theorem dX8_gainOfCouple_22 : decode cX8_gainOfCouple 22 = .ok (.invokestatic 18, 3) := by decide +kernel
theorem dX8_gainOfCouple_25 : decode cX8_gainOfCouple 25 = .ok (.istore 4, 2) := by decide +kernel
theorem dX8_gainOfCouple_27 : decode cX8_gainOfCouple 27 = .ok (.aload_n 0, 1) := by decide +kernel
theorem dX8_gainOfCouple_28 : decode cX8_gainOfCouple 28 = .ok (.iconst 1, 1) := by decide +kernel
theorem dX8_gainOfCouple_29 : decode cX8_gainOfCouple 29 = .ok (.iload_n 3, 1) := by decide +kernel
theorem dX8_gainOfCouple_30 : decode cX8_gainOfCouple 30 = .ok (.invokestatic 18, 3) := by decide +kernel
theorem dX8_gainOfCouple_33 : decode cX8_gainOfCouple 33 = .ok (.istore 5, 2) := by decide +kernel
theorem dX8_gainOfCouple_35 : decode cX8_gainOfCouple 35 = .ok (.iload 4, 2) := by decide +kernel
theorem dX8_gainOfCouple_37 : decode cX8_gainOfCouple 37 = .ok (.iconst (-1), 1) := by decide +kernel
theorem dX8_gainOfCouple_38 : decode cX8_gainOfCouple 38 = .ok (.if_icmp .eq 9, 3) := by decide +kernel
theorem dX8_gainOfCouple_41 : decode cX8_gainOfCouple 41 = .ok (.iload 5, 2) := by decide +kernel
theorem dX8_gainOfCouple_43 : decode cX8_gainOfCouple 43 = .ok (.iconst (-1), 1) := by decide +kernel
theorem dX8_gainOfCouple_44 : decode cX8_gainOfCouple 44 = .ok (.if_icmp .ne 5, 3) := by decide +kernel
theorem dX8_gainOfCouple_47 : decode cX8_gainOfCouple 47 = .ok (.iconst (-1), 1) := by decide +kernel
theorem dX8_gainOfCouple_48 : decode cX8_gainOfCouple 48 = .ok (.ireturn, 1) := by decide +kernel
theorem dX8_gainOfCouple_49 : decode cX8_gainOfCouple 49 = .ok (.iload_n 2, 1) := by decide +kernel
theorem dX8_gainOfCouple_50 : decode cX8_gainOfCouple 50 = .ok (.iconst 1, 1) := by decide +kernel
theorem dX8_gainOfCouple_51 : decode cX8_gainOfCouple 51 = .ok (.iload 4, 2) := by decide +kernel
theorem dX8_gainOfCouple_53 : decode cX8_gainOfCouple 53 = .ok (.ishl, 1) := by decide +kernel
theorem dX8_gainOfCouple_54 : decode cX8_gainOfCouple 54 = .ok (.ior, 1) := by decide +kernel
theorem dX8_gainOfCouple_55 : decode cX8_gainOfCouple 55 = .ok (.istore_n 2, 1) := by decide +kernel
theorem dX8_gainOfCouple_56 : decode cX8_gainOfCouple 56 = .ok (.iload_n 3, 1) := by decide +kernel
theorem dX8_gainOfCouple_57 : decode cX8_gainOfCouple 57 = .ok (.iconst 1, 1) := by decide +kernel
theorem dX8_gainOfCouple_58 : decode cX8_gainOfCouple 58 = .ok (.iload 5, 2) := by decide +kernel
theorem dX8_gainOfCouple_60 : decode cX8_gainOfCouple 60 = .ok (.ishl, 1) := by decide +kernel
theorem dX8_gainOfCouple_61 : decode cX8_gainOfCouple 61 = .ok (.ior, 1) := by decide +kernel
theorem dX8_gainOfCouple_62 : decode cX8_gainOfCouple 62 = .ok (.istore_n 3, 1) := by decide +kernel
theorem dX8_gainOfCouple_63 : decode cX8_gainOfCouple 63 = .ok (.iinc 6 1, 3) := by decide +kernel
theorem dX8_gainOfCouple_66 : decode cX8_gainOfCouple 66 = .ok (.goto (-53), 3) := by decide +kernel
theorem dX8_gainOfCouple_69 : decode cX8_gainOfCouple 69 = .ok (.iload 4, 2) := by decide +kernel
theorem dX8_gainOfCouple_71 : decode cX8_gainOfCouple 71 = .ok (.iconst (-1), 1) := by decide +kernel
theorem dX8_gainOfCouple_72 : decode cX8_gainOfCouple 72 = .ok (.if_icmp .eq 26, 3) := by decide +kernel
theorem dX8_gainOfCouple_75 : decode cX8_gainOfCouple 75 = .ok (.iload 5, 2) := by decide +kernel
theorem dX8_gainOfCouple_77 : decode cX8_gainOfCouple 77 = .ok (.iconst (-1), 1) := by decide +kernel
theorem dX8_gainOfCouple_78 : decode cX8_gainOfCouple 78 = .ok (.if_icmp .eq 20, 3) := by decide +kernel
theorem dX8_gainOfCouple_81 : decode cX8_gainOfCouple 81 = .ok (.aload_n 0, 1) := by decide +kernel
theorem dX8_gainOfCouple_82 : decode cX8_gainOfCouple 82 = .ok (.getfield 22, 3) := by decide +kernel
theorem dX8_gainOfCouple_85 : decode cX8_gainOfCouple 85 = .ok (.iload 5, 2) := by decide +kernel
theorem dX8_gainOfCouple_87 : decode cX8_gainOfCouple 87 = .ok (.iaload, 1) := by decide +kernel
theorem dX8_gainOfCouple_88 : decode cX8_gainOfCouple 88 = .ok (.aload_n 0, 1) := by decide +kernel
theorem dX8_gainOfCouple_89 : decode cX8_gainOfCouple 89 = .ok (.getfield 22, 3) := by decide +kernel
theorem dX8_gainOfCouple_92 : decode cX8_gainOfCouple 92 = .ok (.iload 4, 2) := by decide +kernel
theorem dX8_gainOfCouple_94 : decode cX8_gainOfCouple 94 = .ok (.iaload, 1) := by decide +kernel
theorem dX8_gainOfCouple_95 : decode cX8_gainOfCouple 95 = .ok (.if_icmp .ge 5, 3) := by decide +kernel
theorem dX8_gainOfCouple_98 : decode cX8_gainOfCouple 98 = .ok (.iconst (-1), 1) := by decide +kernel
theorem dX8_gainOfCouple_99 : decode cX8_gainOfCouple 99 = .ok (.ireturn, 1) := by decide +kernel
theorem dX8_gainOfCouple_100 : decode cX8_gainOfCouple 100 = .ok (.aload_n 0, 1) := by decide +kernel
theorem dX8_gainOfCouple_101 : decode cX8_gainOfCouple 101 = .ok (.getfield 22, 3) := by decide +kernel
theorem dX8_gainOfCouple_104 : decode cX8_gainOfCouple 104 = .ok (.iload 5, 2) := by decide +kernel
theorem dX8_gainOfCouple_106 : decode cX8_gainOfCouple 106 = .ok (.iaload, 1) := by decide +kernel
theorem dX8_gainOfCouple_107 : decode cX8_gainOfCouple 107 = .ok (.aload_n 0, 1) := by decide +kernel
theorem dX8_gainOfCouple_108 : decode cX8_gainOfCouple 108 = .ok (.getfield 22, 3) := by decide +kernel
theorem dX8_gainOfCouple_111 : decode cX8_gainOfCouple 111 = .ok (.iload 4, 2) := by decide +kernel
theorem dX8_gainOfCouple_113 : decode cX8_gainOfCouple 113 = .ok (.iaload, 1) := by decide +kernel
theorem dX8_gainOfCouple_114 : decode cX8_gainOfCouple 114 = .ok (.isub, 1) := by decide +kernel
theorem dX8_gainOfCouple_115 : decode cX8_gainOfCouple 115 = .ok (.ireturn, 1) := by decide +kernel
noncomputable def fX8_gainOfCouple_l13 (x1 : Int32) (μ : zM) (x0 : Nat) (F6 : Int32 → Int32 → Int32 → Int32 → Int32 → Option (Int32)) (x2_1 : Int32) (x3_2 : Int32) (x4_3 : Int32) (x5_4 : Int32) (x6_5 : Int32) : Option (Int32) :=
  if x1 < x6_5 then (
  if x4_3 = (-1) then (
  some (-1))
  else (
  if x5_4 = (-1) then (
  some (-1))
  else (
  zb1 (zm_gR μ 9 x0 7) fun v8 =>
  zb1 (zm_aI μ 0 v8 x5_4) fun v10 =>
  zb1 (zm_gR μ 9 x0 7) fun v12 =>
  zb1 (zm_aI μ 0 v12 x4_3) fun v14 =>
  if v14 ≤ v10 then (
  zb1 (zm_gR μ 9 x0 7) fun v16 =>
  zb1 (zm_aI μ 0 v16 x5_4) fun v18 =>
  zb1 (zm_gR μ 9 x0 7) fun v20 =>
  zb1 (zm_aI μ 0 v20 x4_3) fun v22 =>
  some (v18 - v22))
  else (
  some (-1)))))
  else (
  zb1 (fX8_bestLeft μ x0 0 x2_1) fun v25 =>
  zb1 (fX8_bestLeft μ x0 1 x3_2) fun v27 =>
  if v25 = (-1) then (
  some (-1))
  else (
  if v27 = (-1) then (
  some (-1))
  else (
  F6 (x2_1 ||| (1 <<< (v25 &&& 31))) (x3_2 ||| (1 <<< (v27 &&& 31))) v25 v27 (x6_5 + 1))))
noncomputable def fX8_gainOfCouple (μ : zM) (x0 : Nat) (x1 : Int32) : Option (Int32) :=
  zf5 (fX8_gainOfCouple_l13 x1 μ x0) zfu 0 0 (-1) (-1) 0
set_option maxHeartbeats 4000000 in
set_option maxRecDepth 100000 in
theorem cX8_gainOfCouple_ok {μ : zM} {x0 : Nat} {x1 : Int32} {r : Int32} (hf : fX8_gainOfCouple μ x0 x1 = some r) : zC yX8_gainOfCouple cX8_gainOfCouple 7 (some .int) 3 0 0 [.ref x0, .int x1] μ (some (.int r)) μ := by
  unfold fX8_gainOfCouple at hf
  refine zC.of (by decide) (Nat.le_of_ble_eq_true rfl) (fun K hin => ?_)
  clear hin
  show zz K cX8_gainOfCouple (7, RX8, some .int, 3, 0, 0, some (.int r), μ) 0 0 0 [(0, .ref x0), (1, .int x1)] [] μ
  refine zr_iconst 0 dX8_gainOfCouple_0 (by decide) ?_
  refine zr_istore_n [(2, .int 0), (0, .ref x0), (1, .int x1)] dX8_gainOfCouple_1 (Nat.le_of_ble_eq_true rfl) rfl ?_
  refine zr_iconst 0 dX8_gainOfCouple_2 (by decide) ?_
  refine zr_istore_n [(3, .int 0), (2, .int 0), (0, .ref x0), (1, .int x1)] dX8_gainOfCouple_3 (Nat.le_of_ble_eq_true rfl) rfl ?_
  refine zr_iconst (-1) dX8_gainOfCouple_4 (by decide) ?_
  refine zr_istore [(4, .int (-1)), (3, .int 0), (2, .int 0), (0, .ref x0), (1, .int x1)] dX8_gainOfCouple_5 (Nat.le_of_ble_eq_true rfl) rfl ?_
  refine zr_iconst (-1) dX8_gainOfCouple_7 (by decide) ?_
  refine zr_istore [(5, .int (-1)), (4, .int (-1)), (3, .int 0), (2, .int 0), (0, .ref x0), (1, .int x1)] dX8_gainOfCouple_8 (Nat.le_of_ble_eq_true rfl) rfl ?_
  refine zr_iconst 0 dX8_gainOfCouple_10 (by decide) ?_
  refine zr_istore [(6, .int 0), (5, .int (-1)), (4, .int (-1)), (3, .int 0), (2, .int 0), (0, .ref x0), (1, .int x1)] dX8_gainOfCouple_11 (Nat.le_of_ble_eq_true rfl) rfl ?_
  have hL28 : ∀ (n : Nat) (x2_1 : Int32) (x3_2 : Int32) (x4_3 : Int32) (x5_4 : Int32) (x6_5 : Int32), zf5 (fX8_gainOfCouple_l13 x1 μ x0) n x2_1 x3_2 x4_3 x5_4 x6_5 = some r → zz K cX8_gainOfCouple (7, RX8, some .int, 3, 0, 0, some (.int r), μ) 0 0 13 [(0, .ref x0), (1, .int x1), (2, .int x2_1), (3, .int x3_2), (4, .int x4_3), (5, .int x5_4), (6, .int x6_5)] [] μ := by
    intro n
    induction n with
    | zero => intro x2_1 x3_2 x4_3 x5_4 x6_5 hf; cases hf
    | succ n ih7 =>
      intro x2_1 x3_2 x4_3 x5_4 x6_5 hf
      replace hf := zf5_s hf
      generalize zf5 (fX8_gainOfCouple_l13 x1 μ x0) n = F6 at hf ih7
      unfold fX8_gainOfCouple_l13 at hf
      refine zr_iload 6 dX8_gainOfCouple_13 rfl ?_
      refine zr_iload_n 1 dX8_gainOfCouple_15 rfl ?_
      refine zr_icmp_gt 69 dX8_gainOfCouple_16 (by decide) (fun hc => ?_) (fun hc => ?_)
      · rw [if_pos hc] at hf
        refine zr_iload 4 dX8_gainOfCouple_69 rfl ?_
        refine zr_iconst (-1) dX8_gainOfCouple_71 (by decide) ?_
        refine zr_icmp_eq 98 dX8_gainOfCouple_72 (by decide) (fun hc => ?_) (fun hc => ?_)
        · rw [if_pos hc] at hf
          refine zr_iconst (-1) dX8_gainOfCouple_98 (by decide) ?_
          cases hf
          exact zr_iret dX8_gainOfCouple_99
        · rw [if_neg hc] at hf
          refine zr_iload 5 dX8_gainOfCouple_75 rfl ?_
          refine zr_iconst (-1) dX8_gainOfCouple_77 (by decide) ?_
          refine zr_icmp_eq 98 dX8_gainOfCouple_78 (by decide) (fun hc => ?_) (fun hc => ?_)
          · rw [if_pos hc] at hf
            refine zr_iconst (-1) dX8_gainOfCouple_98 (by decide) ?_
            cases hf
            exact zr_iret dX8_gainOfCouple_99
          · rw [if_neg hc] at hf
            refine zr_aload_n 0 dX8_gainOfCouple_81 rfl ?_
            replace hf := zb1_s hf
            obtain ⟨v8, h9, hf⟩ := hf
            refine zr_get (zm_gR_g h9) zk9 (by decide) zl_548 dX8_gainOfCouple_82 ?_
            refine zr_iload 5 dX8_gainOfCouple_85 rfl ?_
            replace hf := zb1_s hf
            obtain ⟨v10, h11, hf⟩ := hf
            refine zr_iald h11 dX8_gainOfCouple_87 ?_
            refine zr_aload_n 0 dX8_gainOfCouple_88 rfl ?_
            replace hf := zb1_s hf
            obtain ⟨v12, h13, hf⟩ := hf
            refine zr_get (zm_gR_g h13) zk9 (by decide) zl_548 dX8_gainOfCouple_89 ?_
            refine zr_iload 4 dX8_gainOfCouple_92 rfl ?_
            replace hf := zb1_s hf
            obtain ⟨v14, h15, hf⟩ := hf
            refine zr_iald h15 dX8_gainOfCouple_94 ?_
            refine zr_icmp_ge 100 dX8_gainOfCouple_95 (by decide) (fun hc => ?_) (fun hc => ?_)
            · rw [if_pos hc] at hf
              refine zr_aload_n 0 dX8_gainOfCouple_100 rfl ?_
              replace hf := zb1_s hf
              obtain ⟨v16, h17, hf⟩ := hf
              refine zr_get (zm_gR_g h17) zk9 (by decide) zl_548 dX8_gainOfCouple_101 ?_
              refine zr_iload 5 dX8_gainOfCouple_104 rfl ?_
              replace hf := zb1_s hf
              obtain ⟨v18, h19, hf⟩ := hf
              refine zr_iald h19 dX8_gainOfCouple_106 ?_
              refine zr_aload_n 0 dX8_gainOfCouple_107 rfl ?_
              replace hf := zb1_s hf
              obtain ⟨v20, h21, hf⟩ := hf
              refine zr_get (zm_gR_g h21) zk9 (by decide) zl_548 dX8_gainOfCouple_108 ?_
              refine zr_iload 4 dX8_gainOfCouple_111 rfl ?_
              replace hf := zb1_s hf
              obtain ⟨v22, h23, hf⟩ := hf
              refine zr_iald h23 dX8_gainOfCouple_113 ?_
              refine zr_isub dX8_gainOfCouple_114 ?_
              cases hf
              exact zr_iret dX8_gainOfCouple_115
            · rw [if_neg hc] at hf
              refine zr_iconst (-1) dX8_gainOfCouple_98 (by decide) ?_
              cases hf
              exact zr_iret dX8_gainOfCouple_99
      · rw [if_neg hc] at hf
        refine zr_aload_n 0 dX8_gainOfCouple_19 rfl ?_
        refine zr_iconst 0 dX8_gainOfCouple_20 (by decide) ?_
        refine zr_iload_n 2 dX8_gainOfCouple_21 rfl ?_
        replace hf := zb1_s hf
        obtain ⟨v25, h24, hf⟩ := hf
        refine zr_callS [.ref x0, .int 0, .int x2_1] (cX8_bestLeft_ok h24) zvs_X8_bestLeft zl_555 zl_554 rfl (Nat.le_of_ble_eq_true rfl) (Nat.le_of_ble_eq_true rfl) (Nat.le_of_ble_eq_true rfl) (Nat.le_of_ble_eq_true rfl) dX8_gainOfCouple_22 rfl ?_
        refine zr_istore [(4, .int v25), (0, .ref x0), (1, .int x1), (2, .int x2_1), (3, .int x3_2), (5, .int x5_4), (6, .int x6_5)] dX8_gainOfCouple_25 (Nat.le_of_ble_eq_true rfl) rfl ?_
        refine zr_aload_n 1 dX8_gainOfCouple_27 rfl ?_
        refine zr_iconst 1 dX8_gainOfCouple_28 (by decide) ?_
        refine zr_iload_n 4 dX8_gainOfCouple_29 rfl ?_
        replace hf := zb1_s hf
        obtain ⟨v27, h26, hf⟩ := hf
        refine zr_callS [.ref x0, .int 1, .int x3_2] (cX8_bestLeft_ok h26) zvs_X8_bestLeft zl_555 zl_554 rfl (Nat.le_of_ble_eq_true rfl) (Nat.le_of_ble_eq_true rfl) (Nat.le_of_ble_eq_true rfl) (Nat.le_of_ble_eq_true rfl) dX8_gainOfCouple_30 rfl ?_
        refine zr_istore [(5, .int v27), (4, .int v25), (0, .ref x0), (1, .int x1), (2, .int x2_1), (3, .int x3_2), (6, .int x6_5)] dX8_gainOfCouple_33 (Nat.le_of_ble_eq_true rfl) rfl ?_
        refine zr_iload 1 dX8_gainOfCouple_35 rfl ?_
        refine zr_iconst (-1) dX8_gainOfCouple_37 (by decide) ?_
        refine zr_icmp_eq 47 dX8_gainOfCouple_38 (by decide) (fun hc => ?_) (fun hc => ?_)
        · rw [if_pos hc] at hf
          refine zr_iconst (-1) dX8_gainOfCouple_47 (by decide) ?_
          cases hf
          exact zr_iret dX8_gainOfCouple_48
        · rw [if_neg hc] at hf
          refine zr_iload 0 dX8_gainOfCouple_41 rfl ?_
          refine zr_iconst (-1) dX8_gainOfCouple_43 (by decide) ?_
          refine zr_icmp_ne 49 dX8_gainOfCouple_44 (by decide) (fun hc => ?_) (fun hc => ?_)
          · rw [if_neg hc] at hf
            refine zr_iload_n 4 dX8_gainOfCouple_49 rfl ?_
            refine zr_iconst 1 dX8_gainOfCouple_50 (by decide) ?_
            refine zr_iload 1 dX8_gainOfCouple_51 rfl ?_
            refine zr_ishl dX8_gainOfCouple_53 ?_
            refine zr_ior dX8_gainOfCouple_54 ?_
            refine zr_istore_n [(2, .int (x2_1 ||| (1 <<< (v25 &&& 31)))), (5, .int v27), (4, .int v25), (0, .ref x0), (1, .int x1), (3, .int x3_2), (6, .int x6_5)] dX8_gainOfCouple_55 (Nat.le_of_ble_eq_true rfl) rfl ?_
            refine zr_iload_n 5 dX8_gainOfCouple_56 rfl ?_
            refine zr_iconst 1 dX8_gainOfCouple_57 (by decide) ?_
            refine zr_iload 1 dX8_gainOfCouple_58 rfl ?_
            refine zr_ishl dX8_gainOfCouple_60 ?_
            refine zr_ior dX8_gainOfCouple_61 ?_
            refine zr_istore_n [(3, .int (x3_2 ||| (1 <<< (v27 &&& 31)))), (2, .int (x2_1 ||| (1 <<< (v25 &&& 31)))), (5, .int v27), (4, .int v25), (0, .ref x0), (1, .int x1), (6, .int x6_5)] dX8_gainOfCouple_62 (Nat.le_of_ble_eq_true rfl) rfl ?_
            refine zr_iinc (j := 6) (x6_5 + 1) [(6, .int (x6_5 + 1)), (3, .int (x3_2 ||| (1 <<< (v27 &&& 31)))), (2, .int (x2_1 ||| (1 <<< (v25 &&& 31)))), (5, .int v27), (4, .int v25), (0, .ref x0), (1, .int x1)] dX8_gainOfCouple_63 rfl rfl (Nat.le_of_ble_eq_true rfl) rfl ?_
            refine zr_goto 13 dX8_gainOfCouple_66 (by decide) ?_
            exact zr_lv [5, 6, 2, 1, 4, 3, 0] rfl (ih7 (x2_1 ||| (1 <<< (v25 &&& 31))) (x3_2 ||| (1 <<< (v27 &&& 31))) v25 v27 (x6_5 + 1) hf)
          · rw [if_pos hc] at hf
            refine zr_iconst (-1) dX8_gainOfCouple_47 (by decide) ?_
            cases hf
            exact zr_iret dX8_gainOfCouple_48
  exact zr_lv [5, 6, 4, 3, 2, 1, 0] rfl (hL28 _ 0 0 (-1) (-1) 0 hf)
