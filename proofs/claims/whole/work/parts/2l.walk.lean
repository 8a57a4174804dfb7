theorem zl_914 : Cond.fieldLink RX12 132 "TwoEchoesModel" "wrongAt" "I" ∈ zt := zt_at 1357 (by decide +kernel)
theorem dX12_fails_0 : decode cX12_fails 0 = .ok (.aload_n 0, 1) := by decide +kernel
theorem dX12_fails_1 : decode cX12_fails 1 = .ok (.aload_n 0, 1) := by decide +kernel
theorem dX12_fails_2 : decode cX12_fails 2 = .ok (.getfield 119, 3) := by decide +kernel
theorem dX12_fails_5 : decode cX12_fails 5 = .ok (.putfield 132, 3) := by decide +kernel
theorem dX12_fails_8 : decode cX12_fails 8 = .ok (.iconst 0, 1) := by decide +kernel
theorem dX12_fails_9 : decode cX12_fails 9 = .ok (.ireturn, 1) := by decide +kernel
noncomputable def fX12_fails (μ : zM) (x0 : Nat) : Option (Int32 × zM) := zgd (zm_ck μ 12 x0) <|
  zb1 (zm_gI μ 12 x0 12) fun v1 =>
  zb1 (zm_p μ 12 x0 16 (.int v1)) fun m3 =>
  some (0, m3)
theorem fX12_fails_ck {μ : zM} {x0 : Nat} {z : Int32 × zM} (h : fX12_fails μ x0 = some z) : zm_ck μ 12 x0 = true := (zgd_s h).1
set_option maxHeartbeats 4000000 in
set_option maxRecDepth 100000 in
theorem cX12_fails_ok {μ : zM} {x0 : Nat} {r : Int32} {mo : zM} (hf : fX12_fails μ x0 = some (r, mo)) : zC yX12_fails cX12_fails 1 (some .boolean) 0 0 0 [.ref x0] μ (some (.int r)) mo := by
  replace hf := (zgd_s hf).2
  refine zC.of (by decide) (Nat.le_of_ble_eq_true rfl) (fun K hin => ?_)
  clear hin
  show zz K cX12_fails (1, RX12, some .boolean, 0, 0, 0, some (.int r), mo) 0 0 0 [(0, .ref x0)] [] μ
  refine zr_aload_n 0 dX12_fails_0 rfl ?_
  refine zr_aload_n 0 dX12_fails_1 rfl ?_
  replace hf := zb1_s hf
  obtain ⟨v1, h2, hf⟩ := hf
  refine zr_get (zm_gI_g h2) zk12 (by decide) zl_910 dX12_fails_2 ?_
  replace hf := zb1_s hf
  obtain ⟨m3, h4, hf⟩ := hf
  refine zr_put h4 zk12 (by decide) zl_914 rfl rfl rfl dX12_fails_5 ?_
  refine zr_iconst 0 dX12_fails_8 (by decide) ?_
  cases hf
  exact zr_zret rfl dX12_fails_9
theorem zl_915 : Cond.fieldLink RX12 135 "TwoEchoesModel" "laterFault" "I" ∈ zt := zt_at 1358 (by decide +kernel)
theorem zl_916 : Cond.fieldLink RX12 138 "TwoEchoesModel" "laterPlace" "I" ∈ zt := zt_at 1359 (by decide +kernel)
theorem dX12_later_0 : decode cX12_later 0 = .ok (.aload_n 0, 1) := by decide +kernel
theorem dX12_later_1 : decode cX12_later 1 = .ok (.getfield 135, 3) := by decide +kernel
theorem dX12_later_4 : decode cX12_later 4 = .ok (.ifCond .eq 27, 3) := by decide +kernel
theorem dX12_later_7 : decode cX12_later 7 = .ok (.iload_n 2, 1) := by decide +kernel
theorem dX12_later_8 : decode cX12_later 8 = .ok (.aload_n 0, 1) := by decide +kernel
theorem dX12_later_9 : decode cX12_later 9 = .ok (.getfield 138, 3) := by decide +kernel
theorem dX12_later_12 : decode cX12_later 12 = .ok (.if_icmp .lt 19, 3) := by decide +kernel
theorem dX12_later_15 : decode cX12_later 15 = .ok (.iload_n 2, 1) := by decide +kernel
theorem dX12_later_16 : decode cX12_later 16 = .ok (.aload_n 0, 1) := by decide +kernel
theorem dX12_later_17 : decode cX12_later 17 = .ok (.getfield 138, 3) := by decide +kernel
theorem dX12_later_20 : decode cX12_later 20 = .ok (.if_icmp .ne 21, 3) := by decide +kernel
theorem dX12_later_23 : decode cX12_later 23 = .ok (.iload_n 1, 1) := by decide +kernel
theorem dX12_later_24 : decode cX12_later 24 = .ok (.aload_n 0, 1) := by decide +kernel
theorem dX12_later_25 : decode cX12_later 25 = .ok (.getfield 135, 3) := by decide +kernel
theorem dX12_later_28 : decode cX12_later 28 = .ok (.if_icmp .ge 13, 3) := by decide +kernel
theorem dX12_later_31 : decode cX12_later 31 = .ok (.aload_n 0, 1) := by decide +kernel
theorem dX12_later_32 : decode cX12_later 32 = .ok (.iload_n 1, 1) := by decide +kernel
theorem dX12_later_33 : decode cX12_later 33 = .ok (.putfield 135, 3) := by decide +kernel
theorem dX12_later_36 : decode cX12_later 36 = .ok (.aload_n 0, 1) := by decide +kernel
theorem dX12_later_37 : decode cX12_later 37 = .ok (.iload_n 2, 1) := by decide +kernel
theorem dX12_later_38 : decode cX12_later 38 = .ok (.putfield 138, 3) := by decide +kernel
theorem dX12_later_41 : decode cX12_later 41 = .ok (.return_, 1) := by decide +kernel
noncomputable def fX12_later (μ : zM) (x0 : Nat) (x1 : Int32) (x2 : Int32) : Option (zM) := zgd (zm_ck μ 12 x0) <|
  zb1 (zm_gI μ 12 x0 17) fun v1 =>
  zc1 (if v1 = 0 then (
  zb1 (zm_p μ 12 x0 17 (.int x1)) fun m5 =>
  zb1 (zm_p m5 12 x0 18 (.int x2)) fun m7 =>
  some m7)
  else (
  zb1 (zm_gI μ 12 x0 18) fun v9 =>
  if x2 < v9 then (
  zb1 (zm_p μ 12 x0 17 (.int x1)) fun m11 =>
  zb1 (zm_p m11 12 x0 18 (.int x2)) fun m13 =>
  some m13)
  else (
  zb1 (zm_gI μ 12 x0 18) fun v15 =>
  if x2 = v15 then (
  zb1 (zm_gI μ 12 x0 17) fun v17 =>
  if v17 ≤ x1 then (
  some μ)
  else (
  zb1 (zm_p μ 12 x0 17 (.int x1)) fun m19 =>
  zb1 (zm_p m19 12 x0 18 (.int x2)) fun m21 =>
  some m21))
  else (
  some μ))) : Option (zM)) fun (m3 : zM) =>
  some m3
theorem fX12_later_ck {μ : zM} {x0 : Nat} {x1 : Int32} {x2 : Int32} {z : zM} (h : fX12_later μ x0 x1 x2 = some z) : zm_ck μ 12 x0 = true := (zgd_s h).1
set_option maxHeartbeats 4000000 in
set_option maxRecDepth 100000 in
theorem cX12_later_ok {μ : zM} {x0 : Nat} {x1 : Int32} {x2 : Int32} {mo : zM} (hf : fX12_later μ x0 x1 x2 = some mo) : zC yX12_later cX12_later 3 (none) 0 0 0 [.ref x0, .int x1, .int x2] μ (none) mo := by
  replace hf := (zgd_s hf).2
  refine zC.of (by decide) (Nat.le_of_ble_eq_true rfl) (fun K hin => ?_)
  clear hin
  show zz K cX12_later (3, RX12, none, 0, 0, 0, none, mo) 0 0 0 [(0, .ref x0), (1, .int x1), (2, .int x2)] [] μ
  refine zr_aload_n 0 dX12_later_0 rfl ?_
  replace hf := zb1_s hf
  obtain ⟨v1, h2, hf⟩ := hf
  refine zr_get (zm_gI_g h2) zk12 (by decide) zl_915 dX12_later_1 ?_
  replace hf := zc1_s hf
  obtain ⟨m3, hg, hf⟩ := hf
  have hj4 : zz K cX12_later (3, RX12, none, 0, 0, 0, none, mo) 0 0 41 [] [] m3 := by
    cases hf
    exact zr_vret dX12_later_41
  clear hf
  have hf := hg
  clear hg
  refine zr_if_eq 31 dX12_later_4 (by decide) (fun hc => ?_) (fun hc => ?_)
  · rw [if_pos hc] at hf
    refine zr_aload_n 0 dX12_later_31 rfl ?_
    refine zr_iload_n 1 dX12_later_32 rfl ?_
    replace hf := zb1_s hf
    obtain ⟨m5, h6, hf⟩ := hf
    refine zr_put h6 zk12 (by decide) zl_915 rfl rfl rfl dX12_later_33 ?_
    refine zr_aload_n 0 dX12_later_36 rfl ?_
    refine zr_iload_n 2 dX12_later_37 rfl ?_
    replace hf := zb1_s hf
    obtain ⟨m7, h8, hf⟩ := hf
    refine zr_put h8 zk12 (by decide) zl_916 rfl rfl rfl dX12_later_38 ?_
    cases hf
    exact zr_lv [] rfl hj4
  · rw [if_neg hc] at hf
    refine zr_iload_n 2 dX12_later_7 rfl ?_
    refine zr_aload_n 0 dX12_later_8 rfl ?_
    replace hf := zb1_s hf
    obtain ⟨v9, h10, hf⟩ := hf
    refine zr_get (zm_gI_g h10) zk12 (by decide) zl_916 dX12_later_9 ?_
    refine zr_icmp_lt 31 dX12_later_12 (by decide) (fun hc => ?_) (fun hc => ?_)
    · rw [if_pos hc] at hf
      refine zr_aload_n 0 dX12_later_31 rfl ?_
      refine zr_iload_n 1 dX12_later_32 rfl ?_
      replace hf := zb1_s hf
      obtain ⟨m11, h12, hf⟩ := hf
      refine zr_put h12 zk12 (by decide) zl_915 rfl rfl rfl dX12_later_33 ?_
      refine zr_aload_n 0 dX12_later_36 rfl ?_
      refine zr_iload_n 2 dX12_later_37 rfl ?_
      replace hf := zb1_s hf
      obtain ⟨m13, h14, hf⟩ := hf
      refine zr_put h14 zk12 (by decide) zl_916 rfl rfl rfl dX12_later_38 ?_
      cases hf
      exact zr_lv [] rfl hj4
    · rw [if_neg hc] at hf
      refine zr_iload_n 2 dX12_later_15 rfl ?_
      refine zr_aload_n 0 dX12_later_16 rfl ?_
      replace hf := zb1_s hf
      obtain ⟨v15, h16, hf⟩ := hf
      refine zr_get (zm_gI_g h16) zk12 (by decide) zl_916 dX12_later_17 ?_
      refine zr_icmp_ne 41 dX12_later_20 (by decide) (fun hc => ?_) (fun hc => ?_)
      · rw [if_neg hc] at hf
        cases hf
        exact zr_lv [] rfl hj4
      · rw [if_pos hc] at hf
        refine zr_iload_n 1 dX12_later_23 rfl ?_
        refine zr_aload_n 0 dX12_later_24 rfl ?_
        replace hf := zb1_s hf
        obtain ⟨v17, h18, hf⟩ := hf
        refine zr_get (zm_gI_g h18) zk12 (by decide) zl_915 dX12_later_25 ?_
        refine zr_icmp_ge 41 dX12_later_28 (by decide) (fun hc => ?_) (fun hc => ?_)
        · rw [if_pos hc] at hf
          cases hf
          exact zr_lv [] rfl hj4
        · rw [if_neg hc] at hf
          refine zr_aload_n 0 dX12_later_31 rfl ?_
          refine zr_iload_n 1 dX12_later_32 rfl ?_
          replace hf := zb1_s hf
          obtain ⟨m19, h20, hf⟩ := hf
          refine zr_put h20 zk12 (by decide) zl_915 rfl rfl rfl dX12_later_33 ?_
          refine zr_aload_n 0 dX12_later_36 rfl ?_
          refine zr_iload_n 2 dX12_later_37 rfl ?_
          replace hf := zb1_s hf
          obtain ⟨m21, h22, hf⟩ := hf
          refine zr_put h22 zk12 (by decide) zl_916 rfl rfl rfl dX12_later_38 ?_
          cases hf
          exact zr_lv [] rfl hj4
theorem zl_917 : Cond.code yX12_token cX12_token 3 (none) ∈ zt := zt_at 1539 (by decide +kernel)
theorem zvs_X12_token : zvS yX12_token cX12_token 3 (none) 0 := ⟨zl_917, zl_893, ⟨by decide +kernel, by decide +kernel, by decide +kernel⟩, by decide⟩
theorem zl_918 : Cond.methodLink RX12 153 yX12_token ∈ zt := zt_at 1536 (by decide +kernel)
theorem zl_919 : Cond.instanceMethod yX12_token ∈ zt := zt_at 1538 (by decide +kernel)
theorem zl_920 : Cond.selects RX12 yX12_token yX12_token ∈ zt := zt_at 51 (by decide +kernel)
theorem zl_921 : Cond.code yX12_later cX12_later 3 (none) ∈ zt := zt_at 1579 (by decide +kernel)
theorem zvs_X12_later : zvS yX12_later cX12_later 3 (none) 2 := ⟨zl_921, zl_893, ⟨by decide +kernel, by decide +kernel, by decide +kernel⟩, by decide⟩
theorem zl_922 : Cond.methodLink RX12 145 yX12_later ∈ zt := zt_at 1576 (by decide +kernel)
theorem zl_923 : Cond.instanceMethod yX12_later ∈ zt := zt_at 1578 (by decide +kernel)
theorem zl_924 : Cond.selects RX12 yX12_later yX12_later ∈ zt := zt_at 58 (by decide +kernel)
theorem zl_925 : Cond.fieldLink RX12 149 "TwoEchoesModel" "good" "Z" ∈ zt := zt_at 1363 (by decide +kernel)
theorem zl_926 : Cond.code yX12_fails cX12_fails 1 (some .boolean) ∈ zt := zt_at 1571 (by decide +kernel)
theorem zvs_X12_fails : zvS yX12_fails cX12_fails 1 (some .boolean) 0 := ⟨zl_926, zl_893, ⟨by decide +kernel, by decide +kernel, by decide +kernel⟩, by decide⟩
theorem zl_927 : Cond.methodLink RX12 141 yX12_fails ∈ zt := zt_at 1568 (by decide +kernel)
theorem zl_928 : Cond.instanceMethod yX12_fails ∈ zt := zt_at 1570 (by decide +kernel)
theorem zl_929 : Cond.selects RX12 yX12_fails yX12_fails ∈ zt := zt_at 56 (by decide +kernel)
theorem dX12_take_0 : decode cX12_take 0 = .ok (.aload_n 0, 1) := by decide +kernel
theorem dX12_take_1 : decode cX12_take 1 = .ok (.getfield 126, 3) := by decide +kernel
theorem dX12_take_4 : decode cX12_take 4 = .ok (.iconst 3, 1) := by decide +kernel
theorem dX12_take_5 : decode cX12_take 5 = .ok (.if_icmp .eq 8, 3) := by decide +kernel
theorem dX12_take_8 : decode cX12_take 8 = .ok (.aload_n 0, 1) := by decide +kernel
theorem dX12_take_9 : decode cX12_take 9 = .ok (.invokevirtual 141, 3) := by decide +kernel
theorem dX12_take_12 : decode cX12_take 12 = .ok (.ireturn, 1) := by decide +kernel
theorem dX12_take_13 : decode cX12_take 13 = .ok (.aload_n 0, 1) := by decide +kernel
theorem dX12_take_14 : decode cX12_take 14 = .ok (.getfield 41, 3) := by decide +kernel
theorem dX12_take_17 : decode cX12_take 17 = .ok (.iload_n 1, 1) := by decide +kernel
theorem dX12_take_18 : decode cX12_take 18 = .ok (.aload_n 0, 1) := by decide +kernel
theorem dX12_take_19 : decode cX12_take 19 = .ok (.getfield 129, 3) := by decide +kernel
theorem dX12_take_22 : decode cX12_take 22 = .ok (.iastore, 1) := by decide +kernel
theorem dX12_take_23 : decode cX12_take 23 = .ok (.aload_n 0, 1) := by decide +kernel
theorem dX12_take_24 : decode cX12_take 24 = .ok (.getfield 129, 3) := by decide +kernel
theorem dX12_take_27 : decode cX12_take 27 = .ok (.iload_n 2, 1) := by decide +kernel
theorem dX12_take_28 : decode cX12_take 28 = .ok (.iload_n 3, 1) := by decide +kernel
theorem dX12_take_29 : decode cX12_take 29 = .ok (.invokestatic 101, 3) := by decide +kernel
theorem dX12_take_32 : decode cX12_take 32 = .ok (.ifCond .ne 17, 3) := by decide +kernel
theorem dX12_take_35 : decode cX12_take 35 = .ok (.aload_n 0, 1) := by decide +kernel
theorem dX12_take_36 : decode cX12_take 36 = .ok (.iconst 2, 1) := by decide +kernel
theorem dX12_take_37 : decode cX12_take 37 = .ok (.aload_n 0, 1) := by decide +kernel
theorem dX12_take_38 : decode cX12_take 38 = .ok (.getfield 119, 3) := by decide +kernel
theorem dX12_take_41 : decode cX12_take 41 = .ok (.invokevirtual 145, 3) := by decide +kernel
theorem dX12_take_44 : decode cX12_take 44 = .ok (.aload_n 0, 1) := by decide +kernel
theorem dX12_take_45 : decode cX12_take 45 = .ok (.iconst 0, 1) := by decide +kernel
theorem dX12_take_46 : decode cX12_take 46 = .ok (.putfield 149, 3) := by decide +kernel
theorem dX12_take_49 : decode cX12_take 49 = .ok (.aload_n 0, 1) := by decide +kernel
theorem dX12_take_50 : decode cX12_take 50 = .ok (.invokevirtual 153, 3) := by decide +kernel
theorem dX12_take_53 : decode cX12_take 53 = .ok (.iconst 1, 1) := by decide +kernel
theorem dX12_take_54 : decode cX12_take 54 = .ok (.ireturn, 1) := by decide +kernel
noncomputable def fX12_take (μ : zM) (x0 : Nat) (x1 : Int32) (x2 : Int32) (x3 : Int32) : Option (Int32 × zM) := zgd (zm_ck μ 12 x0) <|
  zb1 (zm_gI μ 12 x0 13) fun v1 =>
  if v1 = 3 then (
  zb1 (zm_gR μ 12 x0 20) fun v3 =>
  zb1 (zm_gI μ 12 x0 14) fun v5 =>
  zb1 (zm_sI μ 0 v3 x1 v5) fun m7 =>
  zb1 (zm_gI m7 12 x0 14) fun v9 =>
  zb1 (fX12_in m7 v9 x2 x3) fun v12 =>
  zc1 (if v12 = 0 then (
  zb1 (zm_gI m7 12 x0 12) fun v17 =>
  zb1 (fX12_later m7 x0 2 v17) fun m20 =>
  zb1 (zm_p m20 12 x0 22 (.int 0)) fun m21 =>
  some m21)
  else (
  some m7) : Option (zM)) fun (m13 : zM) =>
  zb1 (fX12_token m13 x0) fun m16 =>
  some (1, m16))
  else (
  zb2 (fX12_fails μ x0) fun v25 m24 =>
  zb1 (zbz v25) fun v26 =>
  some (v26, m24))
theorem fX12_take_ck {μ : zM} {x0 : Nat} {x1 : Int32} {x2 : Int32} {x3 : Int32} {z : Int32 × zM} (h : fX12_take μ x0 x1 x2 x3 = some z) : zm_ck μ 12 x0 = true := (zgd_s h).1
set_option maxHeartbeats 4000000 in
set_option maxRecDepth 100000 in
theorem cX12_take_ok {μ : zM} {x0 : Nat} {x1 : Int32} {x2 : Int32} {x3 : Int32} {r : Int32} {mo : zM} (hf : fX12_take μ x0 x1 x2 x3 = some (r, mo)) : zC yX12_take cX12_take 4 (some .boolean) 2 0 0 [.ref x0, .int x1, .int x2, .int x3] μ (some (.int r)) mo := by
  replace hf := (zgd_s hf).2
  refine zC.of (by decide) (Nat.le_of_ble_eq_true rfl) (fun K hin => ?_)
  clear hin
  show zz K cX12_take (4, RX12, some .boolean, 2, 0, 0, some (.int r), mo) 0 0 0 [(0, .ref x0), (1, .int x1), (2, .int x2), (3, .int x3)] [] μ
  refine zr_aload_n 0 dX12_take_0 rfl ?_
  replace hf := zb1_s hf
  obtain ⟨v1, h2, hf⟩ := hf
  refine zr_get (zm_gI_g h2) zk12 (by decide) zl_912 dX12_take_1 ?_
  refine zr_iconst 3 dX12_take_4 (by decide) ?_
  refine zr_icmp_eq 13 dX12_take_5 (by decide) (fun hc => ?_) (fun hc => ?_)
  · rw [if_pos hc] at hf
    refine zr_aload_n 0 dX12_take_13 rfl ?_
    replace hf := zb1_s hf
    obtain ⟨v3, h4, hf⟩ := hf
    refine zr_get (zm_gR_g h4) zk12 (by decide) zl_874 dX12_take_14 ?_
    refine zr_iload_n 1 dX12_take_17 rfl ?_
    refine zr_aload_n 0 dX12_take_18 rfl ?_
    replace hf := zb1_s hf
    obtain ⟨v5, h6, hf⟩ := hf
    refine zr_get (zm_gI_g h6) zk12 (by decide) zl_913 dX12_take_19 ?_
    replace hf := zb1_s hf
    obtain ⟨m7, h8, hf⟩ := hf
    refine zr_iast h8 dX12_take_22 ?_
    refine zr_aload_n 0 dX12_take_23 rfl ?_
    replace hf := zb1_s hf
    obtain ⟨v9, h10, hf⟩ := hf
    refine zr_get (zm_gI_g h10) zk12 (by decide) zl_913 dX12_take_24 ?_
    refine zr_iload_n 2 dX12_take_27 rfl ?_
    refine zr_iload_n 3 dX12_take_28 rfl ?_
    replace hf := zb1_s hf
    obtain ⟨v12, h11, hf⟩ := hf
    refine zr_callS [.int v9, .int x2, .int x3] (cX12_in_ok h11) zvs_X12_in zl_898 zl_897 rfl (Nat.le_of_ble_eq_true rfl) (Nat.le_of_ble_eq_true rfl) (Nat.le_of_ble_eq_true rfl) (Nat.le_of_ble_eq_true rfl) dX12_take_29 rfl ?_
    replace hf := zc1_s hf
    obtain ⟨m13, hg, hf⟩ := hf
    have hj14 : zz K cX12_take (4, RX12, some .boolean, 2, 0, 0, some (.int r), mo) 0 0 49 [(0, .ref x0)] [] m13 := by
      refine zr_aload_n 0 dX12_take_49 rfl ?_
      replace hf := zb1_s hf
      obtain ⟨m16, h15, hf⟩ := hf
      refine zr_callV (ci := 12) [] (cX12_token_ok h15) zvs_X12_token zl_919 zl_920 (fX12_token_ck h15) rfl rfl zl_918 rfl (Nat.le_of_ble_eq_true rfl) (Nat.le_of_ble_eq_true rfl) (Nat.le_of_ble_eq_true rfl) (Nat.le_of_ble_eq_true rfl) dX12_take_50 rfl ?_
      refine zr_iconst 1 dX12_take_53 (by decide) ?_
      cases hf
      exact zr_zret rfl dX12_take_54
    clear hf
    have hf := hg
    clear hg
    refine zr_if_ne 49 dX12_take_32 (by decide) (fun hc => ?_) (fun hc => ?_)
    · rw [if_neg hc] at hf
      cases hf
      exact zr_lv [0] rfl hj14
    · rw [if_pos hc] at hf
      refine zr_aload_n 0 dX12_take_35 rfl ?_
      refine zr_iconst 2 dX12_take_36 (by decide) ?_
      refine zr_aload_n 0 dX12_take_37 rfl ?_
      replace hf := zb1_s hf
      obtain ⟨v17, h18, hf⟩ := hf
      refine zr_get (zm_gI_g h18) zk12 (by decide) zl_910 dX12_take_38 ?_
      replace hf := zb1_s hf
      obtain ⟨m20, h19, hf⟩ := hf
      refine zr_callV (ci := 12) [.int 2, .int v17] (cX12_later_ok h19) zvs_X12_later zl_923 zl_924 (fX12_later_ck h19) rfl rfl zl_922 rfl (Nat.le_of_ble_eq_true rfl) (Nat.le_of_ble_eq_true rfl) (Nat.le_of_ble_eq_true rfl) (Nat.le_of_ble_eq_true rfl) dX12_take_41 rfl ?_
      refine zr_aload_n 0 dX12_take_44 rfl ?_
      refine zr_iconst 0 dX12_take_45 (by decide) ?_
      replace hf := zb1_s hf
      obtain ⟨m21, h22, hf⟩ := hf
      refine zr_put h22 zk12 (by decide) zl_925 rfl (by decide) (by decide) dX12_take_46 ?_
      cases hf
      exact zr_lv [0] rfl hj14
  · rw [if_neg hc] at hf
    refine zr_aload_n 0 dX12_take_8 rfl ?_
    replace hf := zb2_s hf
    obtain ⟨v25, m24, h23, hf⟩ := hf
    refine zr_callV (ci := 12) [] (cX12_fails_ok h23) zvs_X12_fails zl_928 zl_929 (fX12_fails_ck h23) rfl rfl zl_927 rfl (Nat.le_of_ble_eq_true rfl) (Nat.le_of_ble_eq_true rfl) (Nat.le_of_ble_eq_true rfl) (Nat.le_of_ble_eq_true rfl) dX12_take_9 rfl ?_
    replace hf := zb1_s hf
    obtain ⟨v26, hn27, hf⟩ := hf
    replace hn27 := zbz_s hn27
    obtain ⟨hn27, rfl⟩ := hn27
    cases hf
    exact zr_zret hn27 dX12_take_12
theorem dX12_full_0 : decode cX12_full 0 = .ok (.aload_n 0, 1) := by decide +kernel
theorem dX12_full_1 : decode cX12_full 1 = .ok (.getfield 38, 3) := by decide +kernel
theorem dX12_full_4 : decode cX12_full 4 = .ok (.iload_n 1, 1) := by decide +kernel
theorem dX12_full_5 : decode cX12_full 5 = .ok (.iaload, 1) := by decide +kernel
theorem dX12_full_6 : decode cX12_full 6 = .ok (.iload_n 2, 1) := by decide +kernel
theorem dX12_full_7 : decode cX12_full 7 = .ok (.if_icmp .ne 9, 3) := by decide +kernel
theorem dX12_full_10 : decode cX12_full 10 = .ok (.aload_n 0, 1) := by decide +kernel
theorem dX12_full_11 : decode cX12_full 11 = .ok (.iconst 3, 1) := by decide +kernel
theorem dX12_full_12 : decode cX12_full 12 = .ok (.iload_n 3, 1) := by decide +kernel
theorem dX12_full_13 : decode cX12_full 13 = .ok (.invokevirtual 145, 3) := by decide +kernel
theorem dX12_full_16 : decode cX12_full 16 = .ok (.return_, 1) := by decide +kernel
noncomputable def fX12_full (μ : zM) (x0 : Nat) (x1 : Int32) (x2 : Int32) (x3 : Int32) : Option (zM) := zgd (zm_ck μ 12 x0) <|
  zb1 (zm_gR μ 12 x0 19) fun v1 =>
  zb1 (zm_aI μ 0 v1 x1) fun v3 =>
  zc1 (if v3 = x2 then (
  zb1 (fX12_later μ x0 3 x3) fun m8 =>
  some m8)
  else (
  some μ) : Option (zM)) fun (m5 : zM) =>
  some m5
theorem fX12_full_ck {μ : zM} {x0 : Nat} {x1 : Int32} {x2 : Int32} {x3 : Int32} {z : zM} (h : fX12_full μ x0 x1 x2 x3 = some z) : zm_ck μ 12 x0 = true := (zgd_s h).1
set_option maxHeartbeats 4000000 in
set_option maxRecDepth 100000 in
theorem cX12_full_ok {μ : zM} {x0 : Nat} {x1 : Int32} {x2 : Int32} {x3 : Int32} {mo : zM} (hf : fX12_full μ x0 x1 x2 x3 = some mo) : zC yX12_full cX12_full 4 (none) 1 0 0 [.ref x0, .int x1, .int x2, .int x3] μ (none) mo := by
  replace hf := (zgd_s hf).2
  refine zC.of (by decide) (Nat.le_of_ble_eq_true rfl) (fun K hin => ?_)
  clear hin
  show zz K cX12_full (4, RX12, none, 1, 0, 0, none, mo) 0 0 0 [(0, .ref x0), (1, .int x1), (2, .int x2), (3, .int x3)] [] μ
  refine zr_aload_n 0 dX12_full_0 rfl ?_
  replace hf := zb1_s hf
  obtain ⟨v1, h2, hf⟩ := hf
  refine zr_get (zm_gR_g h2) zk12 (by decide) zl_873 dX12_full_1 ?_
  refine zr_iload_n 1 dX12_full_4 rfl ?_
  replace hf := zb1_s hf
  obtain ⟨v3, h4, hf⟩ := hf
  refine zr_iald h4 dX12_full_5 ?_
  refine zr_iload_n 2 dX12_full_6 rfl ?_
  replace hf := zc1_s hf
  obtain ⟨m5, hg, hf⟩ := hf
  have hj6 : zz K cX12_full (4, RX12, none, 1, 0, 0, none, mo) 0 0 16 [] [] m5 := by
    cases hf
    exact zr_vret dX12_full_16
  clear hf
  have hf := hg
  clear hg
  refine zr_icmp_ne 16 dX12_full_7 (by decide) (fun hc => ?_) (fun hc => ?_)
  · rw [if_neg hc] at hf
    cases hf
    exact zr_lv [] rfl hj6
  · rw [if_pos hc] at hf
    refine zr_aload_n 0 dX12_full_10 rfl ?_
    refine zr_iconst 3 dX12_full_11 (by decide) ?_
    refine zr_iload_n 3 dX12_full_12 rfl ?_
    replace hf := zb1_s hf
    obtain ⟨m8, h7, hf⟩ := hf
    refine zr_callV (ci := 12) [.int 3, .int x3] (cX12_later_ok h7) zvs_X12_later zl_923 zl_924 (fX12_later_ck h7) rfl rfl zl_922 rfl (Nat.le_of_ble_eq_true rfl) (Nat.le_of_ble_eq_true rfl) (Nat.le_of_ble_eq_true rfl) (Nat.le_of_ble_eq_true rfl) dX12_full_13 rfl ?_
    cases hf
    exact zr_lv [] rfl hj6
theorem zl_930 : Cond.constantLong RX12 156 126879447934322 ∈ zt := zt_at 1559 (by decide +kernel)
theorem zl_931 : Cond.constantLong RX12 158 422877685106 ∈ zt := zt_at 1560 (by decide +kernel)
theorem zl_932 : Cond.constantLong RX12 160 8102650148546962802 ∈ zt := zt_at 1561 (by decide +kernel)
theorem dX12_kindBy_0 : decode cX12_kindBy 0 = .ok (.lload_n 0, 1) := by decide +kernel
theorem dX12_kindBy_1 : decode cX12_kindBy 1 = .ok (.ldc2_w 156, 3) := by decide +kernel
theorem dX12_kindBy_4 : decode cX12_kindBy 4 = .ok (.lcmp, 1) := by decide +kernel
theorem dX12_kindBy_5 : decode cX12_kindBy 5 = .ok (.ifCond .ne 7, 3) := by decide +kernel
theorem dX12_kindBy_8 : decode cX12_kindBy 8 = .ok (.iconst 0, 1) := by decide +kernel
theorem dX12_kindBy_9 : decode cX12_kindBy 9 = .ok (.goto 28, 3) := by decide +kernel
theorem dX12_kindBy_12 : decode cX12_kindBy 12 = .ok (.lload_n 0, 1) := by decide +kernel
theorem dX12_kindBy_13 : decode cX12_kindBy 13 = .ok (.ldc2_w 158, 3) := by decide +kernel
theorem dX12_kindBy_16 : decode cX12_kindBy 16 = .ok (.lcmp, 1) := by decide +kernel
theorem dX12_kindBy_17 : decode cX12_kindBy 17 = .ok (.ifCond .ne 7, 3) := by decide +kernel
theorem dX12_kindBy_20 : decode cX12_kindBy 20 = .ok (.iconst 1, 1) := by decide +kernel
theorem dX12_kindBy_21 : decode cX12_kindBy 21 = .ok (.goto 16, 3) := by decide +kernel
theorem dX12_kindBy_24 : decode cX12_kindBy 24 = .ok (.lload_n 0, 1) := by decide +kernel
theorem dX12_kindBy_25 : decode cX12_kindBy 25 = .ok (.ldc2_w 160, 3) := by decide +kernel
theorem dX12_kindBy_28 : decode cX12_kindBy 28 = .ok (.lcmp, 1) := by decide +kernel
theorem dX12_kindBy_29 : decode cX12_kindBy 29 = .ok (.ifCond .ne 7, 3) := by decide +kernel
theorem dX12_kindBy_32 : decode cX12_kindBy 32 = .ok (.iconst 2, 1) := by decide +kernel
theorem dX12_kindBy_33 : decode cX12_kindBy 33 = .ok (.goto 4, 3) := by decide +kernel
theorem dX12_kindBy_36 : decode cX12_kindBy 36 = .ok (.iconst (-1), 1) := by decide +kernel
theorem dX12_kindBy_37 : decode cX12_kindBy 37 = .ok (.ireturn, 1) := by decide +kernel
noncomputable def fX12_kindBy (μ : zM) (x0 : Int64) : Option (Int32) :=
  zb1 (if (lg_cmp x0 126879447934322) = 0 then (
  some 0)
  else (
  if (lg_cmp x0 422877685106) = 0 then (
  some 1)
  else (
  if (lg_cmp x0 8102650148546962802) = 0 then (
  some 2)
  else (
  some (-1)))) : Option (Int32)) fun (s1 : Int32) =>
  some s1
set_option maxHeartbeats 4000000 in
set_option maxRecDepth 100000 in
theorem cX12_kindBy_ok {μ : zM} {x0 : Int64} {r : Int32} (hf : fX12_kindBy μ x0 = some r) : zC yX12_kindBy cX12_kindBy 2 (some .int) 0 0 0 [.long x0] μ (some (.int r)) μ := by
  unfold fX12_kindBy at hf
  refine zC.of (by decide) (Nat.le_of_ble_eq_true rfl) (fun K hin => ?_)
  clear hin
  show zz K cX12_kindBy (2, RX12, some .int, 0, 0, 0, some (.int r), μ) 0 0 0 [(0, .long x0)] [] μ
  refine zr_lload_n 0 dX12_kindBy_0 rfl ?_
  refine zr_ldc2 zl_930 dX12_kindBy_1 ?_
  refine zr_lcmp dX12_kindBy_4 ?_
  replace hf := zb1_s hf
  obtain ⟨s1, hg, hf⟩ := hf
  have hj2 : zz K cX12_kindBy (2, RX12, some .int, 0, 0, 0, some (.int r), μ) 0 0 37 [] [.int s1] μ := by
    cases hf
    exact zr_iret dX12_kindBy_37
  clear hf
  have hf := hg
  clear hg
  refine zr_if_ne 12 dX12_kindBy_5 (by decide) (fun hc => ?_) (fun hc => ?_)
  · rw [if_neg hc] at hf
    refine zr_lload_n 0 dX12_kindBy_12 rfl ?_
    refine zr_ldc2 zl_931 dX12_kindBy_13 ?_
    refine zr_lcmp dX12_kindBy_16 ?_
    refine zr_if_ne 24 dX12_kindBy_17 (by decide) (fun hc => ?_) (fun hc => ?_)
    · rw [if_neg hc] at hf
      refine zr_lload_n 0 dX12_kindBy_24 rfl ?_
      refine zr_ldc2 zl_932 dX12_kindBy_25 ?_
      refine zr_lcmp dX12_kindBy_28 ?_
      refine zr_if_ne 36 dX12_kindBy_29 (by decide) (fun hc => ?_) (fun hc => ?_)
      · rw [if_neg hc] at hf
        refine zr_iconst (-1) dX12_kindBy_36 (by decide) ?_
        cases hf
        exact zr_lv [] rfl hj2
      · rw [if_pos hc] at hf
        refine zr_iconst 2 dX12_kindBy_32 (by decide) ?_
        refine zr_goto 37 dX12_kindBy_33 (by decide) ?_
        cases hf
        exact zr_lv [] rfl hj2
    · rw [if_pos hc] at hf
      refine zr_iconst 1 dX12_kindBy_20 (by decide) ?_
      refine zr_goto 37 dX12_kindBy_21 (by decide) ?_
      cases hf
      exact zr_lv [] rfl hj2
  · rw [if_pos hc] at hf
    refine zr_iconst 0 dX12_kindBy_8 (by decide) ?_
    refine zr_goto 37 dX12_kindBy_9 (by decide) ?_
    cases hf
    exact zr_lv [] rfl hj2
theorem zl_933 : Cond.code yX12_take cX12_take 4 (some .boolean) ∈ zt := zt_at 1587 (by decide +kernel)
theorem zvs_X12_take : zvS yX12_take cX12_take 4 (some .boolean) 3 := ⟨zl_933, zl_893, ⟨by decide +kernel, by decide +kernel, by decide +kernel⟩, by decide⟩
theorem zl_934 : Cond.methodLink RX12 162 yX12_take ∈ zt := zt_at 1584 (by decide +kernel)
theorem zl_935 : Cond.instanceMethod yX12_take ∈ zt := zt_at 1586 (by decide +kernel)
theorem zl_936 : Cond.selects RX12 yX12_take yX12_take ∈ zt := zt_at 60 (by decide +kernel)
theorem zl_937 : Cond.fieldLink RX12 165 "TwoEchoesModel" "farPlace" "I" ∈ zt := zt_at 1362 (by decide +kernel)
theorem zl_938 : Cond.code yX12_greater cX12_greater 2 (some .int) ∈ zt := zt_at 1590 (by decide +kernel)
theorem zvs_X12_greater : zvS yX12_greater cX12_greater 2 (some .int) 2 := ⟨zl_938, zl_893, ⟨by decide +kernel, by decide +kernel, by decide +kernel⟩, by decide⟩
theorem zl_939 : Cond.methodLink RX12 168 yX12_greater ∈ zt := zt_at 1588 (by decide +kernel)
theorem zl_940 : Cond.static yX12_greater ∈ zt := zt_at 1589 (by decide +kernel)
theorem dX12_personLine_0 : decode cX12_personLine 0 = .ok (.aload_n 0, 1) := by decide +kernel
theorem dX12_personLine_1 : decode cX12_personLine 1 = .ok (.iconst 0, 1) := by decide +kernel
theorem dX12_personLine_2 : decode cX12_personLine 2 = .ok (.iconst 0, 1) := by decide +kernel
theorem dX12_personLine_3 : decode cX12_personLine 3 = .ok (.bipush 30, 2) := by decide +kernel
theorem dX12_personLine_5 : decode cX12_personLine 5 = .ok (.invokevirtual 162, 3) := by decide +kernel
theorem dX12_personLine_8 : decode cX12_personLine 8 = .ok (.ifCond .eq 14, 3) := by decide +kernel
theorem dX12_personLine_11 : decode cX12_personLine 11 = .ok (.aload_n 0, 1) := by decide +kernel
theorem dX12_personLine_12 : decode cX12_personLine 12 = .ok (.iconst 1, 1) := by decide +kernel
theorem dX12_personLine_13 : decode cX12_personLine 13 = .ok (.iconst 0, 1) := by decide +kernel
theorem dX12_personLine_14 : decode cX12_personLine 14 = .ok (.bipush 99, 2) := by decide +kernel
theorem dX12_personLine_16 : decode cX12_personLine 16 = .ok (.invokevirtual 162, 3) := by decide +kernel
theorem dX12_personLine_19 : decode cX12_personLine 19 = .ok (.ifCond .ne 5, 3) := by decide +kernel
theorem dX12_personLine_22 : decode cX12_personLine 22 = .ok (.iconst 0, 1) := by decide +kernel
theorem dX12_personLine_23 : decode cX12_personLine 23 = .ok (.ireturn, 1) := by decide +kernel
theorem dX12_personLine_24 : decode cX12_personLine 24 = .ok (.aload_n 0, 1) := by decide +kernel
theorem dX12_personLine_25 : decode cX12_personLine 25 = .ok (.aload_n 0, 1) := by decide +kernel
theorem dX12_personLine_26 : decode cX12_personLine 26 = .ok (.getfield 165, 3) := by decide +kernel
theorem dX12_personLine_29 : decode cX12_personLine 29 = .ok (.aload_n 0, 1) := by decide +kernel
theorem dX12_personLine_30 : decode cX12_personLine 30 = .ok (.getfield 41, 3) := by decide +kernel
theorem dX12_personLine_33 : decode cX12_personLine 33 = .ok (.iconst 0, 1) := by decide +kernel
theorem dX12_personLine_34 : decode cX12_personLine 34 = .ok (.iaload, 1) := by decide +kernel
theorem dX12_personLine_35 : decode cX12_personLine 35 = .ok (.invokestatic 168, 3) := by decide +kernel
theorem dX12_personLine_38 : decode cX12_personLine 38 = .ok (.putfield 165, 3) := by decide +kernel
theorem dX12_personLine_41 : decode cX12_personLine 41 = .ok (.aload_n 0, 1) := by decide +kernel
theorem dX12_personLine_42 : decode cX12_personLine 42 = .ok (.getfield 38, 3) := by decide +kernel
theorem dX12_personLine_45 : decode cX12_personLine 45 = .ok (.iconst 1, 1) := by decide +kernel
theorem dX12_personLine_46 : decode cX12_personLine 46 = .ok (.iaload, 1) := by decide +kernel
theorem dX12_personLine_47 : decode cX12_personLine 47 = .ok (.istore_n 2, 1) := by decide +kernel
theorem dX12_personLine_48 : decode cX12_personLine 48 = .ok (.iload_n 2, 1) := by decide +kernel
theorem dX12_personLine_49 : decode cX12_personLine 49 = .ok (.bipush 6, 2) := by decide +kernel
theorem dX12_personLine_51 : decode cX12_personLine 51 = .ok (.if_icmp .ge 53, 3) := by decide +kernel
theorem dX12_personLine_54 : decode cX12_personLine 54 = .ok (.aload_n 0, 1) := by decide +kernel
theorem dX12_personLine_55 : decode cX12_personLine 55 = .ok (.getfield 38, 3) := by decide +kernel
theorem dX12_personLine_58 : decode cX12_personLine 58 = .ok (.bipush 27, 2) := by decide +kernel
theorem dX12_personLine_60 : decode cX12_personLine 60 = .ok (.iload_n 2, 1) := by decide +kernel
theorem dX12_personLine_61 : decode cX12_personLine 61 = .ok (.iadd, 1) := by decide +kernel
theorem dX12_personLine_62 : decode cX12_personLine 62 = .ok (.iload_n 1, 1) := by decide +kernel
theorem dX12_personLine_63 : decode cX12_personLine 63 = .ok (.iastore, 1) := by decide +kernel
theorem dX12_personLine_64 : decode cX12_personLine 64 = .ok (.aload_n 0, 1) := by decide +kernel
theorem dX12_personLine_65 : decode cX12_personLine 65 = .ok (.getfield 38, 3) := by decide +kernel
theorem dX12_personLine_68 : decode cX12_personLine 68 = .ok (.bipush 33, 2) := by decide +kernel
theorem dX12_personLine_70 : decode cX12_personLine 70 = .ok (.iload_n 2, 1) := by decide +kernel
theorem dX12_personLine_71 : decode cX12_personLine 71 = .ok (.iadd, 1) := by decide +kernel
theorem dX12_personLine_72 : decode cX12_personLine 72 = .ok (.aload_n 0, 1) := by decide +kernel
theorem dX12_personLine_73 : decode cX12_personLine 73 = .ok (.getfield 41, 3) := by decide +kernel
theorem dX12_personLine_76 : decode cX12_personLine 76 = .ok (.iconst 0, 1) := by decide +kernel
theorem dX12_personLine_77 : decode cX12_personLine 77 = .ok (.iaload, 1) := by decide +kernel
theorem dX12_personLine_78 : decode cX12_personLine 78 = .ok (.iastore, 1) := by decide +kernel
theorem dX12_personLine_79 : decode cX12_personLine 79 = .ok (.aload_n 0, 1) := by decide +kernel
theorem dX12_personLine_80 : decode cX12_personLine 80 = .ok (.getfield 38, 3) := by decide +kernel
theorem dX12_personLine_83 : decode cX12_personLine 83 = .ok (.bipush 39, 2) := by decide +kernel
theorem dX12_personLine_85 : decode cX12_personLine 85 = .ok (.iload_n 2, 1) := by decide +kernel
theorem dX12_personLine_86 : decode cX12_personLine 86 = .ok (.iadd, 1) := by decide +kernel
theorem dX12_personLine_87 : decode cX12_personLine 87 = .ok (.aload_n 0, 1) := by decide +kernel
theorem dX12_personLine_88 : decode cX12_personLine 88 = .ok (.getfield 41, 3) := by decide +kernel
theorem dX12_personLine_91 : decode cX12_personLine 91 = .ok (.iconst 1, 1) := by decide +kernel
theorem dX12_personLine_92 : decode cX12_personLine 92 = .ok (.iaload, 1) := by decide +kernel
theorem dX12_personLine_93 : decode cX12_personLine 93 = .ok (.iastore, 1) := by decide +kernel
theorem dX12_personLine_94 : decode cX12_personLine 94 = .ok (.aload_n 0, 1) := by decide +kernel
theorem dX12_personLine_95 : decode cX12_personLine 95 = .ok (.getfield 38, 3) := by decide +kernel
theorem dX12_personLine_98 : decode cX12_personLine 98 = .ok (.iconst 1, 1) := by decide +kernel
theorem dX12_personLine_99 : decode cX12_personLine 99 = .ok (.dup2, 1) := by decide +kernel
theorem dX12_personLine_100 : decode cX12_personLine 100 = .ok (.iaload, 1) := by decide +kernel
theorem dX12_personLine_101 : decode cX12_personLine 101 = .ok (.iconst 1, 1) := by decide +kernel
theorem dX12_personLine_102 : decode cX12_personLine 102 = .ok (.iadd, 1) := by decide +kernel
theorem dX12_personLine_103 : decode cX12_personLine 103 = .ok (.iastore, 1) := by decide +kernel
theorem dX12_personLine_104 : decode cX12_personLine 104 = .ok (.iconst 1, 1) := by decide +kernel
theorem dX12_personLine_105 : decode cX12_personLine 105 = .ok (.ireturn, 1) := by decide +kernel
noncomputable def fX12_personLine (μ : zM) (x0 : Nat) (x1 : Int32) : Option (Int32 × zM) := zgd (zm_ck μ 12 x0) <|
  zb2 (fX12_take μ x0 0 0 30) fun v3 m2 =>
  if v3 = 0 then (
  some (0, m2))
  else (
  zb2 (fX12_take m2 x0 1 0 99) fun v6 m5 =>
  if v6 = 0 then (
  some (0, m5))
  else (
  zb1 (zm_gI m5 12 x0 21) fun v7 =>
  zb1 (zm_gR m5 12 x0 20) fun v9 =>
  zb1 (zm_aI m5 0 v9 0) fun v11 =>
  zb1 (fX12_greater m5 v7 v11) fun v14 =>
  zb1 (zm_p m5 12 x0 21 (.int v14)) fun m15 =>
  zb1 (zm_gR m15 12 x0 19) fun v17 =>
  zb1 (zm_aI m15 0 v17 1) fun v19 =>
  zc1 (if 6 ≤ v19 then (
  some m15)
  else (
  zb1 (zm_gR m15 12 x0 19) fun v23 =>
  zb1 (zm_sI m15 0 v23 (27 + v19) x1) fun m25 =>
  zb1 (zm_gR m25 12 x0 19) fun v27 =>
  zb1 (zm_gR m25 12 x0 20) fun v29 =>
  zb1 (zm_aI m25 0 v29 0) fun v31 =>
  zb1 (zm_sI m25 0 v27 (33 + v19) v31) fun m33 =>
  zb1 (zm_gR m33 12 x0 19) fun v35 =>
  zb1 (zm_gR m33 12 x0 20) fun v37 =>
  zb1 (zm_aI m33 0 v37 1) fun v39 =>
  zb1 (zm_sI m33 0 v35 (39 + v19) v39) fun m41 =>
  zb1 (zm_gR m41 12 x0 19) fun v43 =>
  zb1 (zm_aI m41 0 v43 1) fun v45 =>
  zb1 (zm_sI m41 0 v43 1 (v45 + 1)) fun m47 =>
  some m47) : Option (zM)) fun (m21 : zM) =>
  some (1, m21)))
theorem fX12_personLine_ck {μ : zM} {x0 : Nat} {x1 : Int32} {z : Int32 × zM} (h : fX12_personLine μ x0 x1 = some z) : zm_ck μ 12 x0 = true := (zgd_s h).1
set_option maxHeartbeats 4000000 in
set_option maxRecDepth 100000 in
theorem cX12_personLine_ok {μ : zM} {x0 : Nat} {x1 : Int32} {r : Int32} {mo : zM} (hf : fX12_personLine μ x0 x1 = some (r, mo)) : zC yX12_personLine cX12_personLine 3 (some .boolean) 3 0 0 [.ref x0, .int x1] μ (some (.int r)) mo := by
  replace hf := (zgd_s hf).2
  refine zC.of (by decide) (Nat.le_of_ble_eq_true rfl) (fun K hin => ?_)
  clear hin
  show zz K cX12_personLine (3, RX12, some .boolean, 3, 0, 0, some (.int r), mo) 0 0 0 [(0, .ref x0), (1, .int x1)] [] μ
  refine zr_aload_n 0 dX12_personLine_0 rfl ?_
  refine zr_iconst 0 dX12_personLine_1 (by decide) ?_
  refine zr_iconst 0 dX12_personLine_2 (by decide) ?_
  refine zr_bipush 30 dX12_personLine_3 (by decide) ?_
  replace hf := zb2_s hf
  obtain ⟨v3, m2, h1, hf⟩ := hf
  refine zr_callV (ci := 12) [.int 0, .int 0, .int 30] (cX12_take_ok h1) zvs_X12_take zl_935 zl_936 (fX12_take_ck h1) rfl rfl zl_934 rfl (Nat.le_of_ble_eq_true rfl) (Nat.le_of_ble_eq_true rfl) (Nat.le_of_ble_eq_true rfl) (Nat.le_of_ble_eq_true rfl) dX12_personLine_5 rfl ?_
  refine zr_if_eq 22 dX12_personLine_8 (by decide) (fun hc => ?_) (fun hc => ?_)
  · rw [if_pos hc] at hf
    refine zr_iconst 0 dX12_personLine_22 (by decide) ?_
    cases hf
    exact zr_zret rfl dX12_personLine_23
  · rw [if_neg hc] at hf
    refine zr_aload_n 0 dX12_personLine_11 rfl ?_
    refine zr_iconst 1 dX12_personLine_12 (by decide) ?_
    refine zr_iconst 0 dX12_personLine_13 (by decide) ?_
    refine zr_bipush 99 dX12_personLine_14 (by decide) ?_
    replace hf := zb2_s hf
    obtain ⟨v6, m5, h4, hf⟩ := hf
    refine zr_callV (ci := 12) [.int 1, .int 0, .int 99] (cX12_take_ok h4) zvs_X12_take zl_935 zl_936 (fX12_take_ck h4) rfl rfl zl_934 rfl (Nat.le_of_ble_eq_true rfl) (Nat.le_of_ble_eq_true rfl) (Nat.le_of_ble_eq_true rfl) (Nat.le_of_ble_eq_true rfl) dX12_personLine_16 rfl ?_
    refine zr_if_ne 24 dX12_personLine_19 (by decide) (fun hc => ?_) (fun hc => ?_)
    · rw [if_neg hc] at hf
      refine zr_aload_n 0 dX12_personLine_24 rfl ?_
      refine zr_aload_n 0 dX12_personLine_25 rfl ?_
      replace hf := zb1_s hf
      obtain ⟨v7, h8, hf⟩ := hf
      refine zr_get (zm_gI_g h8) zk12 (by decide) zl_937 dX12_personLine_26 ?_
      refine zr_aload_n 0 dX12_personLine_29 rfl ?_
      replace hf := zb1_s hf
      obtain ⟨v9, h10, hf⟩ := hf
      refine zr_get (zm_gR_g h10) zk12 (by decide) zl_874 dX12_personLine_30 ?_
      refine zr_iconst 0 dX12_personLine_33 (by decide) ?_
      replace hf := zb1_s hf
      obtain ⟨v11, h12, hf⟩ := hf
      refine zr_iald h12 dX12_personLine_34 ?_
      replace hf := zb1_s hf
      obtain ⟨v14, h13, hf⟩ := hf
      refine zr_callS [.int v7, .int v11] (cX12_greater_ok h13) zvs_X12_greater zl_940 zl_939 rfl (Nat.le_of_ble_eq_true rfl) (Nat.le_of_ble_eq_true rfl) (Nat.le_of_ble_eq_true rfl) (Nat.le_of_ble_eq_true rfl) dX12_personLine_35 rfl ?_
      replace hf := zb1_s hf
      obtain ⟨m15, h16, hf⟩ := hf
      refine zr_put h16 zk12 (by decide) zl_937 rfl rfl rfl dX12_personLine_38 ?_
      refine zr_aload_n 0 dX12_personLine_41 rfl ?_
      replace hf := zb1_s hf
      obtain ⟨v17, h18, hf⟩ := hf
      refine zr_get (zm_gR_g h18) zk12 (by decide) zl_873 dX12_personLine_42 ?_
      refine zr_iconst 1 dX12_personLine_45 (by decide) ?_
      replace hf := zb1_s hf
      obtain ⟨v19, h20, hf⟩ := hf
      refine zr_iald h20 dX12_personLine_46 ?_
      refine zr_istore_n [(2, .int v19), (0, .ref x0), (1, .int x1)] dX12_personLine_47 (Nat.le_of_ble_eq_true rfl) rfl ?_
      refine zr_iload_n 0 dX12_personLine_48 rfl ?_
      refine zr_bipush 6 dX12_personLine_49 (by decide) ?_
      replace hf := zc1_s hf
      obtain ⟨m21, hg, hf⟩ := hf
      have hj22 : zz K cX12_personLine (3, RX12, some .boolean, 3, 0, 0, some (.int r), mo) 0 0 104 [] [] m21 := by
        refine zr_iconst 1 dX12_personLine_104 (by decide) ?_
        cases hf
        exact zr_zret rfl dX12_personLine_105
      clear hf
      have hf := hg
      clear hg
      refine zr_icmp_ge 104 dX12_personLine_51 (by decide) (fun hc => ?_) (fun hc => ?_)
      · rw [if_pos hc] at hf
        cases hf
        exact zr_lv [] rfl hj22
      · rw [if_neg hc] at hf
        refine zr_aload_n 1 dX12_personLine_54 rfl ?_
        replace hf := zb1_s hf
        obtain ⟨v23, h24, hf⟩ := hf
        refine zr_get (zm_gR_g h24) zk12 (by decide) zl_873 dX12_personLine_55 ?_
        refine zr_bipush 27 dX12_personLine_58 (by decide) ?_
        refine zr_iload_n 0 dX12_personLine_60 rfl ?_
        refine zr_iadd dX12_personLine_61 ?_
        refine zr_iload_n 2 dX12_personLine_62 rfl ?_
        replace hf := zb1_s hf
        obtain ⟨m25, h26, hf⟩ := hf
        refine zr_iast h26 dX12_personLine_63 ?_
        refine zr_aload_n 1 dX12_personLine_64 rfl ?_
        replace hf := zb1_s hf
        obtain ⟨v27, h28, hf⟩ := hf
        refine zr_get (zm_gR_g h28) zk12 (by decide) zl_873 dX12_personLine_65 ?_
        refine zr_bipush 33 dX12_personLine_68 (by decide) ?_
        refine zr_iload_n 0 dX12_personLine_70 rfl ?_
        refine zr_iadd dX12_personLine_71 ?_
        refine zr_aload_n 1 dX12_personLine_72 rfl ?_
        replace hf := zb1_s hf
        obtain ⟨v29, h30, hf⟩ := hf
        refine zr_get (zm_gR_g h30) zk12 (by decide) zl_874 dX12_personLine_73 ?_
        refine zr_iconst 0 dX12_personLine_76 (by decide) ?_
        replace hf := zb1_s hf
        obtain ⟨v31, h32, hf⟩ := hf
        refine zr_iald h32 dX12_personLine_77 ?_
        replace hf := zb1_s hf
        obtain ⟨m33, h34, hf⟩ := hf
        refine zr_iast h34 dX12_personLine_78 ?_
        refine zr_aload_n 1 dX12_personLine_79 rfl ?_
        replace hf := zb1_s hf
        obtain ⟨v35, h36, hf⟩ := hf
        refine zr_get (zm_gR_g h36) zk12 (by decide) zl_873 dX12_personLine_80 ?_
        refine zr_bipush 39 dX12_personLine_83 (by decide) ?_
        refine zr_iload_n 0 dX12_personLine_85 rfl ?_
        refine zr_iadd dX12_personLine_86 ?_
        refine zr_aload_n 1 dX12_personLine_87 rfl ?_
        replace hf := zb1_s hf
        obtain ⟨v37, h38, hf⟩ := hf
        refine zr_get (zm_gR_g h38) zk12 (by decide) zl_874 dX12_personLine_88 ?_
        refine zr_iconst 1 dX12_personLine_91 (by decide) ?_
        replace hf := zb1_s hf
        obtain ⟨v39, h40, hf⟩ := hf
        refine zr_iald h40 dX12_personLine_92 ?_
        replace hf := zb1_s hf
        obtain ⟨m41, h42, hf⟩ := hf
        refine zr_iast h42 dX12_personLine_93 ?_
        refine zr_aload_n 1 dX12_personLine_94 rfl ?_
        replace hf := zb1_s hf
        obtain ⟨v43, h44, hf⟩ := hf
        refine zr_get (zm_gR_g h44) zk12 (by decide) zl_873 dX12_personLine_95 ?_
        refine zr_iconst 1 dX12_personLine_98 (by decide) ?_
        refine zr_dup2 dX12_personLine_99 rfl rfl ?_
        replace hf := zb1_s hf
        obtain ⟨v45, h46, hf⟩ := hf
        refine zr_iald h46 dX12_personLine_100 ?_
        refine zr_iconst 1 dX12_personLine_101 (by decide) ?_
        refine zr_iadd dX12_personLine_102 ?_
        replace hf := zb1_s hf
        obtain ⟨m47, h48, hf⟩ := hf
        refine zr_iast h48 dX12_personLine_103 ?_
        cases hf
        exact zr_lv [] rfl hj22
    · rw [if_pos hc] at hf
      refine zr_iconst 0 dX12_personLine_22 (by decide) ?_
      cases hf
      exact zr_zret rfl dX12_personLine_23
theorem dX12_skyLine_0 : decode cX12_skyLine 0 = .ok (.aload_n 0, 1) := by decide +kernel
theorem dX12_skyLine_1 : decode cX12_skyLine 1 = .ok (.iconst 0, 1) := by decide +kernel
theorem dX12_skyLine_2 : decode cX12_skyLine 2 = .ok (.iconst 0, 1) := by decide +kernel
theorem dX12_skyLine_3 : decode cX12_skyLine 3 = .ok (.bipush 99, 2) := by decide +kernel
theorem dX12_skyLine_5 : decode cX12_skyLine 5 = .ok (.invokevirtual 162, 3) := by decide +kernel
theorem dX12_skyLine_8 : decode cX12_skyLine 8 = .ok (.ifCond .eq 19, 3) := by decide +kernel
theorem dX12_skyLine_11 : decode cX12_skyLine 11 = .ok (.aload_n 0, 1) := by decide +kernel
theorem dX12_skyLine_12 : decode cX12_skyLine 12 = .ok (.iconst 1, 1) := by decide +kernel
theorem dX12_skyLine_13 : decode cX12_skyLine 13 = .ok (.aload_n 0, 1) := by decide +kernel
theorem dX12_skyLine_14 : decode cX12_skyLine 14 = .ok (.getfield 41, 3) := by decide +kernel
theorem dX12_skyLine_17 : decode cX12_skyLine 17 = .ok (.iconst 0, 1) := by decide +kernel
theorem dX12_skyLine_18 : decode cX12_skyLine 18 = .ok (.iaload, 1) := by decide +kernel
theorem dX12_skyLine_19 : decode cX12_skyLine 19 = .ok (.bipush 99, 2) := by decide +kernel
theorem dX12_skyLine_21 : decode cX12_skyLine 21 = .ok (.invokevirtual 162, 3) := by decide +kernel
theorem dX12_skyLine_24 : decode cX12_skyLine 24 = .ok (.ifCond .ne 5, 3) := by decide +kernel
theorem dX12_skyLine_27 : decode cX12_skyLine 27 = .ok (.iconst 0, 1) := by decide +kernel
theorem dX12_skyLine_28 : decode cX12_skyLine 28 = .ok (.ireturn, 1) := by decide +kernel
theorem dX12_skyLine_29 : decode cX12_skyLine 29 = .ok (.aload_n 0, 1) := by decide +kernel
theorem dX12_skyLine_30 : decode cX12_skyLine 30 = .ok (.getfield 38, 3) := by decide +kernel
theorem dX12_skyLine_33 : decode cX12_skyLine 33 = .ok (.iconst 2, 1) := by decide +kernel
theorem dX12_skyLine_34 : decode cX12_skyLine 34 = .ok (.iaload, 1) := by decide +kernel
theorem dX12_skyLine_35 : decode cX12_skyLine 35 = .ok (.istore_n 2, 1) := by decide +kernel
theorem dX12_skyLine_36 : decode cX12_skyLine 36 = .ok (.iload_n 2, 1) := by decide +kernel
theorem dX12_skyLine_37 : decode cX12_skyLine 37 = .ok (.iconst 4, 1) := by decide +kernel
theorem dX12_skyLine_38 : decode cX12_skyLine 38 = .ok (.if_icmp .ge 61, 3) := by decide +kernel
theorem dX12_skyLine_41 : decode cX12_skyLine 41 = .ok (.aload_n 0, 1) := by decide +kernel
theorem dX12_skyLine_42 : decode cX12_skyLine 42 = .ok (.getfield 38, 3) := by decide +kernel
theorem dX12_skyLine_45 : decode cX12_skyLine 45 = .ok (.bipush 45, 2) := by decide +kernel
theorem dX12_skyLine_47 : decode cX12_skyLine 47 = .ok (.iload_n 2, 1) := by decide +kernel
theorem dX12_skyLine_48 : decode cX12_skyLine 48 = .ok (.iadd, 1) := by decide +kernel
theorem dX12_skyLine_49 : decode cX12_skyLine 49 = .ok (.iload_n 1, 1) := by decide +kernel
theorem dX12_skyLine_50 : decode cX12_skyLine 50 = .ok (.ifCond .eq 7, 3) := by decide +kernel
theorem dX12_skyLine_53 : decode cX12_skyLine 53 = .ok (.iconst 1, 1) := by decide +kernel
theorem dX12_skyLine_54 : decode cX12_skyLine 54 = .ok (.goto 4, 3) := by decide +kernel
theorem dX12_skyLine_57 : decode cX12_skyLine 57 = .ok (.iconst 0, 1) := by decide +kernel
theorem dX12_skyLine_58 : decode cX12_skyLine 58 = .ok (.iastore, 1) := by decide +kernel
theorem dX12_skyLine_59 : decode cX12_skyLine 59 = .ok (.aload_n 0, 1) := by decide +kernel
theorem dX12_skyLine_60 : decode cX12_skyLine 60 = .ok (.getfield 38, 3) := by decide +kernel
theorem dX12_skyLine_63 : decode cX12_skyLine 63 = .ok (.bipush 49, 2) := by decide +kernel
theorem dX12_skyLine_65 : decode cX12_skyLine 65 = .ok (.iload_n 2, 1) := by decide +kernel
theorem dX12_skyLine_66 : decode cX12_skyLine 66 = .ok (.iadd, 1) := by decide +kernel
theorem dX12_skyLine_67 : decode cX12_skyLine 67 = .ok (.aload_n 0, 1) := by decide +kernel
theorem dX12_skyLine_68 : decode cX12_skyLine 68 = .ok (.getfield 41, 3) := by decide +kernel
theorem dX12_skyLine_71 : decode cX12_skyLine 71 = .ok (.iconst 0, 1) := by decide +kernel
theorem dX12_skyLine_72 : decode cX12_skyLine 72 = .ok (.iaload, 1) := by decide +kernel
theorem dX12_skyLine_73 : decode cX12_skyLine 73 = .ok (.iastore, 1) := by decide +kernel
theorem dX12_skyLine_74 : decode cX12_skyLine 74 = .ok (.aload_n 0, 1) := by decide +kernel
theorem dX12_skyLine_75 : decode cX12_skyLine 75 = .ok (.getfield 38, 3) := by decide +kernel
theorem dX12_skyLine_78 : decode cX12_skyLine 78 = .ok (.bipush 53, 2) := by decide +kernel
theorem dX12_skyLine_80 : decode cX12_skyLine 80 = .ok (.iload_n 2, 1) := by decide +kernel
theorem dX12_skyLine_81 : decode cX12_skyLine 81 = .ok (.iadd, 1) := by decide +kernel
theorem dX12_skyLine_82 : decode cX12_skyLine 82 = .ok (.aload_n 0, 1) := by decide +kernel
theorem dX12_skyLine_83 : decode cX12_skyLine 83 = .ok (.getfield 41, 3) := by decide +kernel
theorem dX12_skyLine_86 : decode cX12_skyLine 86 = .ok (.iconst 1, 1) := by decide +kernel
theorem dX12_skyLine_87 : decode cX12_skyLine 87 = .ok (.iaload, 1) := by decide +kernel
theorem dX12_skyLine_88 : decode cX12_skyLine 88 = .ok (.iastore, 1) := by decide +kernel
theorem dX12_skyLine_89 : decode cX12_skyLine 89 = .ok (.aload_n 0, 1) := by decide +kernel
theorem dX12_skyLine_90 : decode cX12_skyLine 90 = .ok (.getfield 38, 3) := by decide +kernel
theorem dX12_skyLine_93 : decode cX12_skyLine 93 = .ok (.iconst 2, 1) := by decide +kernel
theorem dX12_skyLine_94 : decode cX12_skyLine 94 = .ok (.dup2, 1) := by decide +kernel
theorem dX12_skyLine_95 : decode cX12_skyLine 95 = .ok (.iaload, 1) := by decide +kernel
theorem dX12_skyLine_96 : decode cX12_skyLine 96 = .ok (.iconst 1, 1) := by decide +kernel
theorem dX12_skyLine_97 : decode cX12_skyLine 97 = .ok (.iadd, 1) := by decide +kernel
theorem dX12_skyLine_98 : decode cX12_skyLine 98 = .ok (.iastore, 1) := by decide +kernel
theorem dX12_skyLine_99 : decode cX12_skyLine 99 = .ok (.iconst 1, 1) := by decide +kernel
theorem dX12_skyLine_100 : decode cX12_skyLine 100 = .ok (.ireturn, 1) := by decide +kernel
noncomputable def fX12_skyLine (μ : zM) (x0 : Nat) (x1 : Int32) : Option (Int32 × zM) := zgd (zm_ck μ 12 x0) <|
  zb2 (fX12_take μ x0 0 0 99) fun v3 m2 =>
  if v3 = 0 then (
  some (0, m2))
  else (
  zb1 (zm_gR m2 12 x0 20) fun v4 =>
  zb1 (zm_aI m2 0 v4 0) fun v6 =>
  zb2 (fX12_take m2 x0 1 v6 99) fun v10 m9 =>
  if v10 = 0 then (
  some (0, m9))
  else (
  zb1 (zm_gR m9 12 x0 19) fun v11 =>
  zb1 (zm_aI m9 0 v11 2) fun v13 =>
  zc1 (if 4 ≤ v13 then (
  some m9)
  else (
  zb1 (zm_gR m9 12 x0 19) fun v17 =>
  zb1 (if x1 = 0 then (
  some 0)
  else (
  some 1) : Option (Int32)) fun (s19 : Int32) =>
  zb1 (zm_sI m9 0 v17 (45 + v13) s19) fun m21 =>
  zb1 (zm_gR m21 12 x0 19) fun v23 =>
  zb1 (zm_gR m21 12 x0 20) fun v25 =>
  zb1 (zm_aI m21 0 v25 0) fun v27 =>
  zb1 (zm_sI m21 0 v23 (49 + v13) v27) fun m29 =>
  zb1 (zm_gR m29 12 x0 19) fun v31 =>
  zb1 (zm_gR m29 12 x0 20) fun v33 =>
  zb1 (zm_aI m29 0 v33 1) fun v35 =>
  zb1 (zm_sI m29 0 v31 (53 + v13) v35) fun m37 =>
  zb1 (zm_gR m37 12 x0 19) fun v39 =>
  zb1 (zm_aI m37 0 v39 2) fun v41 =>
  zb1 (zm_sI m37 0 v39 2 (v41 + 1)) fun m43 =>
  some m43) : Option (zM)) fun (m15 : zM) =>
  some (1, m15)))
theorem fX12_skyLine_ck {μ : zM} {x0 : Nat} {x1 : Int32} {z : Int32 × zM} (h : fX12_skyLine μ x0 x1 = some z) : zm_ck μ 12 x0 = true := (zgd_s h).1
set_option maxHeartbeats 4000000 in
set_option maxRecDepth 100000 in
theorem cX12_skyLine_ok {μ : zM} {x0 : Nat} {x1 : Int32} {r : Int32} {mo : zM} (hf : fX12_skyLine μ x0 x1 = some (r, mo)) : zC yX12_skyLine cX12_skyLine 3 (some .boolean) 3 0 0 [.ref x0, .int x1] μ (some (.int r)) mo := by
  replace hf := (zgd_s hf).2
  refine zC.of (by decide) (Nat.le_of_ble_eq_true rfl) (fun K hin => ?_)
  clear hin
  show zz K cX12_skyLine (3, RX12, some .boolean, 3, 0, 0, some (.int r), mo) 0 0 0 [(0, .ref x0), (1, .int x1)] [] μ
  refine zr_aload_n 0 dX12_skyLine_0 rfl ?_
  refine zr_iconst 0 dX12_skyLine_1 (by decide) ?_
  refine zr_iconst 0 dX12_skyLine_2 (by decide) ?_
  refine zr_bipush 99 dX12_skyLine_3 (by decide) ?_
  replace hf := zb2_s hf
  obtain ⟨v3, m2, h1, hf⟩ := hf
  refine zr_callV (ci := 12) [.int 0, .int 0, .int 99] (cX12_take_ok h1) zvs_X12_take zl_935 zl_936 (fX12_take_ck h1) rfl rfl zl_934 rfl (Nat.le_of_ble_eq_true rfl) (Nat.le_of_ble_eq_true rfl) (Nat.le_of_ble_eq_true rfl) (Nat.le_of_ble_eq_true rfl) dX12_skyLine_5 rfl ?_
  refine zr_if_eq 27 dX12_skyLine_8 (by decide) (fun hc => ?_) (fun hc => ?_)
  · rw [if_pos hc] at hf
    refine zr_iconst 0 dX12_skyLine_27 (by decide) ?_
    cases hf
    exact zr_zret rfl dX12_skyLine_28
  · rw [if_neg hc] at hf
    refine zr_aload_n 0 dX12_skyLine_11 rfl ?_
    refine zr_iconst 1 dX12_skyLine_12 (by decide) ?_
    refine zr_aload_n 0 dX12_skyLine_13 rfl ?_
    replace hf := zb1_s hf
    obtain ⟨v4, h5, hf⟩ := hf
    refine zr_get (zm_gR_g h5) zk12 (by decide) zl_874 dX12_skyLine_14 ?_
    refine zr_iconst 0 dX12_skyLine_17 (by decide) ?_
    replace hf := zb1_s hf
    obtain ⟨v6, h7, hf⟩ := hf
    refine zr_iald h7 dX12_skyLine_18 ?_
    refine zr_bipush 99 dX12_skyLine_19 (by decide) ?_
    replace hf := zb2_s hf
    obtain ⟨v10, m9, h8, hf⟩ := hf
    refine zr_callV (ci := 12) [.int 1, .int v6, .int 99] (cX12_take_ok h8) zvs_X12_take zl_935 zl_936 (fX12_take_ck h8) rfl rfl zl_934 rfl (Nat.le_of_ble_eq_true rfl) (Nat.le_of_ble_eq_true rfl) (Nat.le_of_ble_eq_true rfl) (Nat.le_of_ble_eq_true rfl) dX12_skyLine_21 rfl ?_
    refine zr_if_ne 29 dX12_skyLine_24 (by decide) (fun hc => ?_) (fun hc => ?_)
    · rw [if_neg hc] at hf
      refine zr_aload_n 0 dX12_skyLine_29 rfl ?_
      replace hf := zb1_s hf
      obtain ⟨v11, h12, hf⟩ := hf
      refine zr_get (zm_gR_g h12) zk12 (by decide) zl_873 dX12_skyLine_30 ?_
      refine zr_iconst 2 dX12_skyLine_33 (by decide) ?_
      replace hf := zb1_s hf
      obtain ⟨v13, h14, hf⟩ := hf
      refine zr_iald h14 dX12_skyLine_34 ?_
      refine zr_istore_n [(2, .int v13), (0, .ref x0), (1, .int x1)] dX12_skyLine_35 (Nat.le_of_ble_eq_true rfl) rfl ?_
      refine zr_iload_n 0 dX12_skyLine_36 rfl ?_
      refine zr_iconst 4 dX12_skyLine_37 (by decide) ?_
      replace hf := zc1_s hf
      obtain ⟨m15, hg, hf⟩ := hf
      have hj16 : zz K cX12_skyLine (3, RX12, some .boolean, 3, 0, 0, some (.int r), mo) 0 0 99 [] [] m15 := by
        refine zr_iconst 1 dX12_skyLine_99 (by decide) ?_
        cases hf
        exact zr_zret rfl dX12_skyLine_100
      clear hf
      have hf := hg
      clear hg
      refine zr_icmp_ge 99 dX12_skyLine_38 (by decide) (fun hc => ?_) (fun hc => ?_)
      · rw [if_pos hc] at hf
        cases hf
        exact zr_lv [] rfl hj16
      · rw [if_neg hc] at hf
        refine zr_aload_n 1 dX12_skyLine_41 rfl ?_
        replace hf := zb1_s hf
        obtain ⟨v17, h18, hf⟩ := hf
        refine zr_get (zm_gR_g h18) zk12 (by decide) zl_873 dX12_skyLine_42 ?_
        refine zr_bipush 45 dX12_skyLine_45 (by decide) ?_
        refine zr_iload_n 0 dX12_skyLine_47 rfl ?_
        refine zr_iadd dX12_skyLine_48 ?_
        refine zr_iload_n 2 dX12_skyLine_49 rfl ?_
        replace hf := zb1_s hf
        obtain ⟨s19, hg, hf⟩ := hf
        have hj20 : zz K cX12_skyLine (3, RX12, some .boolean, 3, 0, 0, some (.int r), mo) 0 0 58 [(0, .ref x0), (2, .int v13)] [.int s19, .int (45 + v13), .ref v17] m9 := by
          replace hf := zb1_s hf
          obtain ⟨m21, h22, hf⟩ := hf
          refine zr_iast h22 dX12_skyLine_58 ?_
          refine zr_aload_n 0 dX12_skyLine_59 rfl ?_
          replace hf := zb1_s hf
          obtain ⟨v23, h24, hf⟩ := hf
          refine zr_get (zm_gR_g h24) zk12 (by decide) zl_873 dX12_skyLine_60 ?_
          refine zr_bipush 49 dX12_skyLine_63 (by decide) ?_
          refine zr_iload_n 1 dX12_skyLine_65 rfl ?_
          refine zr_iadd dX12_skyLine_66 ?_
          refine zr_aload_n 0 dX12_skyLine_67 rfl ?_
          replace hf := zb1_s hf
          obtain ⟨v25, h26, hf⟩ := hf
          refine zr_get (zm_gR_g h26) zk12 (by decide) zl_874 dX12_skyLine_68 ?_
          refine zr_iconst 0 dX12_skyLine_71 (by decide) ?_
          replace hf := zb1_s hf
          obtain ⟨v27, h28, hf⟩ := hf
          refine zr_iald h28 dX12_skyLine_72 ?_
          replace hf := zb1_s hf
          obtain ⟨m29, h30, hf⟩ := hf
          refine zr_iast h30 dX12_skyLine_73 ?_
          refine zr_aload_n 0 dX12_skyLine_74 rfl ?_
          replace hf := zb1_s hf
          obtain ⟨v31, h32, hf⟩ := hf
          refine zr_get (zm_gR_g h32) zk12 (by decide) zl_873 dX12_skyLine_75 ?_
          refine zr_bipush 53 dX12_skyLine_78 (by decide) ?_
          refine zr_iload_n 1 dX12_skyLine_80 rfl ?_
          refine zr_iadd dX12_skyLine_81 ?_
          refine zr_aload_n 0 dX12_skyLine_82 rfl ?_
          replace hf := zb1_s hf
          obtain ⟨v33, h34, hf⟩ := hf
          refine zr_get (zm_gR_g h34) zk12 (by decide) zl_874 dX12_skyLine_83 ?_
          refine zr_iconst 1 dX12_skyLine_86 (by decide) ?_
          replace hf := zb1_s hf
          obtain ⟨v35, h36, hf⟩ := hf
          refine zr_iald h36 dX12_skyLine_87 ?_
          replace hf := zb1_s hf
          obtain ⟨m37, h38, hf⟩ := hf
          refine zr_iast h38 dX12_skyLine_88 ?_
          refine zr_aload_n 0 dX12_skyLine_89 rfl ?_
          replace hf := zb1_s hf
          obtain ⟨v39, h40, hf⟩ := hf
          refine zr_get (zm_gR_g h40) zk12 (by decide) zl_873 dX12_skyLine_90 ?_
          refine zr_iconst 2 dX12_skyLine_93 (by decide) ?_
          refine zr_dup2 dX12_skyLine_94 rfl rfl ?_
          replace hf := zb1_s hf
          obtain ⟨v41, h42, hf⟩ := hf
          refine zr_iald h42 dX12_skyLine_95 ?_
          refine zr_iconst 1 dX12_skyLine_96 (by decide) ?_
          refine zr_iadd dX12_skyLine_97 ?_
          replace hf := zb1_s hf
          obtain ⟨m43, h44, hf⟩ := hf
          refine zr_iast h44 dX12_skyLine_98 ?_
          cases hf
          exact zr_lv [] rfl hj16
        clear hf
        have hf := hg
        clear hg
        refine zr_if_eq 57 dX12_skyLine_50 (by decide) (fun hc => ?_) (fun hc => ?_)
        · rw [if_pos hc] at hf
          refine zr_iconst 0 dX12_skyLine_57 (by decide) ?_
          cases hf
          exact zr_lv [1, 0] rfl hj20
        · rw [if_neg hc] at hf
          refine zr_iconst 1 dX12_skyLine_53 (by decide) ?_
          refine zr_goto 58 dX12_skyLine_54 (by decide) ?_
          cases hf
          exact zr_lv [1, 0] rfl hj20
    · rw [if_pos hc] at hf
      refine zr_iconst 0 dX12_skyLine_27 (by decide) ?_
      cases hf
      exact zr_zret rfl dX12_skyLine_28
theorem zl_941 : Cond.constantLong RX12 172 126892383759460 ∈ zt := zt_at 1565 (by decide +kernel)
theorem zl_942 : Cond.constantLong RX12 174 32765925218805876 ∈ zt := zt_at 1566 (by decide +kernel)
theorem dX12_wordLine_0 : decode cX12_wordLine 0 = .ok (.lload_n 1, 1) := by decide +kernel
theorem dX12_wordLine_1 : decode cX12_wordLine 1 = .ok (.ldc2_w 172, 3) := by decide +kernel
theorem dX12_wordLine_4 : decode cX12_wordLine 4 = .ok (.lcmp, 1) := by decide +kernel
theorem dX12_wordLine_5 : decode cX12_wordLine 5 = .ok (.ifCond .ne 8, 3) := by decide +kernel
theorem dX12_wordLine_8 : decode cX12_wordLine 8 = .ok (.bipush 7, 2) := by decide +kernel
theorem dX12_wordLine_10 : decode cX12_wordLine 10 = .ok (.goto 18, 3) := by decide +kernel
theorem dX12_wordLine_13 : decode cX12_wordLine 13 = .ok (.lload_n 1, 1) := by decide +kernel
theorem dX12_wordLine_14 : decode cX12_wordLine 14 = .ok (.ldc2_w 174, 3) := by decide +kernel
theorem dX12_wordLine_17 : decode cX12_wordLine 17 = .ok (.lcmp, 1) := by decide +kernel
theorem dX12_wordLine_18 : decode cX12_wordLine 18 = .ok (.ifCond .ne 8, 3) := by decide +kernel
theorem dX12_wordLine_21 : decode cX12_wordLine 21 = .ok (.bipush 9, 2) := by decide +kernel
theorem dX12_wordLine_23 : decode cX12_wordLine 23 = .ok (.goto 5, 3) := by decide +kernel
theorem dX12_wordLine_26 : decode cX12_wordLine 26 = .ok (.bipush 99, 2) := by decide +kernel
theorem dX12_wordLine_28 : decode cX12_wordLine 28 = .ok (.istore_n 3, 1) := by decide +kernel
theorem dX12_wordLine_29 : decode cX12_wordLine 29 = .ok (.aload_n 0, 1) := by decide +kernel
theorem dX12_wordLine_30 : decode cX12_wordLine 30 = .ok (.iconst 0, 1) := by decide +kernel
theorem dX12_wordLine_31 : decode cX12_wordLine 31 = .ok (.iconst 0, 1) := by decide +kernel
theorem dX12_wordLine_32 : decode cX12_wordLine 32 = .ok (.bipush 7, 2) := by decide +kernel
theorem dX12_wordLine_34 : decode cX12_wordLine 34 = .ok (.invokevirtual 162, 3) := by decide +kernel
theorem dX12_wordLine_37 : decode cX12_wordLine 37 = .ok (.ifCond .eq 13, 3) := by decide +kernel
theorem dX12_wordLine_40 : decode cX12_wordLine 40 = .ok (.aload_n 0, 1) := by decide +kernel
theorem dX12_wordLine_41 : decode cX12_wordLine 41 = .ok (.iconst 1, 1) := by decide +kernel
theorem dX12_wordLine_42 : decode cX12_wordLine 42 = .ok (.iconst 0, 1) := by decide +kernel
theorem dX12_wordLine_43 : decode cX12_wordLine 43 = .ok (.iload_n 3, 1) := by decide +kernel
theorem dX12_wordLine_44 : decode cX12_wordLine 44 = .ok (.invokevirtual 162, 3) := by decide +kernel
theorem dX12_wordLine_47 : decode cX12_wordLine 47 = .ok (.ifCond .ne 5, 3) := by decide +kernel
theorem dX12_wordLine_50 : decode cX12_wordLine 50 = .ok (.iconst 0, 1) := by decide +kernel
theorem dX12_wordLine_51 : decode cX12_wordLine 51 = .ok (.ireturn, 1) := by decide +kernel
theorem dX12_wordLine_52 : decode cX12_wordLine 52 = .ok (.aload_n 0, 1) := by decide +kernel
theorem dX12_wordLine_53 : decode cX12_wordLine 53 = .ok (.getfield 149, 3) := by decide +kernel
theorem dX12_wordLine_56 : decode cX12_wordLine 56 = .ok (.ifCond .eq 48, 3) := by decide +kernel
theorem dX12_wordLine_59 : decode cX12_wordLine 59 = .ok (.aload_n 0, 1) := by decide +kernel
theorem dX12_wordLine_60 : decode cX12_wordLine 60 = .ok (.getfield 38, 3) := by decide +kernel
theorem dX12_wordLine_63 : decode cX12_wordLine 63 = .ok (.lload_n 1, 1) := by decide +kernel
theorem dX12_wordLine_64 : decode cX12_wordLine 64 = .ok (.ldc2_w 172, 3) := by decide +kernel
theorem dX12_wordLine_67 : decode cX12_wordLine 67 = .ok (.lcmp, 1) := by decide +kernel
theorem dX12_wordLine_68 : decode cX12_wordLine 68 = .ok (.ifCond .ne 7, 3) := by decide +kernel
theorem dX12_wordLine_71 : decode cX12_wordLine 71 = .ok (.iconst 3, 1) := by decide +kernel
theorem dX12_wordLine_72 : decode cX12_wordLine 72 = .ok (.goto 18, 3) := by decide +kernel
theorem dX12_wordLine_75 : decode cX12_wordLine 75 = .ok (.lload_n 1, 1) := by decide +kernel
theorem dX12_wordLine_76 : decode cX12_wordLine 76 = .ok (.ldc2_w 174, 3) := by decide +kernel
theorem dX12_wordLine_79 : decode cX12_wordLine 79 = .ok (.lcmp, 1) := by decide +kernel
theorem dX12_wordLine_80 : decode cX12_wordLine 80 = .ok (.ifCond .ne 8, 3) := by decide +kernel
theorem dX12_wordLine_83 : decode cX12_wordLine 83 = .ok (.bipush 11, 2) := by decide +kernel
theorem dX12_wordLine_85 : decode cX12_wordLine 85 = .ok (.goto 5, 3) := by decide +kernel
theorem dX12_wordLine_88 : decode cX12_wordLine 88 = .ok (.bipush 19, 2) := by decide +kernel
theorem dX12_wordLine_90 : decode cX12_wordLine 90 = .ok (.aload_n 0, 1) := by decide +kernel
theorem dX12_wordLine_91 : decode cX12_wordLine 91 = .ok (.getfield 41, 3) := by decide +kernel
theorem dX12_wordLine_94 : decode cX12_wordLine 94 = .ok (.iconst 0, 1) := by decide +kernel
theorem dX12_wordLine_95 : decode cX12_wordLine 95 = .ok (.iaload, 1) := by decide +kernel
theorem dX12_wordLine_96 : decode cX12_wordLine 96 = .ok (.iadd, 1) := by decide +kernel
theorem dX12_wordLine_97 : decode cX12_wordLine 97 = .ok (.aload_n 0, 1) := by decide +kernel
theorem dX12_wordLine_98 : decode cX12_wordLine 98 = .ok (.getfield 41, 3) := by decide +kernel
theorem dX12_wordLine_101 : decode cX12_wordLine 101 = .ok (.iconst 1, 1) := by decide +kernel
theorem dX12_wordLine_102 : decode cX12_wordLine 102 = .ok (.iaload, 1) := by decide +kernel
theorem dX12_wordLine_103 : decode cX12_wordLine 103 = .ok (.iastore, 1) := by decide +kernel
theorem dX12_wordLine_104 : decode cX12_wordLine 104 = .ok (.iconst 1, 1) := by decide +kernel
theorem dX12_wordLine_105 : decode cX12_wordLine 105 = .ok (.ireturn, 1) := by decide +kernel
noncomputable def fX12_wordLine (μ : zM) (x0 : Nat) (x1 : Int64) : Option (Int32 × zM) := zgd (zm_ck μ 12 x0) <|
  zb1 (if (lg_cmp x1 126892383759460) = 0 then (
  some 7)
  else (
  if (lg_cmp x1 32765925218805876) = 0 then (
  some 9)
  else (
  some 99)) : Option (Int32)) fun (s1 : Int32) =>
  zb2 (fX12_take μ x0 0 0 7) fun v5 m4 =>
  if v5 = 0 then (
  some (0, m4))
  else (
  zb2 (fX12_take m4 x0 1 0 s1) fun v8 m7 =>
  if v8 = 0 then (
  some (0, m7))
  else (
  zb1 (zm_gI m7 12 x0 22) fun v9 =>
  zc1 (if v9 = 0 then (
  some m7)
  else (
  zb1 (zm_gR m7 12 x0 19) fun v13 =>
  zb1 (if (lg_cmp x1 126892383759460) = 0 then (
  some 3)
  else (
  if (lg_cmp x1 32765925218805876) = 0 then (
  some 11)
  else (
  some 19)) : Option (Int32)) fun (s15 : Int32) =>
  zb1 (zm_gR m7 12 x0 20) fun v17 =>
  zb1 (zm_aI m7 0 v17 0) fun v19 =>
  zb1 (zm_gR m7 12 x0 20) fun v21 =>
  zb1 (zm_aI m7 0 v21 1) fun v23 =>
  zb1 (zm_sI m7 0 v13 (s15 + v19) v23) fun m25 =>
  some m25) : Option (zM)) fun (m11 : zM) =>
  some (1, m11)))
theorem fX12_wordLine_ck {μ : zM} {x0 : Nat} {x1 : Int64} {z : Int32 × zM} (h : fX12_wordLine μ x0 x1 = some z) : zm_ck μ 12 x0 = true := (zgd_s h).1
set_option maxHeartbeats 4000000 in
set_option maxRecDepth 100000 in
theorem cX12_wordLine_ok {μ : zM} {x0 : Nat} {x1 : Int64} {r : Int32} {mo : zM} (hf : fX12_wordLine μ x0 x1 = some (r, mo)) : zC yX12_wordLine cX12_wordLine 4 (some .boolean) 3 0 0 [.ref x0, .long x1] μ (some (.int r)) mo := by
  replace hf := (zgd_s hf).2
  refine zC.of (by decide) (Nat.le_of_ble_eq_true rfl) (fun K hin => ?_)
  clear hin
  show zz K cX12_wordLine (4, RX12, some .boolean, 3, 0, 0, some (.int r), mo) 0 0 0 [(0, .ref x0), (1, .long x1)] [] μ
  refine zr_lload_n 1 dX12_wordLine_0 rfl ?_
  refine zr_ldc2 zl_941 dX12_wordLine_1 ?_
  refine zr_lcmp dX12_wordLine_4 ?_
  replace hf := zb1_s hf
  obtain ⟨s1, hg, hf⟩ := hf
  have hj2 : zz K cX12_wordLine (4, RX12, some .boolean, 3, 0, 0, some (.int r), mo) 0 0 28 [(0, .ref x0), (1, .long x1)] [.int s1] μ := by
    refine zr_istore_n [(3, .int s1), (0, .ref x0), (1, .long x1)] dX12_wordLine_28 (Nat.le_of_ble_eq_true rfl) rfl ?_
    refine zr_aload_n 1 dX12_wordLine_29 rfl ?_
    refine zr_iconst 0 dX12_wordLine_30 (by decide) ?_
    refine zr_iconst 0 dX12_wordLine_31 (by decide) ?_
    refine zr_bipush 7 dX12_wordLine_32 (by decide) ?_
    replace hf := zb2_s hf
    obtain ⟨v5, m4, h3, hf⟩ := hf
    refine zr_callV (ci := 12) [.int 0, .int 0, .int 7] (cX12_take_ok h3) zvs_X12_take zl_935 zl_936 (fX12_take_ck h3) rfl rfl zl_934 rfl (Nat.le_of_ble_eq_true rfl) (Nat.le_of_ble_eq_true rfl) (Nat.le_of_ble_eq_true rfl) (Nat.le_of_ble_eq_true rfl) dX12_wordLine_34 rfl ?_
    refine zr_if_eq 50 dX12_wordLine_37 (by decide) (fun hc => ?_) (fun hc => ?_)
    · rw [if_pos hc] at hf
      refine zr_iconst 0 dX12_wordLine_50 (by decide) ?_
      cases hf
      exact zr_zret rfl dX12_wordLine_51
    · rw [if_neg hc] at hf
      refine zr_aload_n 1 dX12_wordLine_40 rfl ?_
      refine zr_iconst 1 dX12_wordLine_41 (by decide) ?_
      refine zr_iconst 0 dX12_wordLine_42 (by decide) ?_
      refine zr_iload_n 0 dX12_wordLine_43 rfl ?_
      replace hf := zb2_s hf
      obtain ⟨v8, m7, h6, hf⟩ := hf
      refine zr_callV (ci := 12) [.int 1, .int 0, .int s1] (cX12_take_ok h6) zvs_X12_take zl_935 zl_936 (fX12_take_ck h6) rfl rfl zl_934 rfl (Nat.le_of_ble_eq_true rfl) (Nat.le_of_ble_eq_true rfl) (Nat.le_of_ble_eq_true rfl) (Nat.le_of_ble_eq_true rfl) dX12_wordLine_44 rfl ?_
      refine zr_if_ne 52 dX12_wordLine_47 (by decide) (fun hc => ?_) (fun hc => ?_)
      · rw [if_neg hc] at hf
        refine zr_aload_n 1 dX12_wordLine_52 rfl ?_
        replace hf := zb1_s hf
        obtain ⟨v9, h10, hf⟩ := hf
        refine zr_get (zm_gI_g h10) zk12 (by decide) zl_925 dX12_wordLine_53 ?_
        replace hf := zc1_s hf
        obtain ⟨m11, hg, hf⟩ := hf
        have hj12 : zz K cX12_wordLine (4, RX12, some .boolean, 3, 0, 0, some (.int r), mo) 0 0 104 [] [] m11 := by
          refine zr_iconst 1 dX12_wordLine_104 (by decide) ?_
          cases hf
          exact zr_zret rfl dX12_wordLine_105
        clear hf
        have hf := hg
        clear hg
        refine zr_if_eq 104 dX12_wordLine_56 (by decide) (fun hc => ?_) (fun hc => ?_)
        · rw [if_pos hc] at hf
          cases hf
          exact zr_lv [] rfl hj12
        · rw [if_neg hc] at hf
          refine zr_aload_n 1 dX12_wordLine_59 rfl ?_
          replace hf := zb1_s hf
          obtain ⟨v13, h14, hf⟩ := hf
          refine zr_get (zm_gR_g h14) zk12 (by decide) zl_873 dX12_wordLine_60 ?_
          refine zr_lload_n 2 dX12_wordLine_63 rfl ?_
          refine zr_ldc2 zl_941 dX12_wordLine_64 ?_
          refine zr_lcmp dX12_wordLine_67 ?_
          replace hf := zb1_s hf
          obtain ⟨s15, hg, hf⟩ := hf
          have hj16 : zz K cX12_wordLine (4, RX12, some .boolean, 3, 0, 0, some (.int r), mo) 0 0 90 [(0, .ref x0)] [.int s15, .ref v13] m7 := by
            refine zr_aload_n 0 dX12_wordLine_90 rfl ?_
            replace hf := zb1_s hf
            obtain ⟨v17, h18, hf⟩ := hf
            refine zr_get (zm_gR_g h18) zk12 (by decide) zl_874 dX12_wordLine_91 ?_
            refine zr_iconst 0 dX12_wordLine_94 (by decide) ?_
            replace hf := zb1_s hf
            obtain ⟨v19, h20, hf⟩ := hf
            refine zr_iald h20 dX12_wordLine_95 ?_
            refine zr_iadd dX12_wordLine_96 ?_
            refine zr_aload_n 0 dX12_wordLine_97 rfl ?_
            replace hf := zb1_s hf
            obtain ⟨v21, h22, hf⟩ := hf
            refine zr_get (zm_gR_g h22) zk12 (by decide) zl_874 dX12_wordLine_98 ?_
            refine zr_iconst 1 dX12_wordLine_101 (by decide) ?_
            replace hf := zb1_s hf
            obtain ⟨v23, h24, hf⟩ := hf
            refine zr_iald h24 dX12_wordLine_102 ?_
            replace hf := zb1_s hf
            obtain ⟨m25, h26, hf⟩ := hf
            refine zr_iast h26 dX12_wordLine_103 ?_
            cases hf
            exact zr_lv [] rfl hj12
          clear hf
          have hf := hg
          clear hg
          refine zr_if_ne 75 dX12_wordLine_68 (by decide) (fun hc => ?_) (fun hc => ?_)
          · rw [if_neg hc] at hf
            refine zr_lload_n 2 dX12_wordLine_75 rfl ?_
            refine zr_ldc2 zl_942 dX12_wordLine_76 ?_
            refine zr_lcmp dX12_wordLine_79 ?_
            refine zr_if_ne 88 dX12_wordLine_80 (by decide) (fun hc => ?_) (fun hc => ?_)
            · rw [if_neg hc] at hf
              refine zr_bipush 19 dX12_wordLine_88 (by decide) ?_
              cases hf
              exact zr_lv [1] rfl hj16
            · rw [if_pos hc] at hf
              refine zr_bipush 11 dX12_wordLine_83 (by decide) ?_
              refine zr_goto 90 dX12_wordLine_85 (by decide) ?_
              cases hf
              exact zr_lv [1] rfl hj16
          · rw [if_pos hc] at hf
            refine zr_iconst 3 dX12_wordLine_71 (by decide) ?_
            refine zr_goto 90 dX12_wordLine_72 (by decide) ?_
            cases hf
            exact zr_lv [1] rfl hj16
      · rw [if_pos hc] at hf
        refine zr_iconst 0 dX12_wordLine_50 (by decide) ?_
        cases hf
        exact zr_zret rfl dX12_wordLine_51
  clear hf
  have hf := hg
  clear hg
  refine zr_if_ne 13 dX12_wordLine_5 (by decide) (fun hc => ?_) (fun hc => ?_)
  · rw [if_neg hc] at hf
    refine zr_lload_n 1 dX12_wordLine_13 rfl ?_
    refine zr_ldc2 zl_942 dX12_wordLine_14 ?_
    refine zr_lcmp dX12_wordLine_17 ?_
    refine zr_if_ne 26 dX12_wordLine_18 (by decide) (fun hc => ?_) (fun hc => ?_)
    · rw [if_neg hc] at hf
      refine zr_bipush 99 dX12_wordLine_26 (by decide) ?_
      cases hf
      exact zr_lv [0, 1] rfl hj2
    · rw [if_pos hc] at hf
      refine zr_bipush 9 dX12_wordLine_21 (by decide) ?_
      refine zr_goto 28 dX12_wordLine_23 (by decide) ?_
      cases hf
      exact zr_lv [0, 1] rfl hj2
  · rw [if_pos hc] at hf
    refine zr_bipush 7 dX12_wordLine_8 (by decide) ?_
    refine zr_goto 28 dX12_wordLine_10 (by decide) ?_
    cases hf
    exact zr_lv [0, 1] rfl hj2
theorem zl_943 : Cond.code yX12_kindBy cX12_kindBy 2 (some .int) ∈ zt := zt_at 1558 (by decide +kernel)
theorem zvs_X12_kindBy : zvS yX12_kindBy cX12_kindBy 2 (some .int) 1 := ⟨zl_943, zl_893, ⟨by decide +kernel, by decide +kernel, by decide +kernel⟩, by decide⟩
theorem zl_944 : Cond.methodLink RX12 176 yX12_kindBy ∈ zt := zt_at 1556 (by decide +kernel)
theorem zl_945 : Cond.static yX12_kindBy ∈ zt := zt_at 1557 (by decide +kernel)
theorem zl_946 : Cond.constantLong RX12 180 6713191 ∈ zt := zt_at 1562 (by decide +kernel)
theorem zl_947 : Cond.constantLong RX12 184 2003395685 ∈ zt := zt_at 1564 (by decide +kernel)
theorem zl_948 : Cond.code yX12_wordLine cX12_wordLine 4 (some .boolean) ∈ zt := zt_at 1598 (by decide +kernel)
theorem zvs_X12_wordLine : zvS yX12_wordLine cX12_wordLine 4 (some .boolean) 1 := ⟨zl_948, zl_893, ⟨by decide +kernel, by decide +kernel, by decide +kernel⟩, by decide⟩
theorem zl_949 : Cond.methodLink RX12 200 yX12_wordLine ∈ zt := zt_at 1595 (by decide +kernel)
theorem zl_950 : Cond.instanceMethod yX12_wordLine ∈ zt := zt_at 1597 (by decide +kernel)
theorem zl_951 : Cond.selects RX12 yX12_wordLine yX12_wordLine ∈ zt := zt_at 62 (by decide +kernel)
theorem zl_952 : Cond.constantLong RX12 182 1936617335 ∈ zt := zt_at 1563 (by decide +kernel)
theorem zl_953 : Cond.code yX12_skyLine cX12_skyLine 3 (some .boolean) ∈ zt := zt_at 1594 (by decide +kernel)
theorem zvs_X12_skyLine : zvS yX12_skyLine cX12_skyLine 3 (some .boolean) 1 := ⟨zl_953, zl_893, ⟨by decide +kernel, by decide +kernel, by decide +kernel⟩, by decide⟩
theorem zl_954 : Cond.methodLink RX12 196 yX12_skyLine ∈ zt := zt_at 1591 (by decide +kernel)
theorem zl_955 : Cond.instanceMethod yX12_skyLine ∈ zt := zt_at 1593 (by decide +kernel)
theorem zl_956 : Cond.selects RX12 yX12_skyLine yX12_skyLine ∈ zt := zt_at 61 (by decide +kernel)
theorem zl_957 : Cond.code yX12_personLine cX12_personLine 3 (some .boolean) ∈ zt := zt_at 1583 (by decide +kernel)
theorem zvs_X12_personLine : zvS yX12_personLine cX12_personLine 3 (some .boolean) 1 := ⟨zl_957, zl_893, ⟨by decide +kernel, by decide +kernel, by decide +kernel⟩, by decide⟩
theorem zl_958 : Cond.methodLink RX12 192 yX12_personLine ∈ zt := zt_at 1580 (by decide +kernel)
theorem zl_959 : Cond.instanceMethod yX12_personLine ∈ zt := zt_at 1582 (by decide +kernel)
theorem zl_960 : Cond.selects RX12 yX12_personLine yX12_personLine ∈ zt := zt_at 59 (by decide +kernel)
theorem zl_961 : Cond.code yX12_full cX12_full 4 (none) ∈ zt := zt_at 1575 (by decide +kernel)
theorem zvs_X12_full : zvS yX12_full cX12_full 4 (none) 3 := ⟨zl_961, zl_893, ⟨by decide +kernel, by decide +kernel, by decide +kernel⟩, by decide⟩
theorem zl_962 : Cond.methodLink RX12 188 yX12_full ∈ zt := zt_at 1572 (by decide +kernel)
theorem zl_963 : Cond.instanceMethod yX12_full ∈ zt := zt_at 1574 (by decide +kernel)
theorem zl_964 : Cond.selects RX12 yX12_full yX12_full ∈ zt := zt_at 57 (by decide +kernel)
theorem zl_965 : Cond.constantLong RX12 186 131277443786868 ∈ zt := zt_at 1567 (by decide +kernel)
theorem dX12_valleyLine_0 : decode cX12_valleyLine 0 = .ok (.lload_n 1, 1) := by decide +kernel
theorem dX12_valleyLine_1 : decode cX12_valleyLine 1 = .ok (.invokestatic 176, 3) := by decide +kernel
theorem dX12_valleyLine_4 : decode cX12_valleyLine 4 = .ok (.istore 4, 2) := by decide +kernel
theorem dX12_valleyLine_6 : decode cX12_valleyLine 6 = .ok (.lload_n 1, 1) := by decide +kernel
theorem dX12_valleyLine_7 : decode cX12_valleyLine 7 = .ok (.ldc2_w 180, 3) := by decide +kernel
theorem dX12_valleyLine_10 : decode cX12_valleyLine 10 = .ok (.lcmp, 1) := by decide +kernel
theorem dX12_valleyLine_11 : decode cX12_valleyLine 11 = .ok (.ifCond .eq 11, 3) := by decide +kernel
theorem dX12_valleyLine_14 : decode cX12_valleyLine 14 = .ok (.lload_n 1, 1) := by decide +kernel
theorem dX12_valleyLine_15 : decode cX12_valleyLine 15 = .ok (.ldc2_w 182, 3) := by decide +kernel
theorem dX12_valleyLine_18 : decode cX12_valleyLine 18 = .ok (.lcmp, 1) := by decide +kernel
theorem dX12_valleyLine_19 : decode cX12_valleyLine 19 = .ok (.ifCond .ne 7, 3) := by decide +kernel
theorem dX12_valleyLine_22 : decode cX12_valleyLine 22 = .ok (.iconst 1, 1) := by decide +kernel
theorem dX12_valleyLine_23 : decode cX12_valleyLine 23 = .ok (.goto 4, 3) := by decide +kernel
theorem dX12_valleyLine_26 : decode cX12_valleyLine 26 = .ok (.iconst 0, 1) := by decide +kernel
theorem dX12_valleyLine_27 : decode cX12_valleyLine 27 = .ok (.istore 5, 2) := by decide +kernel
theorem dX12_valleyLine_29 : decode cX12_valleyLine 29 = .ok (.iload 4, 2) := by decide +kernel
theorem dX12_valleyLine_31 : decode cX12_valleyLine 31 = .ok (.iconst (-1), 1) := by decide +kernel
theorem dX12_valleyLine_32 : decode cX12_valleyLine 32 = .ok (.if_icmp .ne 45, 3) := by decide +kernel
theorem dX12_valleyLine_35 : decode cX12_valleyLine 35 = .ok (.iload 5, 2) := by decide +kernel
theorem dX12_valleyLine_37 : decode cX12_valleyLine 37 = .ok (.ifCond .ne 40, 3) := by decide +kernel
theorem dX12_valleyLine_40 : decode cX12_valleyLine 40 = .ok (.lload_n 1, 1) := by decide +kernel
theorem dX12_valleyLine_41 : decode cX12_valleyLine 41 = .ok (.ldc2_w 184, 3) := by decide +kernel
theorem dX12_valleyLine_44 : decode cX12_valleyLine 44 = .ok (.lcmp, 1) := by decide +kernel
theorem dX12_valleyLine_45 : decode cX12_valleyLine 45 = .ok (.ifCond .eq 32, 3) := by decide +kernel
theorem dX12_valleyLine_48 : decode cX12_valleyLine 48 = .ok (.lload_n 1, 1) := by decide +kernel
theorem dX12_valleyLine_49 : decode cX12_valleyLine 49 = .ok (.ldc2_w 172, 3) := by decide +kernel
theorem dX12_valleyLine_52 : decode cX12_valleyLine 52 = .ok (.lcmp, 1) := by decide +kernel
theorem dX12_valleyLine_53 : decode cX12_valleyLine 53 = .ok (.ifCond .eq 24, 3) := by decide +kernel
theorem dX12_valleyLine_56 : decode cX12_valleyLine 56 = .ok (.lload_n 1, 1) := by decide +kernel
theorem dX12_valleyLine_57 : decode cX12_valleyLine 57 = .ok (.ldc2_w 174, 3) := by decide +kernel
theorem dX12_valleyLine_60 : decode cX12_valleyLine 60 = .ok (.lcmp, 1) := by decide +kernel
theorem dX12_valleyLine_61 : decode cX12_valleyLine 61 = .ok (.ifCond .eq 16, 3) := by decide +kernel
theorem dX12_valleyLine_64 : decode cX12_valleyLine 64 = .ok (.lload_n 1, 1) := by decide +kernel
theorem dX12_valleyLine_65 : decode cX12_valleyLine 65 = .ok (.ldc2_w 186, 3) := by decide +kernel
theorem dX12_valleyLine_68 : decode cX12_valleyLine 68 = .ok (.lcmp, 1) := by decide +kernel
theorem dX12_valleyLine_69 : decode cX12_valleyLine 69 = .ok (.ifCond .eq 8, 3) := by decide +kernel
theorem dX12_valleyLine_72 : decode cX12_valleyLine 72 = .ok (.aload_n 0, 1) := by decide +kernel
theorem dX12_valleyLine_73 : decode cX12_valleyLine 73 = .ok (.invokevirtual 141, 3) := by decide +kernel
theorem dX12_valleyLine_76 : decode cX12_valleyLine 76 = .ok (.ireturn, 1) := by decide +kernel
theorem dX12_valleyLine_77 : decode cX12_valleyLine 77 = .ok (.iload 4, 2) := by decide +kernel
theorem dX12_valleyLine_79 : decode cX12_valleyLine 79 = .ok (.iconst (-1), 1) := by decide +kernel
theorem dX12_valleyLine_80 : decode cX12_valleyLine 80 = .ok (.if_icmp .eq 11, 3) := by decide +kernel
theorem dX12_valleyLine_83 : decode cX12_valleyLine 83 = .ok (.aload_n 0, 1) := by decide +kernel
theorem dX12_valleyLine_84 : decode cX12_valleyLine 84 = .ok (.iconst 1, 1) := by decide +kernel
theorem dX12_valleyLine_85 : decode cX12_valleyLine 85 = .ok (.bipush 6, 2) := by decide +kernel
theorem dX12_valleyLine_87 : decode cX12_valleyLine 87 = .ok (.iload_n 3, 1) := by decide +kernel
theorem dX12_valleyLine_88 : decode cX12_valleyLine 88 = .ok (.invokevirtual 188, 3) := by decide +kernel
theorem dX12_valleyLine_91 : decode cX12_valleyLine 91 = .ok (.iload 5, 2) := by decide +kernel
theorem dX12_valleyLine_93 : decode cX12_valleyLine 93 = .ok (.ifCond .eq 10, 3) := by decide +kernel
theorem dX12_valleyLine_96 : decode cX12_valleyLine 96 = .ok (.aload_n 0, 1) := by decide +kernel
theorem dX12_valleyLine_97 : decode cX12_valleyLine 97 = .ok (.iconst 2, 1) := by decide +kernel
theorem dX12_valleyLine_98 : decode cX12_valleyLine 98 = .ok (.iconst 4, 1) := by decide +kernel
theorem dX12_valleyLine_99 : decode cX12_valleyLine 99 = .ok (.iload_n 3, 1) := by decide +kernel
theorem dX12_valleyLine_100 : decode cX12_valleyLine 100 = .ok (.invokevirtual 188, 3) := by decide +kernel
theorem dX12_valleyLine_103 : decode cX12_valleyLine 103 = .ok (.aload_n 0, 1) := by decide +kernel
theorem dX12_valleyLine_104 : decode cX12_valleyLine 104 = .ok (.invokevirtual 153, 3) := by decide +kernel
theorem dX12_valleyLine_107 : decode cX12_valleyLine 107 = .ok (.iload 4, 2) := by decide +kernel
theorem dX12_valleyLine_109 : decode cX12_valleyLine 109 = .ok (.iconst (-1), 1) := by decide +kernel
theorem dX12_valleyLine_110 : decode cX12_valleyLine 110 = .ok (.if_icmp .eq 10, 3) := by decide +kernel
theorem dX12_valleyLine_113 : decode cX12_valleyLine 113 = .ok (.aload_n 0, 1) := by decide +kernel
theorem dX12_valleyLine_114 : decode cX12_valleyLine 114 = .ok (.iload 4, 2) := by decide +kernel
theorem dX12_valleyLine_116 : decode cX12_valleyLine 116 = .ok (.invokevirtual 192, 3) := by decide +kernel
theorem dX12_valleyLine_119 : decode cX12_valleyLine 119 = .ok (.ireturn, 1) := by decide +kernel
theorem dX12_valleyLine_120 : decode cX12_valleyLine 120 = .ok (.iload 5, 2) := by decide +kernel
theorem dX12_valleyLine_122 : decode cX12_valleyLine 122 = .ok (.ifCond .eq 21, 3) := by decide +kernel
theorem dX12_valleyLine_125 : decode cX12_valleyLine 125 = .ok (.aload_n 0, 1) := by decide +kernel
theorem dX12_valleyLine_126 : decode cX12_valleyLine 126 = .ok (.lload_n 1, 1) := by decide +kernel
theorem dX12_valleyLine_127 : decode cX12_valleyLine 127 = .ok (.ldc2_w 182, 3) := by decide +kernel
theorem dX12_valleyLine_130 : decode cX12_valleyLine 130 = .ok (.lcmp, 1) := by decide +kernel
theorem dX12_valleyLine_131 : decode cX12_valleyLine 131 = .ok (.ifCond .ne 7, 3) := by decide +kernel
theorem dX12_valleyLine_134 : decode cX12_valleyLine 134 = .ok (.iconst 1, 1) := by decide +kernel
theorem dX12_valleyLine_135 : decode cX12_valleyLine 135 = .ok (.goto 4, 3) := by decide +kernel
theorem dX12_valleyLine_138 : decode cX12_valleyLine 138 = .ok (.iconst 0, 1) := by decide +kernel
theorem dX12_valleyLine_139 : decode cX12_valleyLine 139 = .ok (.invokevirtual 196, 3) := by decide +kernel
theorem dX12_valleyLine_142 : decode cX12_valleyLine 142 = .ok (.ireturn, 1) := by decide +kernel
theorem dX12_valleyLine_143 : decode cX12_valleyLine 143 = .ok (.lload_n 1, 1) := by decide +kernel
theorem dX12_valleyLine_144 : decode cX12_valleyLine 144 = .ok (.ldc2_w 184, 3) := by decide +kernel
theorem dX12_valleyLine_147 : decode cX12_valleyLine 147 = .ok (.lcmp, 1) := by decide +kernel
theorem dX12_valleyLine_148 : decode cX12_valleyLine 148 = .ok (.ifCond .eq 9, 3) := by decide +kernel
theorem dX12_valleyLine_151 : decode cX12_valleyLine 151 = .ok (.aload_n 0, 1) := by decide +kernel
theorem dX12_valleyLine_152 : decode cX12_valleyLine 152 = .ok (.lload_n 1, 1) := by decide +kernel
theorem dX12_valleyLine_153 : decode cX12_valleyLine 153 = .ok (.invokevirtual 200, 3) := by decide +kernel
theorem dX12_valleyLine_156 : decode cX12_valleyLine 156 = .ok (.ireturn, 1) := by decide +kernel
theorem dX12_valleyLine_157 : decode cX12_valleyLine 157 = .ok (.aload_n 0, 1) := by decide +kernel
theorem dX12_valleyLine_158 : decode cX12_valleyLine 158 = .ok (.iconst 0, 1) := by decide +kernel
theorem dX12_valleyLine_159 : decode cX12_valleyLine 159 = .ok (.iconst 2, 1) := by decide +kernel
theorem dX12_valleyLine_160 : decode cX12_valleyLine 160 = .ok (.bipush 30, 2) := by decide +kernel
theorem dX12_valleyLine_162 : decode cX12_valleyLine 162 = .ok (.invokevirtual 162, 3) := by decide +kernel
theorem dX12_valleyLine_165 : decode cX12_valleyLine 165 = .ok (.ifCond .ne 5, 3) := by decide +kernel
theorem dX12_valleyLine_168 : decode cX12_valleyLine 168 = .ok (.iconst 0, 1) := by decide +kernel
theorem dX12_valleyLine_169 : decode cX12_valleyLine 169 = .ok (.ireturn, 1) := by decide +kernel
theorem dX12_valleyLine_170 : decode cX12_valleyLine 170 = .ok (.aload_n 0, 1) := by decide +kernel
theorem dX12_valleyLine_171 : decode cX12_valleyLine 171 = .ok (.getfield 38, 3) := by decide +kernel
theorem dX12_valleyLine_174 : decode cX12_valleyLine 174 = .ok (.iconst 0, 1) := by decide +kernel
theorem dX12_valleyLine_175 : decode cX12_valleyLine 175 = .ok (.aload_n 0, 1) := by decide +kernel
theorem dX12_valleyLine_176 : decode cX12_valleyLine 176 = .ok (.getfield 41, 3) := by decide +kernel
theorem dX12_valleyLine_179 : decode cX12_valleyLine 179 = .ok (.iconst 0, 1) := by decide +kernel
theorem dX12_valleyLine_180 : decode cX12_valleyLine 180 = .ok (.iaload, 1) := by decide +kernel
theorem dX12_valleyLine_181 : decode cX12_valleyLine 181 = .ok (.iastore, 1) := by decide +kernel
theorem dX12_valleyLine_182 : decode cX12_valleyLine 182 = .ok (.iconst 1, 1) := by decide +kernel
theorem dX12_valleyLine_183 : decode cX12_valleyLine 183 = .ok (.ireturn, 1) := by decide +kernel
noncomputable def fX12_valleyLine_b22  : Option (Int32) :=
  some 1
noncomputable def fX12_valleyLine_b77 (v2 : Int32) (μ : zM) (x0 : Nat) (x3 : Int32) (s3 : Int32) (x1 : Int64) : Option (Int32 × zM) :=
  zc1 (if v2 = (-1) then (
  some μ)
  else (
  zb1 (fX12_full μ x0 1 6 x3) fun m43 =>
  some m43) : Option (zM)) fun (m6 : zM) =>
  zc1 (if s3 = 0 then (
  some m6)
  else (
  zb1 (fX12_full m6 x0 2 4 x3) fun m41 =>
  some m41) : Option (zM)) fun (m8 : zM) =>
  zb1 (fX12_token m8 x0) fun m11 =>
  if v2 = (-1) then (
  if s3 = 0 then (
  if (lg_cmp x1 2003395685) = 0 then (
  zb2 (fX12_take m11 x0 0 2 30) fun v14 m13 =>
  if v14 = 0 then (
  some (0, m13))
  else (
  zb1 (zm_gR m13 12 x0 19) fun v15 =>
  zb1 (zm_gR m13 12 x0 20) fun v17 =>
  zb1 (zm_aI m13 0 v17 0) fun v19 =>
  zb1 (zm_sI m13 0 v15 0 v19) fun m21 =>
  some (1, m21)))
  else (
  zb2 (fX12_wordLine m11 x0 x1) fun v25 m24 =>
  zb1 (zbz v25) fun v26 =>
  some (v26, m24)))
  else (
  zb1 (if (lg_cmp x1 1936617335) = 0 then (
  some 1)
  else (
  some 0) : Option (Int32)) fun (s28 : Int32) =>
  zb2 (fX12_skyLine m11 x0 s28) fun v32 m31 =>
  zb1 (zbz v32) fun v33 =>
  some (v33, m31)))
  else (
  zb2 (fX12_personLine m11 x0 v2) fun v37 m36 =>
  zb1 (zbz v37) fun v38 =>
  some (v38, m36))
noncomputable def fX12_valleyLine (μ : zM) (x0 : Nat) (x1 : Int64) (x3 : Int32) : Option (Int32 × zM) := zgd (zm_ck μ 12 x0) <|
  zb1 (fX12_kindBy μ x1) fun v2 =>
  zb1 (if (lg_cmp x1 6713191) = 0 then (
  fX12_valleyLine_b22)
  else (
  if (lg_cmp x1 1936617335) = 0 then (
  fX12_valleyLine_b22)
  else (
  some 0)) : Option (Int32)) fun (s3 : Int32) =>
  if v2 = (-1) then (
  if s3 = 0 then (
  if (lg_cmp x1 2003395685) = 0 then (
  fX12_valleyLine_b77 v2 μ x0 x3 s3 x1)
  else (
  if (lg_cmp x1 126892383759460) = 0 then (
  fX12_valleyLine_b77 v2 μ x0 x3 s3 x1)
  else (
  if (lg_cmp x1 32765925218805876) = 0 then (
  fX12_valleyLine_b77 v2 μ x0 x3 s3 x1)
  else (
  if (lg_cmp x1 131277443786868) = 0 then (
  fX12_valleyLine_b77 v2 μ x0 x3 s3 x1)
  else (
  zb2 (fX12_fails μ x0) fun v47 m46 =>
  zb1 (zbz v47) fun v48 =>
  some (v48, m46))))))
  else (
  fX12_valleyLine_b77 v2 μ x0 x3 s3 x1))
  else (
  fX12_valleyLine_b77 v2 μ x0 x3 s3 x1)
theorem fX12_valleyLine_ck {μ : zM} {x0 : Nat} {x1 : Int64} {x3 : Int32} {z : Int32 × zM} (h : fX12_valleyLine μ x0 x1 x3 = some z) : zm_ck μ 12 x0 = true := (zgd_s h).1
set_option maxHeartbeats 4000000 in
set_option maxRecDepth 100000 in
theorem cX12_valleyLine_ok {μ : zM} {x0 : Nat} {x1 : Int64} {x3 : Int32} {r : Int32} {mo : zM} (hf : fX12_valleyLine μ x0 x1 x3 = some (r, mo)) : zC yX12_valleyLine cX12_valleyLine 6 (some .boolean) 4 0 0 [.ref x0, .long x1, .int x3] μ (some (.int r)) mo := by
  replace hf := (zgd_s hf).2
  refine zC.of (by decide) (Nat.le_of_ble_eq_true rfl) (fun K hin => ?_)
  clear hin
  show zz K cX12_valleyLine (6, RX12, some .boolean, 4, 0, 0, some (.int r), mo) 0 0 0 [(0, .ref x0), (1, .long x1), (3, .int x3)] [] μ
  refine zr_lload_n 1 dX12_valleyLine_0 rfl ?_
  replace hf := zb1_s hf
  obtain ⟨v2, h1, hf⟩ := hf
  refine zr_callS [.long x1] (cX12_kindBy_ok h1) zvs_X12_kindBy zl_945 zl_944 rfl (Nat.le_of_ble_eq_true rfl) (Nat.le_of_ble_eq_true rfl) (Nat.le_of_ble_eq_true rfl) (Nat.le_of_ble_eq_true rfl) dX12_valleyLine_1 rfl ?_
  refine zr_istore [(4, .int v2), (0, .ref x0), (1, .long x1), (3, .int x3)] dX12_valleyLine_4 (Nat.le_of_ble_eq_true rfl) rfl ?_
  refine zr_lload_n 2 dX12_valleyLine_6 rfl ?_
  refine zr_ldc2 zl_946 dX12_valleyLine_7 ?_
  refine zr_lcmp dX12_valleyLine_10 ?_
  replace hf := zb1_s hf
  obtain ⟨s3, hg, hf⟩ := hf
  have hj4 : zz K cX12_valleyLine (6, RX12, some .boolean, 4, 0, 0, some (.int r), mo) 0 0 27 [(0, .ref x0), (1, .long x1), (3, .int x3), (4, .int v2)] [.int s3] μ := by
    refine zr_istore [(5, .int s3), (0, .ref x0), (1, .long x1), (3, .int x3), (4, .int v2)] dX12_valleyLine_27 (Nat.le_of_ble_eq_true rfl) rfl ?_
    refine zr_iload 4 dX12_valleyLine_29 rfl ?_
    refine zr_iconst (-1) dX12_valleyLine_31 (by decide) ?_
    have hb44 : ∀ (_ : Unit), fX12_valleyLine_b77 v2 μ x0 x3 s3 x1 = some (r, mo) → zz K cX12_valleyLine (6, RX12, some .boolean, 4, 0, 0, some (.int r), mo) 0 0 77 [(0, .ref x0), (1, .long x1), (3, .int x3), (4, .int v2), (5, .int s3)] [] μ := by
      intro _ hf
      unfold fX12_valleyLine_b77 at hf
      refine zr_iload 3 dX12_valleyLine_77 rfl ?_
      refine zr_iconst (-1) dX12_valleyLine_79 (by decide) ?_
      replace hf := zc1_s hf
      obtain ⟨m6, hg, hf⟩ := hf
      have hj7 : zz K cX12_valleyLine (6, RX12, some .boolean, 4, 0, 0, some (.int r), mo) 0 0 91 [(0, .ref x0), (1, .long x1), (3, .int x3), (4, .int v2), (5, .int s3)] [] m6 := by
        refine zr_iload 4 dX12_valleyLine_91 rfl ?_
        replace hf := zc1_s hf
        obtain ⟨m8, hg, hf⟩ := hf
        have hj9 : zz K cX12_valleyLine (6, RX12, some .boolean, 4, 0, 0, some (.int r), mo) 0 0 103 [(0, .ref x0), (1, .long x1), (4, .int v2), (5, .int s3)] [] m8 := by
          refine zr_aload_n 0 dX12_valleyLine_103 rfl ?_
          replace hf := zb1_s hf
          obtain ⟨m11, h10, hf⟩ := hf
          refine zr_callV (ci := 12) [] (cX12_token_ok h10) zvs_X12_token zl_919 zl_920 (fX12_token_ck h10) rfl rfl zl_918 rfl (Nat.le_of_ble_eq_true rfl) (Nat.le_of_ble_eq_true rfl) (Nat.le_of_ble_eq_true rfl) (Nat.le_of_ble_eq_true rfl) dX12_valleyLine_104 rfl ?_
          refine zr_iload 2 dX12_valleyLine_107 rfl ?_
          refine zr_iconst (-1) dX12_valleyLine_109 (by decide) ?_
          refine zr_icmp_eq 120 dX12_valleyLine_110 (by decide) (fun hc => ?_) (fun hc => ?_)
          · rw [if_pos hc] at hf
            refine zr_iload 3 dX12_valleyLine_120 rfl ?_
            refine zr_if_eq 143 dX12_valleyLine_122 (by decide) (fun hc => ?_) (fun hc => ?_)
            · rw [if_pos hc] at hf
              refine zr_lload_n 1 dX12_valleyLine_143 rfl ?_
              refine zr_ldc2 zl_947 dX12_valleyLine_144 ?_
              refine zr_lcmp dX12_valleyLine_147 ?_
              refine zr_if_eq 157 dX12_valleyLine_148 (by decide) (fun hc => ?_) (fun hc => ?_)
              · rw [if_pos hc] at hf
                refine zr_aload_n 0 dX12_valleyLine_157 rfl ?_
                refine zr_iconst 0 dX12_valleyLine_158 (by decide) ?_
                refine zr_iconst 2 dX12_valleyLine_159 (by decide) ?_
                refine zr_bipush 30 dX12_valleyLine_160 (by decide) ?_
                replace hf := zb2_s hf
                obtain ⟨v14, m13, h12, hf⟩ := hf
                refine zr_callV (ci := 12) [.int 0, .int 2, .int 30] (cX12_take_ok h12) zvs_X12_take zl_935 zl_936 (fX12_take_ck h12) rfl rfl zl_934 rfl (Nat.le_of_ble_eq_true rfl) (Nat.le_of_ble_eq_true rfl) (Nat.le_of_ble_eq_true rfl) (Nat.le_of_ble_eq_true rfl) dX12_valleyLine_162 rfl ?_
                refine zr_if_ne 170 dX12_valleyLine_165 (by decide) (fun hc => ?_) (fun hc => ?_)
                · rw [if_neg hc] at hf
                  refine zr_aload_n 0 dX12_valleyLine_170 rfl ?_
                  replace hf := zb1_s hf
                  obtain ⟨v15, h16, hf⟩ := hf
                  refine zr_get (zm_gR_g h16) zk12 (by decide) zl_873 dX12_valleyLine_171 ?_
                  refine zr_iconst 0 dX12_valleyLine_174 (by decide) ?_
                  refine zr_aload_n 0 dX12_valleyLine_175 rfl ?_
                  replace hf := zb1_s hf
                  obtain ⟨v17, h18, hf⟩ := hf
                  refine zr_get (zm_gR_g h18) zk12 (by decide) zl_874 dX12_valleyLine_176 ?_
                  refine zr_iconst 0 dX12_valleyLine_179 (by decide) ?_
                  replace hf := zb1_s hf
                  obtain ⟨v19, h20, hf⟩ := hf
                  refine zr_iald h20 dX12_valleyLine_180 ?_
                  replace hf := zb1_s hf
                  obtain ⟨m21, h22, hf⟩ := hf
                  refine zr_iast h22 dX12_valleyLine_181 ?_
                  refine zr_iconst 1 dX12_valleyLine_182 (by decide) ?_
                  cases hf
                  exact zr_zret rfl dX12_valleyLine_183
                · rw [if_pos hc] at hf
                  refine zr_iconst 0 dX12_valleyLine_168 (by decide) ?_
                  cases hf
                  exact zr_zret rfl dX12_valleyLine_169
              · rw [if_neg hc] at hf
                refine zr_aload_n 0 dX12_valleyLine_151 rfl ?_
                refine zr_lload_n 1 dX12_valleyLine_152 rfl ?_
                replace hf := zb2_s hf
                obtain ⟨v25, m24, h23, hf⟩ := hf
                refine zr_callV (ci := 12) [.long x1] (cX12_wordLine_ok h23) zvs_X12_wordLine zl_950 zl_951 (fX12_wordLine_ck h23) rfl rfl zl_949 rfl (Nat.le_of_ble_eq_true rfl) (Nat.le_of_ble_eq_true rfl) (Nat.le_of_ble_eq_true rfl) (Nat.le_of_ble_eq_true rfl) dX12_valleyLine_153 rfl ?_
                replace hf := zb1_s hf
                obtain ⟨v26, hn27, hf⟩ := hf
                replace hn27 := zbz_s hn27
                obtain ⟨hn27, rfl⟩ := hn27
                cases hf
                exact zr_zret hn27 dX12_valleyLine_156
            · rw [if_neg hc] at hf
              refine zr_aload_n 0 dX12_valleyLine_125 rfl ?_
              refine zr_lload_n 1 dX12_valleyLine_126 rfl ?_
              refine zr_ldc2 zl_952 dX12_valleyLine_127 ?_
              refine zr_lcmp dX12_valleyLine_130 ?_
              replace hf := zb1_s hf
              obtain ⟨s28, hg, hf⟩ := hf
              have hj29 : zz K cX12_valleyLine (6, RX12, some .boolean, 4, 0, 0, some (.int r), mo) 0 0 139 [] [.int s28, .ref x0] m11 := by
                replace hf := zb2_s hf
                obtain ⟨v32, m31, h30, hf⟩ := hf
                refine zr_callV (ci := 12) [.int s28] (cX12_skyLine_ok h30) zvs_X12_skyLine zl_955 zl_956 (fX12_skyLine_ck h30) rfl rfl zl_954 rfl (Nat.le_of_ble_eq_true rfl) (Nat.le_of_ble_eq_true rfl) (Nat.le_of_ble_eq_true rfl) (Nat.le_of_ble_eq_true rfl) dX12_valleyLine_139 rfl ?_
                replace hf := zb1_s hf
                obtain ⟨v33, hn34, hf⟩ := hf
                replace hn34 := zbz_s hn34
                obtain ⟨hn34, rfl⟩ := hn34
                cases hf
                exact zr_zret hn34 dX12_valleyLine_142
              clear hf
              have hf := hg
              clear hg
              refine zr_if_ne 138 dX12_valleyLine_131 (by decide) (fun hc => ?_) (fun hc => ?_)
              · rw [if_neg hc] at hf
                refine zr_iconst 0 dX12_valleyLine_138 (by decide) ?_
                cases hf
                exact zr_lv [] rfl hj29
              · rw [if_pos hc] at hf
                refine zr_iconst 1 dX12_valleyLine_134 (by decide) ?_
                refine zr_goto 139 dX12_valleyLine_135 (by decide) ?_
                cases hf
                exact zr_lv [] rfl hj29
          · rw [if_neg hc] at hf
            refine zr_aload_n 0 dX12_valleyLine_113 rfl ?_
            refine zr_iload 2 dX12_valleyLine_114 rfl ?_
            replace hf := zb2_s hf
            obtain ⟨v37, m36, h35, hf⟩ := hf
            refine zr_callV (ci := 12) [.int v2] (cX12_personLine_ok h35) zvs_X12_personLine zl_959 zl_960 (fX12_personLine_ck h35) rfl rfl zl_958 rfl (Nat.le_of_ble_eq_true rfl) (Nat.le_of_ble_eq_true rfl) (Nat.le_of_ble_eq_true rfl) (Nat.le_of_ble_eq_true rfl) dX12_valleyLine_116 rfl ?_
            replace hf := zb1_s hf
            obtain ⟨v38, hn39, hf⟩ := hf
            replace hn39 := zbz_s hn39
            obtain ⟨hn39, rfl⟩ := hn39
            cases hf
            exact zr_zret hn39 dX12_valleyLine_119
        clear hf
        have hf := hg
        clear hg
        refine zr_if_eq 103 dX12_valleyLine_93 (by decide) (fun hc => ?_) (fun hc => ?_)
        · rw [if_pos hc] at hf
          cases hf
          exact zr_lv [0, 1, 3, 4] rfl hj9
        · rw [if_neg hc] at hf
          refine zr_aload_n 0 dX12_valleyLine_96 rfl ?_
          refine zr_iconst 2 dX12_valleyLine_97 (by decide) ?_
          refine zr_iconst 4 dX12_valleyLine_98 (by decide) ?_
          refine zr_iload_n 2 dX12_valleyLine_99 rfl ?_
          replace hf := zb1_s hf
          obtain ⟨m41, h40, hf⟩ := hf
          refine zr_callV (ci := 12) [.int 2, .int 4, .int x3] (cX12_full_ok h40) zvs_X12_full zl_963 zl_964 (fX12_full_ck h40) rfl rfl zl_962 rfl (Nat.le_of_ble_eq_true rfl) (Nat.le_of_ble_eq_true rfl) (Nat.le_of_ble_eq_true rfl) (Nat.le_of_ble_eq_true rfl) dX12_valleyLine_100 rfl ?_
          cases hf
          exact zr_lv [0, 1, 3, 4] rfl hj9
      clear hf
      have hf := hg
      clear hg
      refine zr_icmp_eq 91 dX12_valleyLine_80 (by decide) (fun hc => ?_) (fun hc => ?_)
      · rw [if_pos hc] at hf
        cases hf
        exact zr_lv [0, 1, 2, 3, 4] rfl hj7
      · rw [if_neg hc] at hf
        refine zr_aload_n 0 dX12_valleyLine_83 rfl ?_
        refine zr_iconst 1 dX12_valleyLine_84 (by decide) ?_
        refine zr_bipush 6 dX12_valleyLine_85 (by decide) ?_
        refine zr_iload_n 2 dX12_valleyLine_87 rfl ?_
        replace hf := zb1_s hf
        obtain ⟨m43, h42, hf⟩ := hf
        refine zr_callV (ci := 12) [.int 1, .int 6, .int x3] (cX12_full_ok h42) zvs_X12_full zl_963 zl_964 (fX12_full_ck h42) rfl rfl zl_962 rfl (Nat.le_of_ble_eq_true rfl) (Nat.le_of_ble_eq_true rfl) (Nat.le_of_ble_eq_true rfl) (Nat.le_of_ble_eq_true rfl) dX12_valleyLine_88 rfl ?_
        cases hf
        exact zr_lv [0, 1, 2, 3, 4] rfl hj7
    refine zr_icmp_ne 77 dX12_valleyLine_32 (by decide) (fun hc => ?_) (fun hc => ?_)
    · rw [if_neg hc] at hf
      exact zr_lv [1, 2, 3, 4, 0] rfl (hb44 () hf)
    · rw [if_pos hc] at hf
      refine zr_iload 0 dX12_valleyLine_35 rfl ?_
      refine zr_if_ne 77 dX12_valleyLine_37 (by decide) (fun hc => ?_) (fun hc => ?_)
      · rw [if_neg hc] at hf
        exact zr_lv [1, 2, 3, 4, 0] rfl (hb44 () hf)
      · rw [if_pos hc] at hf
        refine zr_lload_n 2 dX12_valleyLine_40 rfl ?_
        refine zr_ldc2 zl_947 dX12_valleyLine_41 ?_
        refine zr_lcmp dX12_valleyLine_44 ?_
        refine zr_if_eq 77 dX12_valleyLine_45 (by decide) (fun hc => ?_) (fun hc => ?_)
        · rw [if_pos hc] at hf
          exact zr_lv [1, 2, 3, 4, 0] rfl (hb44 () hf)
        · rw [if_neg hc] at hf
          refine zr_lload_n 2 dX12_valleyLine_48 rfl ?_
          refine zr_ldc2 zl_941 dX12_valleyLine_49 ?_
          refine zr_lcmp dX12_valleyLine_52 ?_
          refine zr_if_eq 77 dX12_valleyLine_53 (by decide) (fun hc => ?_) (fun hc => ?_)
          · rw [if_pos hc] at hf
            exact zr_lv [1, 2, 3, 4, 0] rfl (hb44 () hf)
          · rw [if_neg hc] at hf
            refine zr_lload_n 2 dX12_valleyLine_56 rfl ?_
            refine zr_ldc2 zl_942 dX12_valleyLine_57 ?_
            refine zr_lcmp dX12_valleyLine_60 ?_
            refine zr_if_eq 77 dX12_valleyLine_61 (by decide) (fun hc => ?_) (fun hc => ?_)
            · rw [if_pos hc] at hf
              exact zr_lv [1, 2, 3, 4, 0] rfl (hb44 () hf)
            · rw [if_neg hc] at hf
              refine zr_lload_n 2 dX12_valleyLine_64 rfl ?_
              refine zr_ldc2 zl_965 dX12_valleyLine_65 ?_
              refine zr_lcmp dX12_valleyLine_68 ?_
              refine zr_if_eq 77 dX12_valleyLine_69 (by decide) (fun hc => ?_) (fun hc => ?_)
              · rw [if_pos hc] at hf
                exact zr_lv [1, 2, 3, 4, 0] rfl (hb44 () hf)
              · rw [if_neg hc] at hf
                refine zr_aload_n 1 dX12_valleyLine_72 rfl ?_
                replace hf := zb2_s hf
                obtain ⟨v47, m46, h45, hf⟩ := hf
                refine zr_callV (ci := 12) [] (cX12_fails_ok h45) zvs_X12_fails zl_928 zl_929 (fX12_fails_ck h45) rfl rfl zl_927 rfl (Nat.le_of_ble_eq_true rfl) (Nat.le_of_ble_eq_true rfl) (Nat.le_of_ble_eq_true rfl) (Nat.le_of_ble_eq_true rfl) dX12_valleyLine_73 rfl ?_
                replace hf := zb1_s hf
                obtain ⟨v48, hn49, hf⟩ := hf
                replace hn49 := zbz_s hn49
                obtain ⟨hn49, rfl⟩ := hn49
                cases hf
                exact zr_zret hn49 dX12_valleyLine_76
  clear hf
  have hf := hg
  clear hg
  have hb5 : ∀ (_ : Unit), fX12_valleyLine_b22 = some s3 → zz K cX12_valleyLine (6, RX12, some .boolean, 4, 0, 0, some (.int r), mo) 0 0 22 [(0, .ref x0), (1, .long x1), (3, .int x3), (4, .int v2)] [] μ := by
    intro _ hf
    unfold fX12_valleyLine_b22 at hf
    refine zr_iconst 1 dX12_valleyLine_22 (by decide) ?_
    refine zr_goto 27 dX12_valleyLine_23 (by decide) ?_
    cases hf
    exact zr_lv [0, 1, 2, 3] rfl hj4
  refine zr_if_eq 22 dX12_valleyLine_11 (by decide) (fun hc => ?_) (fun hc => ?_)
  · rw [if_pos hc] at hf
    exact zr_lv [1, 2, 3, 0] rfl (hb5 () hf)
  · rw [if_neg hc] at hf
    refine zr_lload_n 2 dX12_valleyLine_14 rfl ?_
    refine zr_ldc2 zl_952 dX12_valleyLine_15 ?_
    refine zr_lcmp dX12_valleyLine_18 ?_
    refine zr_if_ne 26 dX12_valleyLine_19 (by decide) (fun hc => ?_) (fun hc => ?_)
    · rw [if_neg hc] at hf
      refine zr_iconst 0 dX12_valleyLine_26 (by decide) ?_
      cases hf
      exact zr_lv [1, 2, 3, 0] rfl hj4
    · rw [if_pos hc] at hf
      exact zr_lv [1, 2, 3, 0] rfl (hb5 () hf)
theorem dX12_keep_0 : decode cX12_keep 0 = .ok (.aload_n 0, 1) := by decide +kernel
theorem dX12_keep_1 : decode cX12_keep 1 = .ok (.getfield 38, 3) := by decide +kernel
theorem dX12_keep_4 : decode cX12_keep 4 = .ok (.iload_n 1, 1) := by decide +kernel
theorem dX12_keep_5 : decode cX12_keep 5 = .ok (.iaload, 1) := by decide +kernel
theorem dX12_keep_6 : decode cX12_keep 6 = .ok (.istore 5, 2) := by decide +kernel
theorem dX12_keep_8 : decode cX12_keep 8 = .ok (.iload 5, 2) := by decide +kernel
theorem dX12_keep_10 : decode cX12_keep 10 = .ok (.iload 4, 2) := by decide +kernel
theorem dX12_keep_12 : decode cX12_keep 12 = .ok (.if_icmp .ne 4, 3) := by decide +kernel
theorem dX12_keep_15 : decode cX12_keep 15 = .ok (.return_, 1) := by decide +kernel
theorem dX12_keep_16 : decode cX12_keep 16 = .ok (.iconst 0, 1) := by decide +kernel
theorem dX12_keep_17 : decode cX12_keep 17 = .ok (.istore 6, 2) := by decide +kernel
theorem dX12_keep_19 : decode cX12_keep 19 = .ok (.iload 6, 2) := by decide +kernel
theorem dX12_keep_21 : decode cX12_keep 21 = .ok (.iload_n 3, 1) := by decide +kernel
theorem dX12_keep_22 : decode cX12_keep 22 = .ok (.if_icmp .ge 30, 3) := by decide +kernel
theorem dX12_keep_25 : decode cX12_keep 25 = .ok (.aload_n 0, 1) := by decide +kernel
theorem dX12_keep_26 : decode cX12_keep 26 = .ok (.getfield 38, 3) := by decide +kernel
theorem dX12_keep_29 : decode cX12_keep 29 = .ok (.iload_n 2, 1) := by decide +kernel
theorem dX12_keep_30 : decode cX12_keep 30 = .ok (.iload_n 3, 1) := by decide +kernel
theorem dX12_keep_31 : decode cX12_keep 31 = .ok (.iload 5, 2) := by decide +kernel
theorem dX12_keep_33 : decode cX12_keep 33 = .ok (.imul, 1) := by decide +kernel
theorem dX12_keep_34 : decode cX12_keep 34 = .ok (.iadd, 1) := by decide +kernel
theorem dX12_keep_35 : decode cX12_keep 35 = .ok (.iload 6, 2) := by decide +kernel
theorem dX12_keep_37 : decode cX12_keep 37 = .ok (.iadd, 1) := by decide +kernel
theorem dX12_keep_38 : decode cX12_keep 38 = .ok (.aload_n 0, 1) := by decide +kernel
theorem dX12_keep_39 : decode cX12_keep 39 = .ok (.getfield 41, 3) := by decide +kernel
theorem dX12_keep_42 : decode cX12_keep 42 = .ok (.iload 6, 2) := by decide +kernel
theorem dX12_keep_44 : decode cX12_keep 44 = .ok (.iaload, 1) := by decide +kernel
theorem dX12_keep_45 : decode cX12_keep 45 = .ok (.iastore, 1) := by decide +kernel
theorem dX12_keep_46 : decode cX12_keep 46 = .ok (.iinc 6 1, 3) := by decide +kernel
theorem dX12_keep_49 : decode cX12_keep 49 = .ok (.goto (-30), 3) := by decide +kernel
theorem dX12_keep_52 : decode cX12_keep 52 = .ok (.aload_n 0, 1) := by decide +kernel
theorem dX12_keep_53 : decode cX12_keep 53 = .ok (.getfield 38, 3) := by decide +kernel
theorem dX12_keep_56 : decode cX12_keep 56 = .ok (.iload_n 1, 1) := by decide +kernel
theorem dX12_keep_57 : decode cX12_keep 57 = .ok (.dup2, 1) := by decide +kernel
theorem dX12_keep_58 : decode cX12_keep 58 = .ok (.iaload, 1) := by decide +kernel
theorem dX12_keep_59 : decode cX12_keep 59 = .ok (.iconst 1, 1) := by decide +kernel
theorem dX12_keep_60 : decode cX12_keep 60 = .ok (.iadd, 1) := by decide +kernel
theorem dX12_keep_61 : decode cX12_keep 61 = .ok (.iastore, 1) := by decide +kernel
theorem dX12_keep_62 : decode cX12_keep 62 = .ok (.return_, 1) := by decide +kernel
noncomputable def fX12_keep_l19 (x3 : Int32) (x0 : Nat) (x2 : Int32) (v3 : Int32) (F7 : Int32 → zM → Option (zM)) (x6_5 : Int32) (m6 : zM) : Option (zM) :=
  if x3 ≤ x6_5 then (
  some m6)
  else (
  zb1 (zm_gR m6 12 x0 19) fun v11 =>
  zb1 (zm_gR m6 12 x0 20) fun v13 =>
  zb1 (zm_aI m6 0 v13 x6_5) fun v15 =>
  zb1 (zm_sI m6 0 v11 ((x2 + (x3 * v3)) + x6_5) v15) fun m17 =>
  F7 (x6_5 + 1) m17)
noncomputable def fX12_keep (μ : zM) (x0 : Nat) (x1 : Int32) (x2 : Int32) (x3 : Int32) (x4 : Int32) : Option (zM) := zgd (zm_ck μ 12 x0) <|
  zb1 (zm_gR μ 12 x0 19) fun v1 =>
  zb1 (zm_aI μ 0 v1 x1) fun v3 =>
  if v3 = x4 then (
  some μ)
  else (
  zb1 (zf2 (fX12_keep_l19 x3 x0 x2 v3) zfu 0 μ : Option (zM)) fun (m9 : zM) =>
  zb1 (zm_gR m9 12 x0 19) fun v20 =>
  zb1 (zm_aI m9 0 v20 x1) fun v22 =>
  zb1 (zm_sI m9 0 v20 x1 (v22 + 1)) fun m24 =>
  some m24)
theorem fX12_keep_ck {μ : zM} {x0 : Nat} {x1 : Int32} {x2 : Int32} {x3 : Int32} {x4 : Int32} {z : zM} (h : fX12_keep μ x0 x1 x2 x3 x4 = some z) : zm_ck μ 12 x0 = true := (zgd_s h).1
set_option maxHeartbeats 4000000 in
set_option maxRecDepth 100000 in
theorem cX12_keep_ok {μ : zM} {x0 : Nat} {x1 : Int32} {x2 : Int32} {x3 : Int32} {x4 : Int32} {mo : zM} (hf : fX12_keep μ x0 x1 x2 x3 x4 = some mo) : zC yX12_keep cX12_keep 7 (none) 0 0 0 [.ref x0, .int x1, .int x2, .int x3, .int x4] μ (none) mo := by
  replace hf := (zgd_s hf).2
  refine zC.of (by decide) (Nat.le_of_ble_eq_true rfl) (fun K hin => ?_)
  clear hin
  show zz K cX12_keep (7, RX12, none, 0, 0, 0, none, mo) 0 0 0 [(0, .ref x0), (1, .int x1), (2, .int x2), (3, .int x3), (4, .int x4)] [] μ
  refine zr_aload_n 0 dX12_keep_0 rfl ?_
  replace hf := zb1_s hf
  obtain ⟨v1, h2, hf⟩ := hf
  refine zr_get (zm_gR_g h2) zk12 (by decide) zl_873 dX12_keep_1 ?_
  refine zr_iload_n 1 dX12_keep_4 rfl ?_
  replace hf := zb1_s hf
  obtain ⟨v3, h4, hf⟩ := hf
  refine zr_iald h4 dX12_keep_5 ?_
  refine zr_istore [(5, .int v3), (0, .ref x0), (1, .int x1), (2, .int x2), (3, .int x3), (4, .int x4)] dX12_keep_6 (Nat.le_of_ble_eq_true rfl) rfl ?_
  refine zr_iload 0 dX12_keep_8 rfl ?_
  refine zr_iload 5 dX12_keep_10 rfl ?_
  refine zr_icmp_ne 16 dX12_keep_12 (by decide) (fun hc => ?_) (fun hc => ?_)
  · rw [if_neg hc] at hf
    refine zr_iconst 0 dX12_keep_16 (by decide) ?_
    refine zr_istore [(6, .int 0), (5, .int v3), (0, .ref x0), (1, .int x1), (2, .int x2), (3, .int x3), (4, .int x4)] dX12_keep_17 (Nat.le_of_ble_eq_true rfl) rfl ?_
    replace hf := zb1_s hf
    obtain ⟨m9, hg, hf⟩ := hf
    have hj10 : zz K cX12_keep (7, RX12, none, 0, 0, 0, none, mo) 0 0 52 [(0, .ref x0), (1, .int x1)] [] m9 := by
      refine zr_aload_n 0 dX12_keep_52 rfl ?_
      replace hf := zb1_s hf
      obtain ⟨v20, h21, hf⟩ := hf
      refine zr_get (zm_gR_g h21) zk12 (by decide) zl_873 dX12_keep_53 ?_
      refine zr_iload_n 1 dX12_keep_56 rfl ?_
      refine zr_dup2 dX12_keep_57 rfl rfl ?_
      replace hf := zb1_s hf
      obtain ⟨v22, h23, hf⟩ := hf
      refine zr_iald h23 dX12_keep_58 ?_
      refine zr_iconst 1 dX12_keep_59 (by decide) ?_
      refine zr_iadd dX12_keep_60 ?_
      replace hf := zb1_s hf
      obtain ⟨m24, h25, hf⟩ := hf
      refine zr_iast h25 dX12_keep_61 ?_
      cases hf
      exact zr_vret dX12_keep_62
    clear hf
    have hf := hg
    clear hg
    have hL19 : ∀ (n : Nat) (x6_5 : Int32) (m6 : zM), zf2 (fX12_keep_l19 x3 x0 x2 v3) n x6_5 m6 = some m9 → zz K cX12_keep (7, RX12, none, 0, 0, 0, none, mo) 0 0 19 [(0, .ref x0), (1, .int x1), (2, .int x2), (3, .int x3), (5, .int v3), (6, .int x6_5)] [] m6 := by
      intro n
      induction n with
      | zero => intro x6_5 m6 hf; cases hf
      | succ n ih8 =>
        intro x6_5 m6 hf
        replace hf := zf2_s hf
        generalize zf2 (fX12_keep_l19 x3 x0 x2 v3) n = F7 at hf ih8
        unfold fX12_keep_l19 at hf
        refine zr_iload 5 dX12_keep_19 rfl ?_
        refine zr_iload_n 3 dX12_keep_21 rfl ?_
        refine zr_icmp_ge 52 dX12_keep_22 (by decide) (fun hc => ?_) (fun hc => ?_)
        · rw [if_pos hc] at hf
          cases hf
          exact zr_lv [0, 1] rfl hj10
        · rw [if_neg hc] at hf
          refine zr_aload_n 0 dX12_keep_25 rfl ?_
          replace hf := zb1_s hf
          obtain ⟨v11, h12, hf⟩ := hf
          refine zr_get (zm_gR_g h12) zk12 (by decide) zl_873 dX12_keep_26 ?_
          refine zr_iload_n 2 dX12_keep_29 rfl ?_
          refine zr_iload_n 3 dX12_keep_30 rfl ?_
          refine zr_iload 4 dX12_keep_31 rfl ?_
          refine zr_imul dX12_keep_33 ?_
          refine zr_iadd dX12_keep_34 ?_
          refine zr_iload 5 dX12_keep_35 rfl ?_
          refine zr_iadd dX12_keep_37 ?_
          refine zr_aload_n 0 dX12_keep_38 rfl ?_
          replace hf := zb1_s hf
          obtain ⟨v13, h14, hf⟩ := hf
          refine zr_get (zm_gR_g h14) zk12 (by decide) zl_874 dX12_keep_39 ?_
          refine zr_iload 5 dX12_keep_42 rfl ?_
          replace hf := zb1_s hf
          obtain ⟨v15, h16, hf⟩ := hf
          refine zr_iald h16 dX12_keep_44 ?_
          replace hf := zb1_s hf
          obtain ⟨m17, h18, hf⟩ := hf
          refine zr_iast h18 dX12_keep_45 ?_
          refine zr_iinc (j := 5) (x6_5 + 1) [(6, .int (x6_5 + 1)), (0, .ref x0), (1, .int x1), (2, .int x2), (3, .int x3), (5, .int v3)] dX12_keep_46 rfl rfl (Nat.le_of_ble_eq_true rfl) rfl ?_
          refine zr_goto 19 dX12_keep_49 (by decide) ?_
          exact zr_lv [1, 2, 3, 4, 5, 0] rfl (ih8 (x6_5 + 1) m17 hf)
    exact zr_lv [2, 3, 4, 5, 1, 0] rfl (hL19 _ 0 μ hf)
  · rw [if_pos hc] at hf
    cases hf
    exact zr_vret dX12_keep_15
theorem zl_966 : Cond.constantLong RX12 204 33610324346168690 ∈ zt := zt_at 1606 (by decide +kernel)
theorem zl_967 : Cond.constantLong RX12 206 7561593 ∈ zt := zt_at 1607 (by decide +kernel)
theorem zl_968 : Cond.constantLong RX12 208 495673374068 ∈ zt := zt_at 1608 (by decide +kernel)
theorem zl_969 : Cond.constantLong RX12 210 2002873451 ∈ zt := zt_at 1609 (by decide +kernel)
theorem zl_970 : Cond.constantLong RX12 212 2002872692 ∈ zt := zt_at 1610 (by decide +kernel)
theorem dX12_deedBy_0 : decode cX12_deedBy 0 = .ok (.lload_n 0, 1) := by decide +kernel
theorem dX12_deedBy_1 : decode cX12_deedBy 1 = .ok (.ldc2_w 204, 3) := by decide +kernel
theorem dX12_deedBy_4 : decode cX12_deedBy 4 = .ok (.lcmp, 1) := by decide +kernel
theorem dX12_deedBy_5 : decode cX12_deedBy 5 = .ok (.ifCond .ne 7, 3) := by decide +kernel
theorem dX12_deedBy_8 : decode cX12_deedBy 8 = .ok (.iconst 0, 1) := by decide +kernel
theorem dX12_deedBy_9 : decode cX12_deedBy 9 = .ok (.goto 52, 3) := by decide +kernel
theorem dX12_deedBy_12 : decode cX12_deedBy 12 = .ok (.lload_n 0, 1) := by decide +kernel
theorem dX12_deedBy_13 : decode cX12_deedBy 13 = .ok (.ldc2_w 206, 3) := by decide +kernel
theorem dX12_deedBy_16 : decode cX12_deedBy 16 = .ok (.lcmp, 1) := by decide +kernel
theorem dX12_deedBy_17 : decode cX12_deedBy 17 = .ok (.ifCond .ne 7, 3) := by decide +kernel
theorem dX12_deedBy_20 : decode cX12_deedBy 20 = .ok (.iconst 1, 1) := by decide +kernel
theorem dX12_deedBy_21 : decode cX12_deedBy 21 = .ok (.goto 40, 3) := by decide +kernel
theorem dX12_deedBy_24 : decode cX12_deedBy 24 = .ok (.lload_n 0, 1) := by decide +kernel
theorem dX12_deedBy_25 : decode cX12_deedBy 25 = .ok (.ldc2_w 208, 3) := by decide +kernel
theorem dX12_deedBy_28 : decode cX12_deedBy 28 = .ok (.lcmp, 1) := by decide +kernel
theorem dX12_deedBy_29 : decode cX12_deedBy 29 = .ok (.ifCond .ne 7, 3) := by decide +kernel
theorem dX12_deedBy_32 : decode cX12_deedBy 32 = .ok (.iconst 2, 1) := by decide +kernel
theorem dX12_deedBy_33 : decode cX12_deedBy 33 = .ok (.goto 28, 3) := by decide +kernel
theorem dX12_deedBy_36 : decode cX12_deedBy 36 = .ok (.lload_n 0, 1) := by decide +kernel
theorem dX12_deedBy_37 : decode cX12_deedBy 37 = .ok (.ldc2_w 210, 3) := by decide +kernel
theorem dX12_deedBy_40 : decode cX12_deedBy 40 = .ok (.lcmp, 1) := by decide +kernel
theorem dX12_deedBy_41 : decode cX12_deedBy 41 = .ok (.ifCond .ne 7, 3) := by decide +kernel
theorem dX12_deedBy_44 : decode cX12_deedBy 44 = .ok (.iconst 3, 1) := by decide +kernel
theorem dX12_deedBy_45 : decode cX12_deedBy 45 = .ok (.goto 16, 3) := by decide +kernel
theorem dX12_deedBy_48 : decode cX12_deedBy 48 = .ok (.lload_n 0, 1) := by decide +kernel
theorem dX12_deedBy_49 : decode cX12_deedBy 49 = .ok (.ldc2_w 212, 3) := by decide +kernel
theorem dX12_deedBy_52 : decode cX12_deedBy 52 = .ok (.lcmp, 1) := by decide +kernel
theorem dX12_deedBy_53 : decode cX12_deedBy 53 = .ok (.ifCond .ne 7, 3) := by decide +kernel
theorem dX12_deedBy_56 : decode cX12_deedBy 56 = .ok (.iconst 4, 1) := by decide +kernel
theorem dX12_deedBy_57 : decode cX12_deedBy 57 = .ok (.goto 4, 3) := by decide +kernel
theorem dX12_deedBy_60 : decode cX12_deedBy 60 = .ok (.iconst (-1), 1) := by decide +kernel
theorem dX12_deedBy_61 : decode cX12_deedBy 61 = .ok (.ireturn, 1) := by decide +kernel
noncomputable def fX12_deedBy (μ : zM) (x0 : Int64) : Option (Int32) :=
  zb1 (if (lg_cmp x0 33610324346168690) = 0 then (
  some 0)
  else (
  if (lg_cmp x0 7561593) = 0 then (
  some 1)
  else (
  if (lg_cmp x0 495673374068) = 0 then (
  some 2)
  else (
  if (lg_cmp x0 2002873451) = 0 then (
  some 3)
  else (
  if (lg_cmp x0 2002872692) = 0 then (
  some 4)
  else (
  some (-1)))))) : Option (Int32)) fun (s1 : Int32) =>
  some s1
set_option maxHeartbeats 4000000 in
set_option maxRecDepth 100000 in
theorem cX12_deedBy_ok {μ : zM} {x0 : Int64} {r : Int32} (hf : fX12_deedBy μ x0 = some r) : zC yX12_deedBy cX12_deedBy 2 (some .int) 0 0 0 [.long x0] μ (some (.int r)) μ := by
  unfold fX12_deedBy at hf
  refine zC.of (by decide) (Nat.le_of_ble_eq_true rfl) (fun K hin => ?_)
  clear hin
  show zz K cX12_deedBy (2, RX12, some .int, 0, 0, 0, some (.int r), μ) 0 0 0 [(0, .long x0)] [] μ
  refine zr_lload_n 0 dX12_deedBy_0 rfl ?_
  refine zr_ldc2 zl_966 dX12_deedBy_1 ?_
  refine zr_lcmp dX12_deedBy_4 ?_
  replace hf := zb1_s hf
  obtain ⟨s1, hg, hf⟩ := hf
  have hj2 : zz K cX12_deedBy (2, RX12, some .int, 0, 0, 0, some (.int r), μ) 0 0 61 [] [.int s1] μ := by
    cases hf
    exact zr_iret dX12_deedBy_61
  clear hf
  have hf := hg
  clear hg
  refine zr_if_ne 12 dX12_deedBy_5 (by decide) (fun hc => ?_) (fun hc => ?_)
  · rw [if_neg hc] at hf
    refine zr_lload_n 0 dX12_deedBy_12 rfl ?_
    refine zr_ldc2 zl_967 dX12_deedBy_13 ?_
    refine zr_lcmp dX12_deedBy_16 ?_
    refine zr_if_ne 24 dX12_deedBy_17 (by decide) (fun hc => ?_) (fun hc => ?_)
    · rw [if_neg hc] at hf
      refine zr_lload_n 0 dX12_deedBy_24 rfl ?_
      refine zr_ldc2 zl_968 dX12_deedBy_25 ?_
      refine zr_lcmp dX12_deedBy_28 ?_
      refine zr_if_ne 36 dX12_deedBy_29 (by decide) (fun hc => ?_) (fun hc => ?_)
      · rw [if_neg hc] at hf
        refine zr_lload_n 0 dX12_deedBy_36 rfl ?_
        refine zr_ldc2 zl_969 dX12_deedBy_37 ?_
        refine zr_lcmp dX12_deedBy_40 ?_
        refine zr_if_ne 48 dX12_deedBy_41 (by decide) (fun hc => ?_) (fun hc => ?_)
        · rw [if_neg hc] at hf
          refine zr_lload_n 0 dX12_deedBy_48 rfl ?_
          refine zr_ldc2 zl_970 dX12_deedBy_49 ?_
          refine zr_lcmp dX12_deedBy_52 ?_
          refine zr_if_ne 60 dX12_deedBy_53 (by decide) (fun hc => ?_) (fun hc => ?_)
          · rw [if_neg hc] at hf
            refine zr_iconst (-1) dX12_deedBy_60 (by decide) ?_
            cases hf
            exact zr_lv [] rfl hj2
          · rw [if_pos hc] at hf
            refine zr_iconst 4 dX12_deedBy_56 (by decide) ?_
            refine zr_goto 61 dX12_deedBy_57 (by decide) ?_
            cases hf
            exact zr_lv [] rfl hj2
        · rw [if_pos hc] at hf
          refine zr_iconst 3 dX12_deedBy_44 (by decide) ?_
          refine zr_goto 61 dX12_deedBy_45 (by decide) ?_
          cases hf
          exact zr_lv [] rfl hj2
      · rw [if_pos hc] at hf
        refine zr_iconst 2 dX12_deedBy_32 (by decide) ?_
        refine zr_goto 61 dX12_deedBy_33 (by decide) ?_
        cases hf
        exact zr_lv [] rfl hj2
    · rw [if_pos hc] at hf
      refine zr_iconst 1 dX12_deedBy_20 (by decide) ?_
      refine zr_goto 61 dX12_deedBy_21 (by decide) ?_
      cases hf
      exact zr_lv [] rfl hj2
  · rw [if_pos hc] at hf
    refine zr_iconst 0 dX12_deedBy_8 (by decide) ?_
    refine zr_goto 61 dX12_deedBy_9 (by decide) ?_
    cases hf
    exact zr_lv [] rfl hj2
theorem zl_971 : Cond.code yX12_deedBy cX12_deedBy 2 (some .int) ∈ zt := zt_at 1605 (by decide +kernel)
theorem zvs_X12_deedBy : zvS yX12_deedBy cX12_deedBy 2 (some .int) 1 := ⟨zl_971, zl_893, ⟨by decide +kernel, by decide +kernel, by decide +kernel⟩, by decide⟩
theorem zl_972 : Cond.methodLink RX12 214 yX12_deedBy ∈ zt := zt_at 1603 (by decide +kernel)
theorem zl_973 : Cond.static yX12_deedBy ∈ zt := zt_at 1604 (by decide +kernel)
theorem zl_974 : Cond.code yX12_keep cX12_keep 7 (none) ∈ zt := zt_at 1614 (by decide +kernel)
theorem zvs_X12_keep : zvS yX12_keep cX12_keep 7 (none) 4 := ⟨zl_974, zl_893, ⟨by decide +kernel, by decide +kernel, by decide +kernel⟩, by decide⟩
theorem zl_975 : Cond.methodLink RX12 217 yX12_keep ∈ zt := zt_at 1611 (by decide +kernel)
theorem zl_976 : Cond.instanceMethod yX12_keep ∈ zt := zt_at 1613 (by decide +kernel)
theorem zl_977 : Cond.selects RX12 yX12_keep yX12_keep ∈ zt := zt_at 64 (by decide +kernel)
theorem dX12_dayLine_0 : decode cX12_dayLine 0 = .ok (.lload_n 1, 1) := by decide +kernel
theorem dX12_dayLine_1 : decode cX12_dayLine 1 = .ok (.invokestatic 214, 3) := by decide +kernel
theorem dX12_dayLine_4 : decode cX12_dayLine 4 = .ok (.istore 4, 2) := by decide +kernel
theorem dX12_dayLine_6 : decode cX12_dayLine 6 = .ok (.iload 4, 2) := by decide +kernel
theorem dX12_dayLine_8 : decode cX12_dayLine 8 = .ok (.iconst (-1), 1) := by decide +kernel
theorem dX12_dayLine_9 : decode cX12_dayLine 9 = .ok (.if_icmp .ne 8, 3) := by decide +kernel
theorem dX12_dayLine_12 : decode cX12_dayLine 12 = .ok (.aload_n 0, 1) := by decide +kernel
theorem dX12_dayLine_13 : decode cX12_dayLine 13 = .ok (.invokevirtual 141, 3) := by decide +kernel
theorem dX12_dayLine_16 : decode cX12_dayLine 16 = .ok (.ireturn, 1) := by decide +kernel
theorem dX12_dayLine_17 : decode cX12_dayLine 17 = .ok (.aload_n 0, 1) := by decide +kernel
theorem dX12_dayLine_18 : decode cX12_dayLine 18 = .ok (.iconst 0, 1) := by decide +kernel
theorem dX12_dayLine_19 : decode cX12_dayLine 19 = .ok (.bipush 40, 2) := by decide +kernel
theorem dX12_dayLine_21 : decode cX12_dayLine 21 = .ok (.iload_n 3, 1) := by decide +kernel
theorem dX12_dayLine_22 : decode cX12_dayLine 22 = .ok (.invokevirtual 188, 3) := by decide +kernel
theorem dX12_dayLine_25 : decode cX12_dayLine 25 = .ok (.aload_n 0, 1) := by decide +kernel
theorem dX12_dayLine_26 : decode cX12_dayLine 26 = .ok (.invokevirtual 153, 3) := by decide +kernel
theorem dX12_dayLine_29 : decode cX12_dayLine 29 = .ok (.aload_n 0, 1) := by decide +kernel
theorem dX12_dayLine_30 : decode cX12_dayLine 30 = .ok (.getfield 41, 3) := by decide +kernel
theorem dX12_dayLine_33 : decode cX12_dayLine 33 = .ok (.iconst 2, 1) := by decide +kernel
theorem dX12_dayLine_34 : decode cX12_dayLine 34 = .ok (.iconst (-1), 1) := by decide +kernel
theorem dX12_dayLine_35 : decode cX12_dayLine 35 = .ok (.iastore, 1) := by decide +kernel
theorem dX12_dayLine_36 : decode cX12_dayLine 36 = .ok (.iload 4, 2) := by decide +kernel
theorem dX12_dayLine_38 : decode cX12_dayLine 38 = .ok (.iconst 4, 1) := by decide +kernel
theorem dX12_dayLine_39 : decode cX12_dayLine 39 = .ok (.if_icmp .ne 7, 3) := by decide +kernel
theorem dX12_dayLine_42 : decode cX12_dayLine 42 = .ok (.iconst 1, 1) := by decide +kernel
theorem dX12_dayLine_43 : decode cX12_dayLine 43 = .ok (.goto 4, 3) := by decide +kernel
theorem dX12_dayLine_46 : decode cX12_dayLine 46 = .ok (.iconst 0, 1) := by decide +kernel
theorem dX12_dayLine_47 : decode cX12_dayLine 47 = .ok (.istore 5, 2) := by decide +kernel
theorem dX12_dayLine_49 : decode cX12_dayLine 49 = .ok (.aload_n 0, 1) := by decide +kernel
theorem dX12_dayLine_50 : decode cX12_dayLine 50 = .ok (.iconst 1, 1) := by decide +kernel
theorem dX12_dayLine_51 : decode cX12_dayLine 51 = .ok (.iload 5, 2) := by decide +kernel
theorem dX12_dayLine_53 : decode cX12_dayLine 53 = .ok (.ifCond .eq 7, 3) := by decide +kernel
theorem dX12_dayLine_56 : decode cX12_dayLine 56 = .ok (.iconst 1, 1) := by decide +kernel
theorem dX12_dayLine_57 : decode cX12_dayLine 57 = .ok (.goto 4, 3) := by decide +kernel
theorem dX12_dayLine_60 : decode cX12_dayLine 60 = .ok (.iconst 0, 1) := by decide +kernel
theorem dX12_dayLine_61 : decode cX12_dayLine 61 = .ok (.iload 5, 2) := by decide +kernel
theorem dX12_dayLine_63 : decode cX12_dayLine 63 = .ok (.ifCond .eq 8, 3) := by decide +kernel
theorem dX12_dayLine_66 : decode cX12_dayLine 66 = .ok (.bipush 60, 2) := by decide +kernel
theorem dX12_dayLine_68 : decode cX12_dayLine 68 = .ok (.goto 4, 3) := by decide +kernel
theorem dX12_dayLine_71 : decode cX12_dayLine 71 = .ok (.iconst 5, 1) := by decide +kernel
theorem dX12_dayLine_72 : decode cX12_dayLine 72 = .ok (.invokevirtual 162, 3) := by decide +kernel
theorem dX12_dayLine_75 : decode cX12_dayLine 75 = .ok (.ifCond .eq 30, 3) := by decide +kernel
theorem dX12_dayLine_78 : decode cX12_dayLine 78 = .ok (.iload 5, 2) := by decide +kernel
theorem dX12_dayLine_80 : decode cX12_dayLine 80 = .ok (.ifCond .ne 27, 3) := by decide +kernel
theorem dX12_dayLine_83 : decode cX12_dayLine 83 = .ok (.aload_n 0, 1) := by decide +kernel
theorem dX12_dayLine_84 : decode cX12_dayLine 84 = .ok (.iconst 2, 1) := by decide +kernel
theorem dX12_dayLine_85 : decode cX12_dayLine 85 = .ok (.iconst 0, 1) := by decide +kernel
theorem dX12_dayLine_86 : decode cX12_dayLine 86 = .ok (.iload 4, 2) := by decide +kernel
theorem dX12_dayLine_88 : decode cX12_dayLine 88 = .ok (.iconst 3, 1) := by decide +kernel
theorem dX12_dayLine_89 : decode cX12_dayLine 89 = .ok (.if_icmp .ne 8, 3) := by decide +kernel
theorem dX12_dayLine_92 : decode cX12_dayLine 92 = .ok (.bipush 30, 2) := by decide +kernel
theorem dX12_dayLine_94 : decode cX12_dayLine 94 = .ok (.goto 5, 3) := by decide +kernel
theorem dX12_dayLine_97 : decode cX12_dayLine 97 = .ok (.bipush 7, 2) := by decide +kernel
theorem dX12_dayLine_99 : decode cX12_dayLine 99 = .ok (.invokevirtual 162, 3) := by decide +kernel
theorem dX12_dayLine_102 : decode cX12_dayLine 102 = .ok (.ifCond .ne 5, 3) := by decide +kernel
theorem dX12_dayLine_105 : decode cX12_dayLine 105 = .ok (.iconst 0, 1) := by decide +kernel
theorem dX12_dayLine_106 : decode cX12_dayLine 106 = .ok (.ireturn, 1) := by decide +kernel
theorem dX12_dayLine_107 : decode cX12_dayLine 107 = .ok (.aload_n 0, 1) := by decide +kernel
theorem dX12_dayLine_108 : decode cX12_dayLine 108 = .ok (.getfield 41, 3) := by decide +kernel
theorem dX12_dayLine_111 : decode cX12_dayLine 111 = .ok (.iconst 0, 1) := by decide +kernel
theorem dX12_dayLine_112 : decode cX12_dayLine 112 = .ok (.iload 4, 2) := by decide +kernel
theorem dX12_dayLine_114 : decode cX12_dayLine 114 = .ok (.iastore, 1) := by decide +kernel
theorem dX12_dayLine_115 : decode cX12_dayLine 115 = .ok (.aload_n 0, 1) := by decide +kernel
theorem dX12_dayLine_116 : decode cX12_dayLine 116 = .ok (.iconst 0, 1) := by decide +kernel
theorem dX12_dayLine_117 : decode cX12_dayLine 117 = .ok (.iconst 1, 1) := by decide +kernel
theorem dX12_dayLine_118 : decode cX12_dayLine 118 = .ok (.iconst 3, 1) := by decide +kernel
theorem dX12_dayLine_119 : decode cX12_dayLine 119 = .ok (.bipush 40, 2) := by decide +kernel
theorem dX12_dayLine_121 : decode cX12_dayLine 121 = .ok (.invokevirtual 217, 3) := by decide +kernel
theorem dX12_dayLine_124 : decode cX12_dayLine 124 = .ok (.iconst 1, 1) := by decide +kernel
theorem dX12_dayLine_125 : decode cX12_dayLine 125 = .ok (.ireturn, 1) := by decide +kernel
noncomputable def fX12_dayLine_b107 (x0 : Nat) (v2 : Int32) (m20 : zM) : Option (Int32 × zM) :=
  zb1 (zm_gR m20 12 x0 20) fun v21 =>
  zb1 (zm_sI m20 0 v21 0 v2) fun m23 =>
  zb1 (fX12_keep m23 x0 0 1 3 40) fun m26 =>
  some (1, m26)
noncomputable def fX12_dayLine (μ : zM) (x0 : Nat) (x1 : Int64) (x3 : Int32) : Option (Int32 × zM) := zgd (zm_ck μ 12 x0) <|
  zb1 (fX12_deedBy μ x1) fun v2 =>
  if v2 = (-1) then (
  zb2 (fX12_fails μ x0) fun v35 m34 =>
  zb1 (zbz v35) fun v36 =>
  some (v36, m34))
  else (
  zb1 (fX12_full μ x0 0 40 x3) fun m4 =>
  zb1 (fX12_token m4 x0) fun m6 =>
  zb1 (zm_gR m6 12 x0 20) fun v7 =>
  zb1 (zm_sI m6 0 v7 2 (-1)) fun m9 =>
  zb1 (if v2 = 4 then (
  some 1)
  else (
  some 0) : Option (Int32)) fun (s11 : Int32) =>
  zb1 (if s11 = 0 then (
  some 0)
  else (
  some 1) : Option (Int32)) fun (s13 : Int32) =>
  zb1 (if s11 = 0 then (
  some 5)
  else (
  some 60) : Option (Int32)) fun (s15 : Int32) =>
  zb2 (fX12_take m9 x0 1 s13 s15) fun v19 m18 =>
  if v19 = 0 then (
  some (0, m18))
  else (
  if s11 = 0 then (
  zb1 (if v2 = 3 then (
  some 30)
  else (
  some 7) : Option (Int32)) fun (s28 : Int32) =>
  zb2 (fX12_take m18 x0 2 0 s28) fun v32 m31 =>
  if v32 = 0 then (
  some (0, m31))
  else (
  fX12_dayLine_b107 x0 v2 m31))
  else (
  fX12_dayLine_b107 x0 v2 m18)))
theorem fX12_dayLine_ck {μ : zM} {x0 : Nat} {x1 : Int64} {x3 : Int32} {z : Int32 × zM} (h : fX12_dayLine μ x0 x1 x3 = some z) : zm_ck μ 12 x0 = true := (zgd_s h).1
set_option maxHeartbeats 4000000 in
set_option maxRecDepth 100000 in
theorem cX12_dayLine_ok {μ : zM} {x0 : Nat} {x1 : Int64} {x3 : Int32} {r : Int32} {mo : zM} (hf : fX12_dayLine μ x0 x1 x3 = some (r, mo)) : zC yX12_dayLine cX12_dayLine 6 (some .boolean) 3 0 0 [.ref x0, .long x1, .int x3] μ (some (.int r)) mo := by
  replace hf := (zgd_s hf).2
  refine zC.of (by decide) (Nat.le_of_ble_eq_true rfl) (fun K hin => ?_)
  clear hin
  show zz K cX12_dayLine (6, RX12, some .boolean, 3, 0, 0, some (.int r), mo) 0 0 0 [(0, .ref x0), (1, .long x1), (3, .int x3)] [] μ
  refine zr_lload_n 1 dX12_dayLine_0 rfl ?_
  replace hf := zb1_s hf
  obtain ⟨v2, h1, hf⟩ := hf
  refine zr_callS [.long x1] (cX12_deedBy_ok h1) zvs_X12_deedBy zl_973 zl_972 rfl (Nat.le_of_ble_eq_true rfl) (Nat.le_of_ble_eq_true rfl) (Nat.le_of_ble_eq_true rfl) (Nat.le_of_ble_eq_true rfl) dX12_dayLine_1 rfl ?_
  refine zr_istore [(4, .int v2), (0, .ref x0), (1, .long x1), (3, .int x3)] dX12_dayLine_4 (Nat.le_of_ble_eq_true rfl) rfl ?_
  refine zr_iload 0 dX12_dayLine_6 rfl ?_
  refine zr_iconst (-1) dX12_dayLine_8 (by decide) ?_
  refine zr_icmp_ne 17 dX12_dayLine_9 (by decide) (fun hc => ?_) (fun hc => ?_)
  · rw [if_neg hc] at hf
    refine zr_aload_n 1 dX12_dayLine_17 rfl ?_
    refine zr_iconst 0 dX12_dayLine_18 (by decide) ?_
    refine zr_bipush 40 dX12_dayLine_19 (by decide) ?_
    refine zr_iload_n 3 dX12_dayLine_21 rfl ?_
    replace hf := zb1_s hf
    obtain ⟨m4, h3, hf⟩ := hf
    refine zr_callV (ci := 12) [.int 0, .int 40, .int x3] (cX12_full_ok h3) zvs_X12_full zl_963 zl_964 (fX12_full_ck h3) rfl rfl zl_962 rfl (Nat.le_of_ble_eq_true rfl) (Nat.le_of_ble_eq_true rfl) (Nat.le_of_ble_eq_true rfl) (Nat.le_of_ble_eq_true rfl) dX12_dayLine_22 rfl ?_
    refine zr_aload_n 1 dX12_dayLine_25 rfl ?_
    replace hf := zb1_s hf
    obtain ⟨m6, h5, hf⟩ := hf
    refine zr_callV (ci := 12) [] (cX12_token_ok h5) zvs_X12_token zl_919 zl_920 (fX12_token_ck h5) rfl rfl zl_918 rfl (Nat.le_of_ble_eq_true rfl) (Nat.le_of_ble_eq_true rfl) (Nat.le_of_ble_eq_true rfl) (Nat.le_of_ble_eq_true rfl) dX12_dayLine_26 rfl ?_
    refine zr_aload_n 1 dX12_dayLine_29 rfl ?_
    replace hf := zb1_s hf
    obtain ⟨v7, h8, hf⟩ := hf
    refine zr_get (zm_gR_g h8) zk12 (by decide) zl_874 dX12_dayLine_30 ?_
    refine zr_iconst 2 dX12_dayLine_33 (by decide) ?_
    refine zr_iconst (-1) dX12_dayLine_34 (by decide) ?_
    replace hf := zb1_s hf
    obtain ⟨m9, h10, hf⟩ := hf
    refine zr_iast h10 dX12_dayLine_35 ?_
    refine zr_iload 0 dX12_dayLine_36 rfl ?_
    refine zr_iconst 4 dX12_dayLine_38 (by decide) ?_
    replace hf := zb1_s hf
    obtain ⟨s11, hg, hf⟩ := hf
    have hj12 : zz K cX12_dayLine (6, RX12, some .boolean, 3, 0, 0, some (.int r), mo) 0 0 47 [(0, .ref x0), (4, .int v2)] [.int s11] m9 := by
      refine zr_istore [(5, .int s11), (0, .ref x0), (4, .int v2)] dX12_dayLine_47 (Nat.le_of_ble_eq_true rfl) rfl ?_
      refine zr_aload_n 1 dX12_dayLine_49 rfl ?_
      refine zr_iconst 1 dX12_dayLine_50 (by decide) ?_
      refine zr_iload 0 dX12_dayLine_51 rfl ?_
      replace hf := zb1_s hf
      obtain ⟨s13, hg, hf⟩ := hf
      have hj14 : zz K cX12_dayLine (6, RX12, some .boolean, 3, 0, 0, some (.int r), mo) 0 0 61 [(0, .ref x0), (4, .int v2), (5, .int s11)] [.int s13, .int 1, .ref x0] m9 := by
        refine zr_iload 2 dX12_dayLine_61 rfl ?_
        replace hf := zb1_s hf
        obtain ⟨s15, hg, hf⟩ := hf
        have hj16 : zz K cX12_dayLine (6, RX12, some .boolean, 3, 0, 0, some (.int r), mo) 0 0 72 [(0, .ref x0), (4, .int v2), (5, .int s11)] [.int s15, .int s13, .int 1, .ref x0] m9 := by
          replace hf := zb2_s hf
          obtain ⟨v19, m18, h17, hf⟩ := hf
          refine zr_callV (ci := 12) [.int 1, .int s13, .int s15] (cX12_take_ok h17) zvs_X12_take zl_935 zl_936 (fX12_take_ck h17) rfl rfl zl_934 rfl (Nat.le_of_ble_eq_true rfl) (Nat.le_of_ble_eq_true rfl) (Nat.le_of_ble_eq_true rfl) (Nat.le_of_ble_eq_true rfl) dX12_dayLine_72 rfl ?_
          refine zr_if_eq 105 dX12_dayLine_75 (by decide) (fun hc => ?_) (fun hc => ?_)
          · rw [if_pos hc] at hf
            refine zr_iconst 0 dX12_dayLine_105 (by decide) ?_
            cases hf
            exact zr_zret rfl dX12_dayLine_106
          · rw [if_neg hc] at hf
            refine zr_iload 2 dX12_dayLine_78 rfl ?_
            have hb27 : ∀ (m20 : zM), fX12_dayLine_b107 x0 v2 m20 = some (r, mo) → zz K cX12_dayLine (6, RX12, some .boolean, 3, 0, 0, some (.int r), mo) 0 0 107 [(0, .ref x0), (4, .int v2)] [] m20 := by
              intro m20 hf
              unfold fX12_dayLine_b107 at hf
              refine zr_aload_n 0 dX12_dayLine_107 rfl ?_
              replace hf := zb1_s hf
              obtain ⟨v21, h22, hf⟩ := hf
              refine zr_get (zm_gR_g h22) zk12 (by decide) zl_874 dX12_dayLine_108 ?_
              refine zr_iconst 0 dX12_dayLine_111 (by decide) ?_
              refine zr_iload 1 dX12_dayLine_112 rfl ?_
              replace hf := zb1_s hf
              obtain ⟨m23, h24, hf⟩ := hf
              refine zr_iast h24 dX12_dayLine_114 ?_
              refine zr_aload_n 0 dX12_dayLine_115 rfl ?_
              refine zr_iconst 0 dX12_dayLine_116 (by decide) ?_
              refine zr_iconst 1 dX12_dayLine_117 (by decide) ?_
              refine zr_iconst 3 dX12_dayLine_118 (by decide) ?_
              refine zr_bipush 40 dX12_dayLine_119 (by decide) ?_
              replace hf := zb1_s hf
              obtain ⟨m26, h25, hf⟩ := hf
              refine zr_callV (ci := 12) [.int 0, .int 1, .int 3, .int 40] (cX12_keep_ok h25) zvs_X12_keep zl_976 zl_977 (fX12_keep_ck h25) rfl rfl zl_975 rfl (Nat.le_of_ble_eq_true rfl) (Nat.le_of_ble_eq_true rfl) (Nat.le_of_ble_eq_true rfl) (Nat.le_of_ble_eq_true rfl) dX12_dayLine_121 rfl ?_
              refine zr_iconst 1 dX12_dayLine_124 (by decide) ?_
              cases hf
              exact zr_zret rfl dX12_dayLine_125
            refine zr_if_ne 107 dX12_dayLine_80 (by decide) (fun hc => ?_) (fun hc => ?_)
            · rw [if_neg hc] at hf
              exact zr_lv [0, 1] rfl (hb27 m18 hf)
            · rw [if_pos hc] at hf
              refine zr_aload_n 0 dX12_dayLine_83 rfl ?_
              refine zr_iconst 2 dX12_dayLine_84 (by decide) ?_
              refine zr_iconst 0 dX12_dayLine_85 (by decide) ?_
              refine zr_iload 1 dX12_dayLine_86 rfl ?_
              refine zr_iconst 3 dX12_dayLine_88 (by decide) ?_
              replace hf := zb1_s hf
              obtain ⟨s28, hg, hf⟩ := hf
              have hj29 : zz K cX12_dayLine (6, RX12, some .boolean, 3, 0, 0, some (.int r), mo) 0 0 99 [(0, .ref x0), (4, .int v2)] [.int s28, .int 0, .int 2, .ref x0] m18 := by
                replace hf := zb2_s hf
                obtain ⟨v32, m31, h30, hf⟩ := hf
                refine zr_callV (ci := 12) [.int 2, .int 0, .int s28] (cX12_take_ok h30) zvs_X12_take zl_935 zl_936 (fX12_take_ck h30) rfl rfl zl_934 rfl (Nat.le_of_ble_eq_true rfl) (Nat.le_of_ble_eq_true rfl) (Nat.le_of_ble_eq_true rfl) (Nat.le_of_ble_eq_true rfl) dX12_dayLine_99 rfl ?_
                refine zr_if_ne 107 dX12_dayLine_102 (by decide) (fun hc => ?_) (fun hc => ?_)
                · rw [if_neg hc] at hf
                  exact zr_lv [0, 1] rfl (hb27 m31 hf)
                · rw [if_pos hc] at hf
                  refine zr_iconst 0 dX12_dayLine_105 (by decide) ?_
                  cases hf
                  exact zr_zret rfl dX12_dayLine_106
              clear hf
              have hf := hg
              clear hg
              refine zr_icmp_ne 97 dX12_dayLine_89 (by decide) (fun hc => ?_) (fun hc => ?_)
              · rw [if_neg hc] at hf
                refine zr_bipush 7 dX12_dayLine_97 (by decide) ?_
                cases hf
                exact zr_lv [0, 1] rfl hj29
              · rw [if_pos hc] at hf
                refine zr_bipush 30 dX12_dayLine_92 (by decide) ?_
                refine zr_goto 99 dX12_dayLine_94 (by decide) ?_
                cases hf
                exact zr_lv [0, 1] rfl hj29
        clear hf
        have hf := hg
        clear hg
        refine zr_if_eq 71 dX12_dayLine_63 (by decide) (fun hc => ?_) (fun hc => ?_)
        · rw [if_pos hc] at hf
          refine zr_iconst 5 dX12_dayLine_71 (by decide) ?_
          cases hf
          exact zr_lv [0, 1, 2] rfl hj16
        · rw [if_neg hc] at hf
          refine zr_bipush 60 dX12_dayLine_66 (by decide) ?_
          refine zr_goto 72 dX12_dayLine_68 (by decide) ?_
          cases hf
          exact zr_lv [0, 1, 2] rfl hj16
      clear hf
      have hf := hg
      clear hg
      refine zr_if_eq 60 dX12_dayLine_53 (by decide) (fun hc => ?_) (fun hc => ?_)
      · rw [if_pos hc] at hf
        refine zr_iconst 0 dX12_dayLine_60 (by decide) ?_
        cases hf
        exact zr_lv [1, 2, 0] rfl hj14
      · rw [if_neg hc] at hf
        refine zr_iconst 1 dX12_dayLine_56 (by decide) ?_
        refine zr_goto 61 dX12_dayLine_57 (by decide) ?_
        cases hf
        exact zr_lv [1, 2, 0] rfl hj14
    clear hf
    have hf := hg
    clear hg
    refine zr_icmp_ne 46 dX12_dayLine_39 (by decide) (fun hc => ?_) (fun hc => ?_)
    · rw [if_neg hc] at hf
      refine zr_iconst 0 dX12_dayLine_46 (by decide) ?_
      cases hf
      exact zr_lv [1, 0] rfl hj12
    · rw [if_pos hc] at hf
      refine zr_iconst 1 dX12_dayLine_42 (by decide) ?_
      refine zr_goto 47 dX12_dayLine_43 (by decide) ?_
      cases hf
      exact zr_lv [1, 0] rfl hj12
  · rw [if_pos hc] at hf
    refine zr_aload_n 1 dX12_dayLine_12 rfl ?_
    replace hf := zb2_s hf
    obtain ⟨v35, m34, h33, hf⟩ := hf
    refine zr_callV (ci := 12) [] (cX12_fails_ok h33) zvs_X12_fails zl_928 zl_929 (fX12_fails_ck h33) rfl rfl zl_927 rfl (Nat.le_of_ble_eq_true rfl) (Nat.le_of_ble_eq_true rfl) (Nat.le_of_ble_eq_true rfl) (Nat.le_of_ble_eq_true rfl) dX12_dayLine_13 rfl ?_
    replace hf := zb1_s hf
    obtain ⟨v36, hn37, hf⟩ := hf
    replace hn37 := zbz_s hn37
    obtain ⟨hn37, rfl⟩ := hn37
    cases hf
    exact zr_zret hn37 dX12_dayLine_16
theorem zl_978 : Cond.constantLong RX12 221 1734440549 ∈ zt := zt_at 1619 (by decide +kernel)
theorem zl_979 : Cond.constantLong RX12 223 1818846579 ∈ zt := zt_at 1620 (by decide +kernel)
theorem dX12_lessonLine_0 : decode cX12_lessonLine 0 = .ok (.lload_n 1, 1) := by decide +kernel
theorem dX12_lessonLine_1 : decode cX12_lessonLine 1 = .ok (.ldc2_w 221, 3) := by decide +kernel
theorem dX12_lessonLine_4 : decode cX12_lessonLine 4 = .ok (.lcmp, 1) := by decide +kernel
theorem dX12_lessonLine_5 : decode cX12_lessonLine 5 = .ok (.ifCond .eq 16, 3) := by decide +kernel
theorem dX12_lessonLine_8 : decode cX12_lessonLine 8 = .ok (.lload_n 1, 1) := by decide +kernel
theorem dX12_lessonLine_9 : decode cX12_lessonLine 9 = .ok (.ldc2_w 223, 3) := by decide +kernel
theorem dX12_lessonLine_12 : decode cX12_lessonLine 12 = .ok (.lcmp, 1) := by decide +kernel
theorem dX12_lessonLine_13 : decode cX12_lessonLine 13 = .ok (.ifCond .eq 8, 3) := by decide +kernel
theorem dX12_lessonLine_16 : decode cX12_lessonLine 16 = .ok (.aload_n 0, 1) := by decide +kernel
theorem dX12_lessonLine_17 : decode cX12_lessonLine 17 = .ok (.invokevirtual 141, 3) := by decide +kernel
theorem dX12_lessonLine_20 : decode cX12_lessonLine 20 = .ok (.ireturn, 1) := by decide +kernel
theorem dX12_lessonLine_21 : decode cX12_lessonLine 21 = .ok (.lload_n 1, 1) := by decide +kernel
theorem dX12_lessonLine_22 : decode cX12_lessonLine 22 = .ok (.ldc2_w 221, 3) := by decide +kernel
theorem dX12_lessonLine_25 : decode cX12_lessonLine 25 = .ok (.lcmp, 1) := by decide +kernel
theorem dX12_lessonLine_26 : decode cX12_lessonLine 26 = .ok (.ifCond .ne 11, 3) := by decide +kernel
theorem dX12_lessonLine_29 : decode cX12_lessonLine 29 = .ok (.aload_n 0, 1) := by decide +kernel
theorem dX12_lessonLine_30 : decode cX12_lessonLine 30 = .ok (.iconst 1, 1) := by decide +kernel
theorem dX12_lessonLine_31 : decode cX12_lessonLine 31 = .ok (.bipush 10, 2) := by decide +kernel
theorem dX12_lessonLine_33 : decode cX12_lessonLine 33 = .ok (.iload_n 3, 1) := by decide +kernel
theorem dX12_lessonLine_34 : decode cX12_lessonLine 34 = .ok (.invokevirtual 188, 3) := by decide +kernel
theorem dX12_lessonLine_37 : decode cX12_lessonLine 37 = .ok (.aload_n 0, 1) := by decide +kernel
theorem dX12_lessonLine_38 : decode cX12_lessonLine 38 = .ok (.invokevirtual 153, 3) := by decide +kernel
theorem dX12_lessonLine_41 : decode cX12_lessonLine 41 = .ok (.aload_n 0, 1) := by decide +kernel
theorem dX12_lessonLine_42 : decode cX12_lessonLine 42 = .ok (.iconst 0, 1) := by decide +kernel
theorem dX12_lessonLine_43 : decode cX12_lessonLine 43 = .ok (.iconst 0, 1) := by decide +kernel
theorem dX12_lessonLine_44 : decode cX12_lessonLine 44 = .ok (.lload_n 1, 1) := by decide +kernel
theorem dX12_lessonLine_45 : decode cX12_lessonLine 45 = .ok (.ldc2_w 221, 3) := by decide +kernel
theorem dX12_lessonLine_48 : decode cX12_lessonLine 48 = .ok (.lcmp, 1) := by decide +kernel
theorem dX12_lessonLine_49 : decode cX12_lessonLine 49 = .ok (.ifCond .ne 8, 3) := by decide +kernel
theorem dX12_lessonLine_52 : decode cX12_lessonLine 52 = .ok (.bipush 7, 2) := by decide +kernel
theorem dX12_lessonLine_54 : decode cX12_lessonLine 54 = .ok (.goto 5, 3) := by decide +kernel
theorem dX12_lessonLine_57 : decode cX12_lessonLine 57 = .ok (.bipush 9, 2) := by decide +kernel
theorem dX12_lessonLine_59 : decode cX12_lessonLine 59 = .ok (.invokevirtual 162, 3) := by decide +kernel
theorem dX12_lessonLine_62 : decode cX12_lessonLine 62 = .ok (.ifCond .eq 22, 3) := by decide +kernel
theorem dX12_lessonLine_65 : decode cX12_lessonLine 65 = .ok (.lload_n 1, 1) := by decide +kernel
theorem dX12_lessonLine_66 : decode cX12_lessonLine 66 = .ok (.ldc2_w 221, 3) := by decide +kernel
theorem dX12_lessonLine_69 : decode cX12_lessonLine 69 = .ok (.lcmp, 1) := by decide +kernel
theorem dX12_lessonLine_70 : decode cX12_lessonLine 70 = .ok (.ifCond .ne 16, 3) := by decide +kernel
theorem dX12_lessonLine_73 : decode cX12_lessonLine 73 = .ok (.aload_n 0, 1) := by decide +kernel
theorem dX12_lessonLine_74 : decode cX12_lessonLine 74 = .ok (.iconst 1, 1) := by decide +kernel
theorem dX12_lessonLine_75 : decode cX12_lessonLine 75 = .ok (.iconst 0, 1) := by decide +kernel
theorem dX12_lessonLine_76 : decode cX12_lessonLine 76 = .ok (.bipush 7, 2) := by decide +kernel
theorem dX12_lessonLine_78 : decode cX12_lessonLine 78 = .ok (.invokevirtual 162, 3) := by decide +kernel
theorem dX12_lessonLine_81 : decode cX12_lessonLine 81 = .ok (.ifCond .ne 5, 3) := by decide +kernel
theorem dX12_lessonLine_84 : decode cX12_lessonLine 84 = .ok (.iconst 0, 1) := by decide +kernel
theorem dX12_lessonLine_85 : decode cX12_lessonLine 85 = .ok (.ireturn, 1) := by decide +kernel
theorem dX12_lessonLine_86 : decode cX12_lessonLine 86 = .ok (.lload_n 1, 1) := by decide +kernel
theorem dX12_lessonLine_87 : decode cX12_lessonLine 87 = .ok (.ldc2_w 221, 3) := by decide +kernel
theorem dX12_lessonLine_90 : decode cX12_lessonLine 90 = .ok (.lcmp, 1) := by decide +kernel
theorem dX12_lessonLine_91 : decode cX12_lessonLine 91 = .ok (.ifCond .ne 15, 3) := by decide +kernel
theorem dX12_lessonLine_94 : decode cX12_lessonLine 94 = .ok (.aload_n 0, 1) := by decide +kernel
theorem dX12_lessonLine_95 : decode cX12_lessonLine 95 = .ok (.iconst 1, 1) := by decide +kernel
theorem dX12_lessonLine_96 : decode cX12_lessonLine 96 = .ok (.iconst 2, 1) := by decide +kernel
theorem dX12_lessonLine_97 : decode cX12_lessonLine 97 = .ok (.iconst 2, 1) := by decide +kernel
theorem dX12_lessonLine_98 : decode cX12_lessonLine 98 = .ok (.bipush 10, 2) := by decide +kernel
theorem dX12_lessonLine_100 : decode cX12_lessonLine 100 = .ok (.invokevirtual 217, 3) := by decide +kernel
theorem dX12_lessonLine_103 : decode cX12_lessonLine 103 = .ok (.goto 15, 3) := by decide +kernel
theorem dX12_lessonLine_106 : decode cX12_lessonLine 106 = .ok (.aload_n 0, 1) := by decide +kernel
theorem dX12_lessonLine_107 : decode cX12_lessonLine 107 = .ok (.getfield 38, 3) := by decide +kernel
theorem dX12_lessonLine_110 : decode cX12_lessonLine 110 = .ok (.iconst 0, 1) := by decide +kernel
theorem dX12_lessonLine_111 : decode cX12_lessonLine 111 = .ok (.aload_n 0, 1) := by decide +kernel
theorem dX12_lessonLine_112 : decode cX12_lessonLine 112 = .ok (.getfield 41, 3) := by decide +kernel
theorem dX12_lessonLine_115 : decode cX12_lessonLine 115 = .ok (.iconst 0, 1) := by decide +kernel
theorem dX12_lessonLine_116 : decode cX12_lessonLine 116 = .ok (.iaload, 1) := by decide +kernel
theorem dX12_lessonLine_117 : decode cX12_lessonLine 117 = .ok (.iastore, 1) := by decide +kernel
theorem dX12_lessonLine_118 : decode cX12_lessonLine 118 = .ok (.iconst 1, 1) := by decide +kernel
theorem dX12_lessonLine_119 : decode cX12_lessonLine 119 = .ok (.ireturn, 1) := by decide +kernel
noncomputable def fX12_lessonLine_b86 (x1 : Int64) (x0 : Nat) (m10 : zM) : Option (Int32 × zM) :=
  zc1 (if (lg_cmp x1 1734440549) = 0 then (
  zb1 (fX12_keep m10 x0 1 2 2 10) fun m22 =>
  some m22)
  else (
  zb1 (zm_gR m10 12 x0 19) fun v13 =>
  zb1 (zm_gR m10 12 x0 20) fun v15 =>
  zb1 (zm_aI m10 0 v15 0) fun v17 =>
  zb1 (zm_sI m10 0 v13 0 v17) fun m19 =>
  some m19) : Option (zM)) fun (m11 : zM) =>
  some (1, m11)
noncomputable def fX12_lessonLine_b21 (x1 : Int64) (μ : zM) (x0 : Nat) (x3 : Int32) : Option (Int32 × zM) :=
  zc1 (if (lg_cmp x1 1734440549) = 0 then (
  zb1 (fX12_full μ x0 1 10 x3) fun m28 =>
  some m28)
  else (
  some μ) : Option (zM)) fun (m1 : zM) =>
  zb1 (fX12_token m1 x0) fun m4 =>
  zb1 (if (lg_cmp x1 1734440549) = 0 then (
  some 7)
  else (
  some 9) : Option (Int32)) fun (s5 : Int32) =>
  zb2 (fX12_take m4 x0 0 0 s5) fun v9 m8 =>
  if v9 = 0 then (
  some (0, m8))
  else (
  if (lg_cmp x1 1734440549) = 0 then (
  zb2 (fX12_take m8 x0 1 0 7) fun v26 m25 =>
  if v26 = 0 then (
  some (0, m25))
  else (
  fX12_lessonLine_b86 x1 x0 m25))
  else (
  fX12_lessonLine_b86 x1 x0 m8))
noncomputable def fX12_lessonLine (μ : zM) (x0 : Nat) (x1 : Int64) (x3 : Int32) : Option (Int32 × zM) := zgd (zm_ck μ 12 x0) <|
  if (lg_cmp x1 1734440549) = 0 then (
  fX12_lessonLine_b21 x1 μ x0 x3)
  else (
  if (lg_cmp x1 1818846579) = 0 then (
  fX12_lessonLine_b21 x1 μ x0 x3)
  else (
  zb2 (fX12_fails μ x0) fun v32 m31 =>
  zb1 (zbz v32) fun v33 =>
  some (v33, m31)))
theorem fX12_lessonLine_ck {μ : zM} {x0 : Nat} {x1 : Int64} {x3 : Int32} {z : Int32 × zM} (h : fX12_lessonLine μ x0 x1 x3 = some z) : zm_ck μ 12 x0 = true := (zgd_s h).1
set_option maxHeartbeats 4000000 in
set_option maxRecDepth 100000 in
theorem cX12_lessonLine_ok {μ : zM} {x0 : Nat} {x1 : Int64} {x3 : Int32} {r : Int32} {mo : zM} (hf : fX12_lessonLine μ x0 x1 x3 = some (r, mo)) : zC yX12_lessonLine cX12_lessonLine 4 (some .boolean) 3 0 0 [.ref x0, .long x1, .int x3] μ (some (.int r)) mo := by
  replace hf := (zgd_s hf).2
  refine zC.of (by decide) (Nat.le_of_ble_eq_true rfl) (fun K hin => ?_)
  clear hin
  show zz K cX12_lessonLine (4, RX12, some .boolean, 3, 0, 0, some (.int r), mo) 0 0 0 [(0, .ref x0), (1, .long x1), (3, .int x3)] [] μ
  refine zr_lload_n 1 dX12_lessonLine_0 rfl ?_
  refine zr_ldc2 zl_978 dX12_lessonLine_1 ?_
  refine zr_lcmp dX12_lessonLine_4 ?_
  have hb29 : ∀ (_ : Unit), fX12_lessonLine_b21 x1 μ x0 x3 = some (r, mo) → zz K cX12_lessonLine (4, RX12, some .boolean, 3, 0, 0, some (.int r), mo) 0 0 21 [(0, .ref x0), (1, .long x1), (3, .int x3)] [] μ := by
    intro _ hf
    unfold fX12_lessonLine_b21 at hf
    refine zr_lload_n 1 dX12_lessonLine_21 rfl ?_
    refine zr_ldc2 zl_978 dX12_lessonLine_22 ?_
    refine zr_lcmp dX12_lessonLine_25 ?_
    replace hf := zc1_s hf
    obtain ⟨m1, hg, hf⟩ := hf
    have hj2 : zz K cX12_lessonLine (4, RX12, some .boolean, 3, 0, 0, some (.int r), mo) 0 0 37 [(0, .ref x0), (1, .long x1)] [] m1 := by
      refine zr_aload_n 0 dX12_lessonLine_37 rfl ?_
      replace hf := zb1_s hf
      obtain ⟨m4, h3, hf⟩ := hf
      refine zr_callV (ci := 12) [] (cX12_token_ok h3) zvs_X12_token zl_919 zl_920 (fX12_token_ck h3) rfl rfl zl_918 rfl (Nat.le_of_ble_eq_true rfl) (Nat.le_of_ble_eq_true rfl) (Nat.le_of_ble_eq_true rfl) (Nat.le_of_ble_eq_true rfl) dX12_lessonLine_38 rfl ?_
      refine zr_aload_n 0 dX12_lessonLine_41 rfl ?_
      refine zr_iconst 0 dX12_lessonLine_42 (by decide) ?_
      refine zr_iconst 0 dX12_lessonLine_43 (by decide) ?_
      refine zr_lload_n 1 dX12_lessonLine_44 rfl ?_
      refine zr_ldc2 zl_978 dX12_lessonLine_45 ?_
      refine zr_lcmp dX12_lessonLine_48 ?_
      replace hf := zb1_s hf
      obtain ⟨s5, hg, hf⟩ := hf
      have hj6 : zz K cX12_lessonLine (4, RX12, some .boolean, 3, 0, 0, some (.int r), mo) 0 0 59 [(0, .ref x0), (1, .long x1)] [.int s5, .int 0, .int 0, .ref x0] m4 := by
        replace hf := zb2_s hf
        obtain ⟨v9, m8, h7, hf⟩ := hf
        refine zr_callV (ci := 12) [.int 0, .int 0, .int s5] (cX12_take_ok h7) zvs_X12_take zl_935 zl_936 (fX12_take_ck h7) rfl rfl zl_934 rfl (Nat.le_of_ble_eq_true rfl) (Nat.le_of_ble_eq_true rfl) (Nat.le_of_ble_eq_true rfl) (Nat.le_of_ble_eq_true rfl) dX12_lessonLine_59 rfl ?_
        refine zr_if_eq 84 dX12_lessonLine_62 (by decide) (fun hc => ?_) (fun hc => ?_)
        · rw [if_pos hc] at hf
          refine zr_iconst 0 dX12_lessonLine_84 (by decide) ?_
          cases hf
          exact zr_zret rfl dX12_lessonLine_85
        · rw [if_neg hc] at hf
          refine zr_lload_n 1 dX12_lessonLine_65 rfl ?_
          refine zr_ldc2 zl_978 dX12_lessonLine_66 ?_
          refine zr_lcmp dX12_lessonLine_69 ?_
          have hb23 : ∀ (m10 : zM), fX12_lessonLine_b86 x1 x0 m10 = some (r, mo) → zz K cX12_lessonLine (4, RX12, some .boolean, 3, 0, 0, some (.int r), mo) 0 0 86 [(0, .ref x0), (1, .long x1)] [] m10 := by
            intro m10 hf
            unfold fX12_lessonLine_b86 at hf
            refine zr_lload_n 1 dX12_lessonLine_86 rfl ?_
            refine zr_ldc2 zl_978 dX12_lessonLine_87 ?_
            refine zr_lcmp dX12_lessonLine_90 ?_
            replace hf := zc1_s hf
            obtain ⟨m11, hg, hf⟩ := hf
            have hj12 : zz K cX12_lessonLine (4, RX12, some .boolean, 3, 0, 0, some (.int r), mo) 0 0 118 [] [] m11 := by
              refine zr_iconst 1 dX12_lessonLine_118 (by decide) ?_
              cases hf
              exact zr_zret rfl dX12_lessonLine_119
            clear hf
            have hf := hg
            clear hg
            refine zr_if_ne 106 dX12_lessonLine_91 (by decide) (fun hc => ?_) (fun hc => ?_)
            · rw [if_neg hc] at hf
              refine zr_aload_n 0 dX12_lessonLine_106 rfl ?_
              replace hf := zb1_s hf
              obtain ⟨v13, h14, hf⟩ := hf
              refine zr_get (zm_gR_g h14) zk12 (by decide) zl_873 dX12_lessonLine_107 ?_
              refine zr_iconst 0 dX12_lessonLine_110 (by decide) ?_
              refine zr_aload_n 0 dX12_lessonLine_111 rfl ?_
              replace hf := zb1_s hf
              obtain ⟨v15, h16, hf⟩ := hf
              refine zr_get (zm_gR_g h16) zk12 (by decide) zl_874 dX12_lessonLine_112 ?_
              refine zr_iconst 0 dX12_lessonLine_115 (by decide) ?_
              replace hf := zb1_s hf
              obtain ⟨v17, h18, hf⟩ := hf
              refine zr_iald h18 dX12_lessonLine_116 ?_
              replace hf := zb1_s hf
              obtain ⟨m19, h20, hf⟩ := hf
              refine zr_iast h20 dX12_lessonLine_117 ?_
              cases hf
              exact zr_lv [] rfl hj12
            · rw [if_pos hc] at hf
              refine zr_aload_n 0 dX12_lessonLine_94 rfl ?_
              refine zr_iconst 1 dX12_lessonLine_95 (by decide) ?_
              refine zr_iconst 2 dX12_lessonLine_96 (by decide) ?_
              refine zr_iconst 2 dX12_lessonLine_97 (by decide) ?_
              refine zr_bipush 10 dX12_lessonLine_98 (by decide) ?_
              replace hf := zb1_s hf
              obtain ⟨m22, h21, hf⟩ := hf
              refine zr_callV (ci := 12) [.int 1, .int 2, .int 2, .int 10] (cX12_keep_ok h21) zvs_X12_keep zl_976 zl_977 (fX12_keep_ck h21) rfl rfl zl_975 rfl (Nat.le_of_ble_eq_true rfl) (Nat.le_of_ble_eq_true rfl) (Nat.le_of_ble_eq_true rfl) (Nat.le_of_ble_eq_true rfl) dX12_lessonLine_100 rfl ?_
              refine zr_goto 118 dX12_lessonLine_103 (by decide) ?_
              cases hf
              exact zr_lv [] rfl hj12
          refine zr_if_ne 86 dX12_lessonLine_70 (by decide) (fun hc => ?_) (fun hc => ?_)
          · rw [if_neg hc] at hf
            exact zr_lv [0, 1] rfl (hb23 m8 hf)
          · rw [if_pos hc] at hf
            refine zr_aload_n 0 dX12_lessonLine_73 rfl ?_
            refine zr_iconst 1 dX12_lessonLine_74 (by decide) ?_
            refine zr_iconst 0 dX12_lessonLine_75 (by decide) ?_
            refine zr_bipush 7 dX12_lessonLine_76 (by decide) ?_
            replace hf := zb2_s hf
            obtain ⟨v26, m25, h24, hf⟩ := hf
            refine zr_callV (ci := 12) [.int 1, .int 0, .int 7] (cX12_take_ok h24) zvs_X12_take zl_935 zl_936 (fX12_take_ck h24) rfl rfl zl_934 rfl (Nat.le_of_ble_eq_true rfl) (Nat.le_of_ble_eq_true rfl) (Nat.le_of_ble_eq_true rfl) (Nat.le_of_ble_eq_true rfl) dX12_lessonLine_78 rfl ?_
            refine zr_if_ne 86 dX12_lessonLine_81 (by decide) (fun hc => ?_) (fun hc => ?_)
            · rw [if_neg hc] at hf
              exact zr_lv [0, 1] rfl (hb23 m25 hf)
            · rw [if_pos hc] at hf
              refine zr_iconst 0 dX12_lessonLine_84 (by decide) ?_
              cases hf
              exact zr_zret rfl dX12_lessonLine_85
      clear hf
      have hf := hg
      clear hg
      refine zr_if_ne 57 dX12_lessonLine_49 (by decide) (fun hc => ?_) (fun hc => ?_)
      · rw [if_neg hc] at hf
        refine zr_bipush 9 dX12_lessonLine_57 (by decide) ?_
        cases hf
        exact zr_lv [0, 1] rfl hj6
      · rw [if_pos hc] at hf
        refine zr_bipush 7 dX12_lessonLine_52 (by decide) ?_
        refine zr_goto 59 dX12_lessonLine_54 (by decide) ?_
        cases hf
        exact zr_lv [0, 1] rfl hj6
    clear hf
    have hf := hg
    clear hg
    refine zr_if_ne 37 dX12_lessonLine_26 (by decide) (fun hc => ?_) (fun hc => ?_)
    · rw [if_neg hc] at hf
      cases hf
      exact zr_lv [0, 1] rfl hj2
    · rw [if_pos hc] at hf
      refine zr_aload_n 0 dX12_lessonLine_29 rfl ?_
      refine zr_iconst 1 dX12_lessonLine_30 (by decide) ?_
      refine zr_bipush 10 dX12_lessonLine_31 (by decide) ?_
      refine zr_iload_n 2 dX12_lessonLine_33 rfl ?_
      replace hf := zb1_s hf
      obtain ⟨m28, h27, hf⟩ := hf
      refine zr_callV (ci := 12) [.int 1, .int 10, .int x3] (cX12_full_ok h27) zvs_X12_full zl_963 zl_964 (fX12_full_ck h27) rfl rfl zl_962 rfl (Nat.le_of_ble_eq_true rfl) (Nat.le_of_ble_eq_true rfl) (Nat.le_of_ble_eq_true rfl) (Nat.le_of_ble_eq_true rfl) dX12_lessonLine_34 rfl ?_
      cases hf
      exact zr_lv [0, 1] rfl hj2
  refine zr_if_eq 21 dX12_lessonLine_5 (by decide) (fun hc => ?_) (fun hc => ?_)
  · rw [if_pos hc] at hf
    exact zr_lv [0, 1, 2] rfl (hb29 () hf)
  · rw [if_neg hc] at hf
    refine zr_lload_n 1 dX12_lessonLine_8 rfl ?_
    refine zr_ldc2 zl_979 dX12_lessonLine_9 ?_
    refine zr_lcmp dX12_lessonLine_12 ?_
    refine zr_if_eq 21 dX12_lessonLine_13 (by decide) (fun hc => ?_) (fun hc => ?_)
    · rw [if_pos hc] at hf
      exact zr_lv [0, 1, 2] rfl (hb29 () hf)
    · rw [if_neg hc] at hf
      refine zr_aload_n 0 dX12_lessonLine_16 rfl ?_
      replace hf := zb2_s hf
      obtain ⟨v32, m31, h30, hf⟩ := hf
      refine zr_callV (ci := 12) [] (cX12_fails_ok h30) zvs_X12_fails zl_928 zl_929 (fX12_fails_ck h30) rfl rfl zl_927 rfl (Nat.le_of_ble_eq_true rfl) (Nat.le_of_ble_eq_true rfl) (Nat.le_of_ble_eq_true rfl) (Nat.le_of_ble_eq_true rfl) dX12_lessonLine_17 rfl ?_
      replace hf := zb1_s hf
      obtain ⟨v33, hn34, hf⟩ := hf
      replace hn34 := zbz_s hn34
      obtain ⟨hn34, rfl⟩ := hn34
      cases hf
      exact zr_zret hn34 dX12_lessonLine_20
