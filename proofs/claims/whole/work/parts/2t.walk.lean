theorem dX12_count_0 : decode cX12_count 0 = .ok (.aload_n 0, 1) := by decide +kernel
theorem dX12_count_1 : decode cX12_count 1 = .ok (.iconst 0, 1) := by decide +kernel
theorem dX12_count_2 : decode cX12_count 2 = .ok (.putfield 93, 3) := by decide +kernel
theorem dX12_count_5 : decode cX12_count 5 = .ok (.iload_n 1, 1) := by decide +kernel
theorem dX12_count_6 : decode cX12_count 6 = .ok (.iconst 0, 1) := by decide +kernel
theorem dX12_count_7 : decode cX12_count 7 = .ok (.iconst 3, 1) := by decide +kernel
theorem dX12_count_8 : decode cX12_count 8 = .ok (.invokestatic 101, 3) := by decide +kernel
theorem dX12_count_11 : decode cX12_count 11 = .ok (.ifCond .eq 12, 3) := by decide +kernel
theorem dX12_count_14 : decode cX12_count 14 = .ok (.aload_n 0, 1) := by decide +kernel
theorem dX12_count_15 : decode cX12_count 15 = .ok (.getfield 23, 3) := by decide +kernel
theorem dX12_count_18 : decode cX12_count 18 = .ok (.iload_n 1, 1) := by decide +kernel
theorem dX12_count_19 : decode cX12_count 19 = .ok (.iaload, 1) := by decide +kernel
theorem dX12_count_20 : decode cX12_count 20 = .ok (.goto 5, 3) := by decide +kernel
theorem dX12_count_23 : decode cX12_count 23 = .ok (.bipush (-2), 2) := by decide +kernel
theorem dX12_count_25 : decode cX12_count 25 = .ok (.ireturn, 1) := by decide +kernel
noncomputable def fX12_count (μ : zM) (x0 : Nat) (x1 : Int32) : Option (Int32 × zM) := zgd (zm_ck μ 12 x0) <|
  zb1 (zm_p μ 12 x0 0 (.int 0)) fun m1 =>
  zb1 (fX12_in m1 x1 0 3) fun v4 =>
  zb1 (if v4 = 0 then (
  some (-2))
  else (
  zb1 (zm_gR m1 12 x0 5) fun v7 =>
  zb1 (zm_aI m1 0 v7 x1) fun v9 =>
  some v9) : Option (Int32)) fun (s5 : Int32) =>
  some (s5, m1)
theorem fX12_count_ck {μ : zM} {x0 : Nat} {x1 : Int32} {z : Int32 × zM} (h : fX12_count μ x0 x1 = some z) : zm_ck μ 12 x0 = true := (zgd_s h).1
set_option maxHeartbeats 4000000 in
set_option maxRecDepth 100000 in
theorem cX12_count_ok {μ : zM} {x0 : Nat} {x1 : Int32} {r : Int32} {mo : zM} (hf : fX12_count μ x0 x1 = some (r, mo)) : zC yX12_count cX12_count 2 (some .int) 1 0 0 [.ref x0, .int x1] μ (some (.int r)) mo := by
  replace hf := (zgd_s hf).2
  refine zC.of (by decide) (Nat.le_of_ble_eq_true rfl) (fun K hin => ?_)
  clear hin
  show zz K cX12_count (2, RX12, some .int, 1, 0, 0, some (.int r), mo) 0 0 0 [(0, .ref x0), (1, .int x1)] [] μ
  refine zr_aload_n 0 dX12_count_0 rfl ?_
  refine zr_iconst 0 dX12_count_1 (by decide) ?_
  replace hf := zb1_s hf
  obtain ⟨m1, h2, hf⟩ := hf
  refine zr_put h2 zk12 (by decide) zl_899 rfl rfl rfl dX12_count_2 ?_
  refine zr_iload_n 1 dX12_count_5 rfl ?_
  refine zr_iconst 0 dX12_count_6 (by decide) ?_
  refine zr_iconst 3 dX12_count_7 (by decide) ?_
  replace hf := zb1_s hf
  obtain ⟨v4, h3, hf⟩ := hf
  refine zr_callS [.int x1, .int 0, .int 3] (cX12_in_ok h3) zvs_X12_in zl_898 zl_897 rfl (Nat.le_of_ble_eq_true rfl) (Nat.le_of_ble_eq_true rfl) (Nat.le_of_ble_eq_true rfl) (Nat.le_of_ble_eq_true rfl) dX12_count_8 rfl ?_
  replace hf := zb1_s hf
  obtain ⟨s5, hg, hf⟩ := hf
  have hj6 : zz K cX12_count (2, RX12, some .int, 1, 0, 0, some (.int r), mo) 0 0 25 [] [.int s5] m1 := by
    cases hf
    exact zr_iret dX12_count_25
  clear hf
  have hf := hg
  clear hg
  refine zr_if_eq 23 dX12_count_11 (by decide) (fun hc => ?_) (fun hc => ?_)
  · rw [if_pos hc] at hf
    refine zr_bipush (-2) dX12_count_23 (by decide) ?_
    cases hf
    exact zr_lv [] rfl hj6
  · rw [if_neg hc] at hf
    refine zr_aload_n 0 dX12_count_14 rfl ?_
    replace hf := zb1_s hf
    obtain ⟨v7, h8, hf⟩ := hf
    refine zr_get (zm_gR_g h8) zk12 (by decide) zl_868 dX12_count_15 ?_
    refine zr_iload_n 1 dX12_count_18 rfl ?_
    replace hf := zb1_s hf
    obtain ⟨v9, h10, hf⟩ := hf
    refine zr_iald h10 dX12_count_19 ?_
    refine zr_goto 25 dX12_count_20 (by decide) ?_
    cases hf
    exact zr_lv [] rfl hj6
theorem zl_1304 : Cond.code yX12_copyAll cX12_copyAll 4 (none) ∈ zt := zt_at 2025 (by decide +kernel)
theorem zvs_X12_copyAll : zvS yX12_copyAll cX12_copyAll 4 (none) 2 := ⟨zl_1304, zl_893, ⟨by decide +kernel, by decide +kernel, by decide +kernel⟩, by decide⟩
theorem zl_1305 : Cond.methodLink RX12 523 yX12_copyAll ∈ zt := zt_at 2022 (by decide +kernel)
theorem zl_1306 : Cond.instanceMethod yX12_copyAll ∈ zt := zt_at 2024 (by decide +kernel)
theorem zl_1307 : Cond.selects RX12 yX12_copyAll yX12_copyAll ∈ zt := zt_at 127 (by decide +kernel)
theorem dX12_image_0 : decode cX12_image 0 = .ok (.aload_n 0, 1) := by decide +kernel
theorem dX12_image_1 : decode cX12_image 1 = .ok (.iconst 0, 1) := by decide +kernel
theorem dX12_image_2 : decode cX12_image 2 = .ok (.putfield 93, 3) := by decide +kernel
theorem dX12_image_5 : decode cX12_image 5 = .ok (.iload_n 1, 1) := by decide +kernel
theorem dX12_image_6 : decode cX12_image 6 = .ok (.iconst 0, 1) := by decide +kernel
theorem dX12_image_7 : decode cX12_image 7 = .ok (.iconst 2, 1) := by decide +kernel
theorem dX12_image_8 : decode cX12_image 8 = .ok (.invokestatic 101, 3) := by decide +kernel
theorem dX12_image_11 : decode cX12_image 11 = .ok (.ifCond .ne 5, 3) := by decide +kernel
theorem dX12_image_14 : decode cX12_image 14 = .ok (.iconst 0, 1) := by decide +kernel
theorem dX12_image_15 : decode cX12_image 15 = .ok (.ireturn, 1) := by decide +kernel
theorem dX12_image_16 : decode cX12_image 16 = .ok (.aload_n 0, 1) := by decide +kernel
theorem dX12_image_17 : decode cX12_image 17 = .ok (.iconst 0, 1) := by decide +kernel
theorem dX12_image_18 : decode cX12_image 18 = .ok (.iload_n 1, 1) := by decide +kernel
theorem dX12_image_19 : decode cX12_image 19 = .ok (.iconst 1, 1) := by decide +kernel
theorem dX12_image_20 : decode cX12_image 20 = .ok (.iadd, 1) := by decide +kernel
theorem dX12_image_21 : decode cX12_image 21 = .ok (.invokevirtual 523, 3) := by decide +kernel
theorem dX12_image_24 : decode cX12_image 24 = .ok (.aload_n 0, 1) := by decide +kernel
theorem dX12_image_25 : decode cX12_image 25 = .ok (.getfield 89, 3) := by decide +kernel
theorem dX12_image_28 : decode cX12_image 28 = .ok (.iload_n 1, 1) := by decide +kernel
theorem dX12_image_29 : decode cX12_image 29 = .ok (.iconst 1, 1) := by decide +kernel
theorem dX12_image_30 : decode cX12_image 30 = .ok (.bastore, 1) := by decide +kernel
theorem dX12_image_31 : decode cX12_image 31 = .ok (.iconst 1, 1) := by decide +kernel
theorem dX12_image_32 : decode cX12_image 32 = .ok (.ireturn, 1) := by decide +kernel
noncomputable def fX12_image (μ : zM) (x0 : Nat) (x1 : Int32) : Option (Int32 × zM) := zgd (zm_ck μ 12 x0) <|
  zb1 (zm_p μ 12 x0 0 (.int 0)) fun m1 =>
  zb1 (fX12_in m1 x1 0 2) fun v4 =>
  if v4 = 0 then (
  some (0, m1))
  else (
  zb1 (fX12_copyAll m1 x0 0 (x1 + 1)) fun m6 =>
  zb1 (zm_gR m6 12 x0 53) fun v7 =>
  zb1 (zm_sI m6 2 v7 x1 (vp_nar .boolean 1)) fun m9 =>
  some (1, m9))
theorem fX12_image_ck {μ : zM} {x0 : Nat} {x1 : Int32} {z : Int32 × zM} (h : fX12_image μ x0 x1 = some z) : zm_ck μ 12 x0 = true := (zgd_s h).1
set_option maxHeartbeats 4000000 in
set_option maxRecDepth 100000 in
theorem cX12_image_ok {μ : zM} {x0 : Nat} {x1 : Int32} {r : Int32} {mo : zM} (hf : fX12_image μ x0 x1 = some (r, mo)) : zC yX12_image cX12_image 2 (some .boolean) 2 0 0 [.ref x0, .int x1] μ (some (.int r)) mo := by
  replace hf := (zgd_s hf).2
  refine zC.of (by decide) (Nat.le_of_ble_eq_true rfl) (fun K hin => ?_)
  clear hin
  show zz K cX12_image (2, RX12, some .boolean, 2, 0, 0, some (.int r), mo) 0 0 0 [(0, .ref x0), (1, .int x1)] [] μ
  refine zr_aload_n 0 dX12_image_0 rfl ?_
  refine zr_iconst 0 dX12_image_1 (by decide) ?_
  replace hf := zb1_s hf
  obtain ⟨m1, h2, hf⟩ := hf
  refine zr_put h2 zk12 (by decide) zl_899 rfl rfl rfl dX12_image_2 ?_
  refine zr_iload_n 1 dX12_image_5 rfl ?_
  refine zr_iconst 0 dX12_image_6 (by decide) ?_
  refine zr_iconst 2 dX12_image_7 (by decide) ?_
  replace hf := zb1_s hf
  obtain ⟨v4, h3, hf⟩ := hf
  refine zr_callS [.int x1, .int 0, .int 2] (cX12_in_ok h3) zvs_X12_in zl_898 zl_897 rfl (Nat.le_of_ble_eq_true rfl) (Nat.le_of_ble_eq_true rfl) (Nat.le_of_ble_eq_true rfl) (Nat.le_of_ble_eq_true rfl) dX12_image_8 rfl ?_
  refine zr_if_ne 16 dX12_image_11 (by decide) (fun hc => ?_) (fun hc => ?_)
  · rw [if_neg hc] at hf
    refine zr_aload_n 0 dX12_image_16 rfl ?_
    refine zr_iconst 0 dX12_image_17 (by decide) ?_
    refine zr_iload_n 1 dX12_image_18 rfl ?_
    refine zr_iconst 1 dX12_image_19 (by decide) ?_
    refine zr_iadd dX12_image_20 ?_
    replace hf := zb1_s hf
    obtain ⟨m6, h5, hf⟩ := hf
    refine zr_callV (ci := 12) [.int 0, .int (x1 + 1)] (cX12_copyAll_ok h5) zvs_X12_copyAll zl_1306 zl_1307 (fX12_copyAll_ck h5) rfl rfl zl_1305 rfl (Nat.le_of_ble_eq_true rfl) (Nat.le_of_ble_eq_true rfl) (Nat.le_of_ble_eq_true rfl) (Nat.le_of_ble_eq_true rfl) dX12_image_21 rfl ?_
    refine zr_aload_n 0 dX12_image_24 rfl ?_
    replace hf := zb1_s hf
    obtain ⟨v7, h8, hf⟩ := hf
    refine zr_get (zm_gR_g h8) zk12 (by decide) zl_891 dX12_image_25 ?_
    refine zr_iload_n 1 dX12_image_28 rfl ?_
    refine zr_iconst 1 dX12_image_29 (by decide) ?_
    replace hf := zb1_s hf
    obtain ⟨m9, h10, hf⟩ := hf
    refine zr_zast h10 dX12_image_30 ?_
    refine zr_iconst 1 dX12_image_31 (by decide) ?_
    cases hf
    exact zr_zret rfl dX12_image_32
  · rw [if_pos hc] at hf
    refine zr_iconst 0 dX12_image_14 (by decide) ?_
    cases hf
    exact zr_zret rfl dX12_image_15
theorem dX12_again_0 : decode cX12_again 0 = .ok (.aload_n 0, 1) := by decide +kernel
theorem dX12_again_1 : decode cX12_again 1 = .ok (.iconst 0, 1) := by decide +kernel
theorem dX12_again_2 : decode cX12_again 2 = .ok (.putfield 93, 3) := by decide +kernel
theorem dX12_again_5 : decode cX12_again 5 = .ok (.iload_n 1, 1) := by decide +kernel
theorem dX12_again_6 : decode cX12_again 6 = .ok (.iconst 0, 1) := by decide +kernel
theorem dX12_again_7 : decode cX12_again 7 = .ok (.iconst 2, 1) := by decide +kernel
theorem dX12_again_8 : decode cX12_again 8 = .ok (.invokestatic 101, 3) := by decide +kernel
theorem dX12_again_11 : decode cX12_again 11 = .ok (.ifCond .eq 12, 3) := by decide +kernel
theorem dX12_again_14 : decode cX12_again 14 = .ok (.aload_n 0, 1) := by decide +kernel
theorem dX12_again_15 : decode cX12_again 15 = .ok (.getfield 89, 3) := by decide +kernel
theorem dX12_again_18 : decode cX12_again 18 = .ok (.iload_n 1, 1) := by decide +kernel
theorem dX12_again_19 : decode cX12_again 19 = .ok (.baload, 1) := by decide +kernel
theorem dX12_again_20 : decode cX12_again 20 = .ok (.ifCond .ne 5, 3) := by decide +kernel
theorem dX12_again_23 : decode cX12_again 23 = .ok (.iconst 0, 1) := by decide +kernel
theorem dX12_again_24 : decode cX12_again 24 = .ok (.ireturn, 1) := by decide +kernel
theorem dX12_again_25 : decode cX12_again 25 = .ok (.aload_n 0, 1) := by decide +kernel
theorem dX12_again_26 : decode cX12_again 26 = .ok (.iload_n 1, 1) := by decide +kernel
theorem dX12_again_27 : decode cX12_again 27 = .ok (.iconst 1, 1) := by decide +kernel
theorem dX12_again_28 : decode cX12_again 28 = .ok (.iadd, 1) := by decide +kernel
theorem dX12_again_29 : decode cX12_again 29 = .ok (.iconst 0, 1) := by decide +kernel
theorem dX12_again_30 : decode cX12_again 30 = .ok (.invokevirtual 523, 3) := by decide +kernel
theorem dX12_again_33 : decode cX12_again 33 = .ok (.iconst 1, 1) := by decide +kernel
theorem dX12_again_34 : decode cX12_again 34 = .ok (.ireturn, 1) := by decide +kernel
noncomputable def fX12_again (μ : zM) (x0 : Nat) (x1 : Int32) : Option (Int32 × zM) := zgd (zm_ck μ 12 x0) <|
  zb1 (zm_p μ 12 x0 0 (.int 0)) fun m1 =>
  zb1 (fX12_in m1 x1 0 2) fun v4 =>
  if v4 = 0 then (
  some (0, m1))
  else (
  zb1 (zm_gR m1 12 x0 53) fun v5 =>
  zb1 (zm_aI m1 2 v5 x1) fun v7 =>
  if v7 = 0 then (
  some (0, m1))
  else (
  zb1 (fX12_copyAll m1 x0 (x1 + 1) 0) fun m10 =>
  some (1, m10)))
theorem fX12_again_ck {μ : zM} {x0 : Nat} {x1 : Int32} {z : Int32 × zM} (h : fX12_again μ x0 x1 = some z) : zm_ck μ 12 x0 = true := (zgd_s h).1
set_option maxHeartbeats 4000000 in
set_option maxRecDepth 100000 in
theorem cX12_again_ok {μ : zM} {x0 : Nat} {x1 : Int32} {r : Int32} {mo : zM} (hf : fX12_again μ x0 x1 = some (r, mo)) : zC yX12_again cX12_again 2 (some .boolean) 2 0 0 [.ref x0, .int x1] μ (some (.int r)) mo := by
  replace hf := (zgd_s hf).2
  refine zC.of (by decide) (Nat.le_of_ble_eq_true rfl) (fun K hin => ?_)
  clear hin
  show zz K cX12_again (2, RX12, some .boolean, 2, 0, 0, some (.int r), mo) 0 0 0 [(0, .ref x0), (1, .int x1)] [] μ
  refine zr_aload_n 0 dX12_again_0 rfl ?_
  refine zr_iconst 0 dX12_again_1 (by decide) ?_
  replace hf := zb1_s hf
  obtain ⟨m1, h2, hf⟩ := hf
  refine zr_put h2 zk12 (by decide) zl_899 rfl rfl rfl dX12_again_2 ?_
  refine zr_iload_n 1 dX12_again_5 rfl ?_
  refine zr_iconst 0 dX12_again_6 (by decide) ?_
  refine zr_iconst 2 dX12_again_7 (by decide) ?_
  replace hf := zb1_s hf
  obtain ⟨v4, h3, hf⟩ := hf
  refine zr_callS [.int x1, .int 0, .int 2] (cX12_in_ok h3) zvs_X12_in zl_898 zl_897 rfl (Nat.le_of_ble_eq_true rfl) (Nat.le_of_ble_eq_true rfl) (Nat.le_of_ble_eq_true rfl) (Nat.le_of_ble_eq_true rfl) dX12_again_8 rfl ?_
  refine zr_if_eq 23 dX12_again_11 (by decide) (fun hc => ?_) (fun hc => ?_)
  · rw [if_pos hc] at hf
    refine zr_iconst 0 dX12_again_23 (by decide) ?_
    cases hf
    exact zr_zret rfl dX12_again_24
  · rw [if_neg hc] at hf
    refine zr_aload_n 0 dX12_again_14 rfl ?_
    replace hf := zb1_s hf
    obtain ⟨v5, h6, hf⟩ := hf
    refine zr_get (zm_gR_g h6) zk12 (by decide) zl_891 dX12_again_15 ?_
    refine zr_iload_n 1 dX12_again_18 rfl ?_
    replace hf := zb1_s hf
    obtain ⟨v7, h8, hf⟩ := hf
    refine zr_zald h8 dX12_again_19 ?_
    refine zr_if_ne 25 dX12_again_20 (by decide) (fun hc => ?_) (fun hc => ?_)
    · rw [if_neg hc] at hf
      refine zr_aload_n 0 dX12_again_25 rfl ?_
      refine zr_iload_n 1 dX12_again_26 rfl ?_
      refine zr_iconst 1 dX12_again_27 (by decide) ?_
      refine zr_iadd dX12_again_28 ?_
      refine zr_iconst 0 dX12_again_29 (by decide) ?_
      replace hf := zb1_s hf
      obtain ⟨m10, h9, hf⟩ := hf
      refine zr_callV (ci := 12) [.int (x1 + 1), .int 0] (cX12_copyAll_ok h9) zvs_X12_copyAll zl_1306 zl_1307 (fX12_copyAll_ck h9) rfl rfl zl_1305 rfl (Nat.le_of_ble_eq_true rfl) (Nat.le_of_ble_eq_true rfl) (Nat.le_of_ble_eq_true rfl) (Nat.le_of_ble_eq_true rfl) dX12_again_30 rfl ?_
      refine zr_iconst 1 dX12_again_33 (by decide) ?_
      cases hf
      exact zr_zret rfl dX12_again_34
    · rw [if_pos hc] at hf
      refine zr_iconst 0 dX12_again_23 (by decide) ?_
      cases hf
      exact zr_zret rfl dX12_again_24
