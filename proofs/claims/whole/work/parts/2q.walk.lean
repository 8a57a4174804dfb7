theorem zl_1192 : Cond.fieldLink RX12 427 "TwoEchoesModel" "lesson" "I" ∈ zt := zt_at 1385 (by decide +kernel)
theorem dX12_lessonOf_0 : decode cX12_lessonOf 0 = .ok (.aload_n 0, 1) := by decide +kernel
theorem dX12_lessonOf_1 : decode cX12_lessonOf 1 = .ok (.getfield 32, 3) := by decide +kernel
theorem dX12_lessonOf_4 : decode cX12_lessonOf 4 = .ok (.bipush 22, 2) := by decide +kernel
theorem dX12_lessonOf_6 : decode cX12_lessonOf 6 = .ok (.aload_n 0, 1) := by decide +kernel
theorem dX12_lessonOf_7 : decode cX12_lessonOf 7 = .ok (.getfield 427, 3) := by decide +kernel
theorem dX12_lessonOf_10 : decode cX12_lessonOf 10 = .ok (.imul, 1) := by decide +kernel
theorem dX12_lessonOf_11 : decode cX12_lessonOf 11 = .ok (.iload_n 1, 1) := by decide +kernel
theorem dX12_lessonOf_12 : decode cX12_lessonOf 12 = .ok (.iadd, 1) := by decide +kernel
theorem dX12_lessonOf_13 : decode cX12_lessonOf 13 = .ok (.iaload, 1) := by decide +kernel
theorem dX12_lessonOf_14 : decode cX12_lessonOf 14 = .ok (.ireturn, 1) := by decide +kernel
noncomputable def fX12_lessonOf (μ : zM) (x0 : Nat) (x1 : Int32) : Option (Int32) := zgd (zm_ck μ 12 x0) <|
  zb1 (zm_gR μ 12 x0 8) fun v1 =>
  zb1 (zm_gI μ 12 x0 44) fun v3 =>
  zb1 (zm_aI μ 0 v1 ((22 * v3) + x1)) fun v5 =>
  some v5
theorem fX12_lessonOf_ck {μ : zM} {x0 : Nat} {x1 : Int32} {z : Int32} (h : fX12_lessonOf μ x0 x1 = some z) : zm_ck μ 12 x0 = true := (zgd_s h).1
set_option maxHeartbeats 4000000 in
set_option maxRecDepth 100000 in
theorem cX12_lessonOf_ok {μ : zM} {x0 : Nat} {x1 : Int32} {r : Int32} (hf : fX12_lessonOf μ x0 x1 = some r) : zC yX12_lessonOf cX12_lessonOf 2 (some .int) 0 0 0 [.ref x0, .int x1] μ (some (.int r)) μ := by
  replace hf := (zgd_s hf).2
  refine zC.of (by decide) (Nat.le_of_ble_eq_true rfl) (fun K hin => ?_)
  clear hin
  show zz K cX12_lessonOf (2, RX12, some .int, 0, 0, 0, some (.int r), μ) 0 0 0 [(0, .ref x0), (1, .int x1)] [] μ
  refine zr_aload_n 0 dX12_lessonOf_0 rfl ?_
  replace hf := zb1_s hf
  obtain ⟨v1, h2, hf⟩ := hf
  refine zr_get (zm_gR_g h2) zk12 (by decide) zl_871 dX12_lessonOf_1 ?_
  refine zr_bipush 22 dX12_lessonOf_4 (by decide) ?_
  refine zr_aload_n 0 dX12_lessonOf_6 rfl ?_
  replace hf := zb1_s hf
  obtain ⟨v3, h4, hf⟩ := hf
  refine zr_get (zm_gI_g h4) zk12 (by decide) zl_1192 dX12_lessonOf_7 ?_
  refine zr_imul dX12_lessonOf_10 ?_
  refine zr_iload_n 1 dX12_lessonOf_11 rfl ?_
  refine zr_iadd dX12_lessonOf_12 ?_
  replace hf := zb1_s hf
  obtain ⟨v5, h6, hf⟩ := hf
  refine zr_iald h6 dX12_lessonOf_13 ?_
  cases hf
  exact zr_iret dX12_lessonOf_14
theorem dX12_hasLesson_0 : decode cX12_hasLesson 0 = .ok (.aload_n 0, 1) := by decide +kernel
theorem dX12_hasLesson_1 : decode cX12_hasLesson 1 = .ok (.iload_n 1, 1) := by decide +kernel
theorem dX12_hasLesson_2 : decode cX12_hasLesson 2 = .ok (.putfield 427, 3) := by decide +kernel
theorem dX12_hasLesson_5 : decode cX12_hasLesson 5 = .ok (.aload_n 0, 1) := by decide +kernel
theorem dX12_hasLesson_6 : decode cX12_hasLesson 6 = .ok (.iconst 2, 1) := by decide +kernel
theorem dX12_hasLesson_7 : decode cX12_hasLesson 7 = .ok (.iload_n 1, 1) := by decide +kernel
theorem dX12_hasLesson_8 : decode cX12_hasLesson 8 = .ok (.invokevirtual 256, 3) := by decide +kernel
theorem dX12_hasLesson_11 : decode cX12_hasLesson 11 = .ok (.ireturn, 1) := by decide +kernel
noncomputable def fX12_hasLesson (μ : zM) (x0 : Nat) (x1 : Int32) : Option (Int32 × zM) := zgd (zm_ck μ 12 x0) <|
  zb1 (zm_p μ 12 x0 44 (.int x1)) fun m1 =>
  zb1 (fX12_is m1 x0 2 x1) fun v4 =>
  zb1 (zbz v4) fun v5 =>
  some (v5, m1)
theorem fX12_hasLesson_ck {μ : zM} {x0 : Nat} {x1 : Int32} {z : Int32 × zM} (h : fX12_hasLesson μ x0 x1 = some z) : zm_ck μ 12 x0 = true := (zgd_s h).1
set_option maxHeartbeats 4000000 in
set_option maxRecDepth 100000 in
theorem cX12_hasLesson_ok {μ : zM} {x0 : Nat} {x1 : Int32} {r : Int32} {mo : zM} (hf : fX12_hasLesson μ x0 x1 = some (r, mo)) : zC yX12_hasLesson cX12_hasLesson 2 (some .boolean) 2 0 0 [.ref x0, .int x1] μ (some (.int r)) mo := by
  replace hf := (zgd_s hf).2
  refine zC.of (by decide) (Nat.le_of_ble_eq_true rfl) (fun K hin => ?_)
  clear hin
  show zz K cX12_hasLesson (2, RX12, some .boolean, 2, 0, 0, some (.int r), mo) 0 0 0 [(0, .ref x0), (1, .int x1)] [] μ
  refine zr_aload_n 0 dX12_hasLesson_0 rfl ?_
  refine zr_iload_n 1 dX12_hasLesson_1 rfl ?_
  replace hf := zb1_s hf
  obtain ⟨m1, h2, hf⟩ := hf
  refine zr_put h2 zk12 (by decide) zl_1192 rfl rfl rfl dX12_hasLesson_2 ?_
  refine zr_aload_n 0 dX12_hasLesson_5 rfl ?_
  refine zr_iconst 2 dX12_hasLesson_6 (by decide) ?_
  refine zr_iload_n 1 dX12_hasLesson_7 rfl ?_
  replace hf := zb1_s hf
  obtain ⟨v4, h3, hf⟩ := hf
  refine zr_callV (ci := 12) [.int 2, .int x1] (cX12_is_ok h3) zvs_X12_is zl_1024 zl_1025 (fX12_is_ck h3) rfl rfl zl_1023 rfl (Nat.le_of_ble_eq_true rfl) (Nat.le_of_ble_eq_true rfl) (Nat.le_of_ble_eq_true rfl) (Nat.le_of_ble_eq_true rfl) dX12_hasLesson_8 rfl ?_
  replace hf := zb1_s hf
  obtain ⟨v5, hn6, hf⟩ := hf
  replace hn6 := zbz_s hn6
  obtain ⟨hn6, rfl⟩ := hn6
  cases hf
  exact zr_zret hn6 dX12_hasLesson_11
theorem zl_1193 : Cond.code yX12_hasLesson cX12_hasLesson 2 (some .boolean) ∈ zt := zt_at 1853 (by decide +kernel)
theorem zvs_X12_hasLesson : zvS yX12_hasLesson cX12_hasLesson 2 (some .boolean) 1 := ⟨zl_1193, zl_893, ⟨by decide +kernel, by decide +kernel, by decide +kernel⟩, by decide⟩
theorem zl_1194 : Cond.methodLink RX12 430 yX12_hasLesson ∈ zt := zt_at 1850 (by decide +kernel)
theorem zl_1195 : Cond.instanceMethod yX12_hasLesson ∈ zt := zt_at 1852 (by decide +kernel)
theorem zl_1196 : Cond.selects RX12 yX12_hasLesson yX12_hasLesson ∈ zt := zt_at 102 (by decide +kernel)
theorem zl_1197 : Cond.code yX12_lessonOf cX12_lessonOf 2 (some .int) ∈ zt := zt_at 1857 (by decide +kernel)
theorem zvs_X12_lessonOf : zvS yX12_lessonOf cX12_lessonOf 2 (some .int) 1 := ⟨zl_1197, zl_893, ⟨by decide +kernel, by decide +kernel, by decide +kernel⟩, by decide⟩
theorem zl_1198 : Cond.methodLink RX12 433 yX12_lessonOf ∈ zt := zt_at 1854 (by decide +kernel)
theorem zl_1199 : Cond.instanceMethod yX12_lessonOf ∈ zt := zt_at 1856 (by decide +kernel)
theorem zl_1200 : Cond.selects RX12 yX12_lessonOf yX12_lessonOf ∈ zt := zt_at 103 (by decide +kernel)
theorem dX12_lesson_0 : decode cX12_lesson 0 = .ok (.aload_n 0, 1) := by decide +kernel
theorem dX12_lesson_1 : decode cX12_lesson 1 = .ok (.iconst 0, 1) := by decide +kernel
theorem dX12_lesson_2 : decode cX12_lesson 2 = .ok (.putfield 93, 3) := by decide +kernel
theorem dX12_lesson_5 : decode cX12_lesson 5 = .ok (.aload_n 0, 1) := by decide +kernel
theorem dX12_lesson_6 : decode cX12_lesson 6 = .ok (.iload_n 1, 1) := by decide +kernel
theorem dX12_lesson_7 : decode cX12_lesson 7 = .ok (.invokevirtual 430, 3) := by decide +kernel
theorem dX12_lesson_10 : decode cX12_lesson 10 = .ok (.ifCond .ne 5, 3) := by decide +kernel
theorem dX12_lesson_13 : decode cX12_lesson 13 = .ok (.iconst (-1), 1) := by decide +kernel
theorem dX12_lesson_14 : decode cX12_lesson 14 = .ok (.ireturn, 1) := by decide +kernel
theorem dX12_lesson_15 : decode cX12_lesson 15 = .ok (.iload_n 2, 1) := by decide +kernel
theorem dX12_lesson_16 : decode cX12_lesson 16 = .ok (.bipush 10, 2) := by decide +kernel
theorem dX12_lesson_18 : decode cX12_lesson 18 = .ok (.bipush 29, 2) := by decide +kernel
theorem dX12_lesson_20 : decode cX12_lesson 20 = .ok (.invokestatic 101, 3) := by decide +kernel
theorem dX12_lesson_23 : decode cX12_lesson 23 = .ok (.ifCond .eq 37, 3) := by decide +kernel
theorem dX12_lesson_26 : decode cX12_lesson 26 = .ok (.iload_n 2, 1) := by decide +kernel
theorem dX12_lesson_27 : decode cX12_lesson 27 = .ok (.bipush 10, 2) := by decide +kernel
theorem dX12_lesson_29 : decode cX12_lesson 29 = .ok (.irem, 1) := by decide +kernel
theorem dX12_lesson_30 : decode cX12_lesson 30 = .ok (.aload_n 0, 1) := by decide +kernel
theorem dX12_lesson_31 : decode cX12_lesson 31 = .ok (.iconst 1, 1) := by decide +kernel
theorem dX12_lesson_32 : decode cX12_lesson 32 = .ok (.invokevirtual 433, 3) := by decide +kernel
theorem dX12_lesson_35 : decode cX12_lesson 35 = .ok (.if_icmp .ge 23, 3) := by decide +kernel
theorem dX12_lesson_38 : decode cX12_lesson 38 = .ok (.aload_n 0, 1) := by decide +kernel
theorem dX12_lesson_39 : decode cX12_lesson 39 = .ok (.iconst 2, 1) := by decide +kernel
theorem dX12_lesson_40 : decode cX12_lesson 40 = .ok (.iconst 2, 1) := by decide +kernel
theorem dX12_lesson_41 : decode cX12_lesson 41 = .ok (.iload_n 2, 1) := by decide +kernel
theorem dX12_lesson_42 : decode cX12_lesson 42 = .ok (.bipush 10, 2) := by decide +kernel
theorem dX12_lesson_44 : decode cX12_lesson 44 = .ok (.irem, 1) := by decide +kernel
theorem dX12_lesson_45 : decode cX12_lesson 45 = .ok (.imul, 1) := by decide +kernel
theorem dX12_lesson_46 : decode cX12_lesson 46 = .ok (.iadd, 1) := by decide +kernel
theorem dX12_lesson_47 : decode cX12_lesson 47 = .ok (.iload_n 2, 1) := by decide +kernel
theorem dX12_lesson_48 : decode cX12_lesson 48 = .ok (.bipush 20, 2) := by decide +kernel
theorem dX12_lesson_50 : decode cX12_lesson 50 = .ok (.idiv, 1) := by decide +kernel
theorem dX12_lesson_51 : decode cX12_lesson 51 = .ok (.iadd, 1) := by decide +kernel
theorem dX12_lesson_52 : decode cX12_lesson 52 = .ok (.invokevirtual 433, 3) := by decide +kernel
theorem dX12_lesson_55 : decode cX12_lesson 55 = .ok (.goto 4, 3) := by decide +kernel
theorem dX12_lesson_58 : decode cX12_lesson 58 = .ok (.iconst (-1), 1) := by decide +kernel
theorem dX12_lesson_59 : decode cX12_lesson 59 = .ok (.ireturn, 1) := by decide +kernel
theorem dX12_lesson_60 : decode cX12_lesson 60 = .ok (.iload_n 2, 1) := by decide +kernel
theorem dX12_lesson_61 : decode cX12_lesson 61 = .ok (.iconst 0, 1) := by decide +kernel
theorem dX12_lesson_62 : decode cX12_lesson 62 = .ok (.iconst 1, 1) := by decide +kernel
theorem dX12_lesson_63 : decode cX12_lesson 63 = .ok (.invokestatic 101, 3) := by decide +kernel
theorem dX12_lesson_66 : decode cX12_lesson 66 = .ok (.ifCond .eq 11, 3) := by decide +kernel
theorem dX12_lesson_69 : decode cX12_lesson 69 = .ok (.aload_n 0, 1) := by decide +kernel
theorem dX12_lesson_70 : decode cX12_lesson 70 = .ok (.iload_n 2, 1) := by decide +kernel
theorem dX12_lesson_71 : decode cX12_lesson 71 = .ok (.invokevirtual 433, 3) := by decide +kernel
theorem dX12_lesson_74 : decode cX12_lesson 74 = .ok (.goto 4, 3) := by decide +kernel
theorem dX12_lesson_77 : decode cX12_lesson 77 = .ok (.iconst (-1), 1) := by decide +kernel
theorem dX12_lesson_78 : decode cX12_lesson 78 = .ok (.ireturn, 1) := by decide +kernel
noncomputable def fX12_lesson (μ : zM) (x0 : Nat) (x1 : Int32) (x2 : Int32) : Option (Int32 × zM) := zgd (zm_ck μ 12 x0) <|
  zb1 (zm_p μ 12 x0 0 (.int 0)) fun m1 =>
  zb2 (fX12_hasLesson m1 x0 x1) fun v5 m4 =>
  if v5 = 0 then (
  some ((-1), m4))
  else (
  zb1 (fX12_in m4 x2 10 29) fun v7 =>
  if v7 = 0 then (
  zb1 (fX12_in m4 x2 0 1) fun v9 =>
  zb1 (if v9 = 0 then (
  some (-1))
  else (
  zb1 (fX12_lessonOf m4 x0 x2) fun v13 =>
  some v13) : Option (Int32)) fun (s10 : Int32) =>
  some (s10, m4))
  else (
  zb1 (fX12_lessonOf m4 x0 1) fun v15 =>
  zb1 (if v15 ≤ (x2 - x2 / 10 * 10) then (
  some (-1))
  else (
  zb1 (fX12_lessonOf m4 x0 ((2 + (2 * (x2 - x2 / 10 * 10))) + (x2 / 20))) fun v19 =>
  some v19) : Option (Int32)) fun (s16 : Int32) =>
  some (s16, m4)))
theorem fX12_lesson_ck {μ : zM} {x0 : Nat} {x1 : Int32} {x2 : Int32} {z : Int32 × zM} (h : fX12_lesson μ x0 x1 x2 = some z) : zm_ck μ 12 x0 = true := (zgd_s h).1
set_option maxHeartbeats 4000000 in
set_option maxRecDepth 100000 in
theorem cX12_lesson_ok {μ : zM} {x0 : Nat} {x1 : Int32} {x2 : Int32} {r : Int32} {mo : zM} (hf : fX12_lesson μ x0 x1 x2 = some (r, mo)) : zC yX12_lesson cX12_lesson 3 (some .int) 3 0 0 [.ref x0, .int x1, .int x2] μ (some (.int r)) mo := by
  replace hf := (zgd_s hf).2
  refine zC.of (by decide) (Nat.le_of_ble_eq_true rfl) (fun K hin => ?_)
  clear hin
  show zz K cX12_lesson (3, RX12, some .int, 3, 0, 0, some (.int r), mo) 0 0 0 [(0, .ref x0), (1, .int x1), (2, .int x2)] [] μ
  refine zr_aload_n 0 dX12_lesson_0 rfl ?_
  refine zr_iconst 0 dX12_lesson_1 (by decide) ?_
  replace hf := zb1_s hf
  obtain ⟨m1, h2, hf⟩ := hf
  refine zr_put h2 zk12 (by decide) zl_899 rfl rfl rfl dX12_lesson_2 ?_
  refine zr_aload_n 0 dX12_lesson_5 rfl ?_
  refine zr_iload_n 1 dX12_lesson_6 rfl ?_
  replace hf := zb2_s hf
  obtain ⟨v5, m4, h3, hf⟩ := hf
  refine zr_callV (ci := 12) [.int x1] (cX12_hasLesson_ok h3) zvs_X12_hasLesson zl_1195 zl_1196 (fX12_hasLesson_ck h3) rfl rfl zl_1194 rfl (Nat.le_of_ble_eq_true rfl) (Nat.le_of_ble_eq_true rfl) (Nat.le_of_ble_eq_true rfl) (Nat.le_of_ble_eq_true rfl) dX12_lesson_7 rfl ?_
  refine zr_if_ne 15 dX12_lesson_10 (by decide) (fun hc => ?_) (fun hc => ?_)
  · rw [if_neg hc] at hf
    refine zr_iload_n 2 dX12_lesson_15 rfl ?_
    refine zr_bipush 10 dX12_lesson_16 (by decide) ?_
    refine zr_bipush 29 dX12_lesson_18 (by decide) ?_
    replace hf := zb1_s hf
    obtain ⟨v7, h6, hf⟩ := hf
    refine zr_callS [.int x2, .int 10, .int 29] (cX12_in_ok h6) zvs_X12_in zl_898 zl_897 rfl (Nat.le_of_ble_eq_true rfl) (Nat.le_of_ble_eq_true rfl) (Nat.le_of_ble_eq_true rfl) (Nat.le_of_ble_eq_true rfl) dX12_lesson_20 rfl ?_
    refine zr_if_eq 60 dX12_lesson_23 (by decide) (fun hc => ?_) (fun hc => ?_)
    · rw [if_pos hc] at hf
      refine zr_iload_n 2 dX12_lesson_60 rfl ?_
      refine zr_iconst 0 dX12_lesson_61 (by decide) ?_
      refine zr_iconst 1 dX12_lesson_62 (by decide) ?_
      replace hf := zb1_s hf
      obtain ⟨v9, h8, hf⟩ := hf
      refine zr_callS [.int x2, .int 0, .int 1] (cX12_in_ok h8) zvs_X12_in zl_898 zl_897 rfl (Nat.le_of_ble_eq_true rfl) (Nat.le_of_ble_eq_true rfl) (Nat.le_of_ble_eq_true rfl) (Nat.le_of_ble_eq_true rfl) dX12_lesson_63 rfl ?_
      replace hf := zb1_s hf
      obtain ⟨s10, hg, hf⟩ := hf
      have hj11 : zz K cX12_lesson (3, RX12, some .int, 3, 0, 0, some (.int r), mo) 0 0 78 [] [.int s10] m4 := by
        cases hf
        exact zr_iret dX12_lesson_78
      clear hf
      have hf := hg
      clear hg
      refine zr_if_eq 77 dX12_lesson_66 (by decide) (fun hc => ?_) (fun hc => ?_)
      · rw [if_pos hc] at hf
        refine zr_iconst (-1) dX12_lesson_77 (by decide) ?_
        cases hf
        exact zr_lv [] rfl hj11
      · rw [if_neg hc] at hf
        refine zr_aload_n 0 dX12_lesson_69 rfl ?_
        refine zr_iload_n 2 dX12_lesson_70 rfl ?_
        replace hf := zb1_s hf
        obtain ⟨v13, h12, hf⟩ := hf
        refine zr_callV (ci := 12) [.int x2] (cX12_lessonOf_ok h12) zvs_X12_lessonOf zl_1199 zl_1200 (fX12_lessonOf_ck h12) rfl rfl zl_1198 rfl (Nat.le_of_ble_eq_true rfl) (Nat.le_of_ble_eq_true rfl) (Nat.le_of_ble_eq_true rfl) (Nat.le_of_ble_eq_true rfl) dX12_lesson_71 rfl ?_
        refine zr_goto 78 dX12_lesson_74 (by decide) ?_
        cases hf
        exact zr_lv [] rfl hj11
    · rw [if_neg hc] at hf
      refine zr_iload_n 2 dX12_lesson_26 rfl ?_
      refine zr_bipush 10 dX12_lesson_27 (by decide) ?_
      refine zr_irem dX12_lesson_29 (by decide) ?_
      refine zr_aload_n 0 dX12_lesson_30 rfl ?_
      refine zr_iconst 1 dX12_lesson_31 (by decide) ?_
      replace hf := zb1_s hf
      obtain ⟨v15, h14, hf⟩ := hf
      refine zr_callV (ci := 12) [.int 1] (cX12_lessonOf_ok h14) zvs_X12_lessonOf zl_1199 zl_1200 (fX12_lessonOf_ck h14) rfl rfl zl_1198 rfl (Nat.le_of_ble_eq_true rfl) (Nat.le_of_ble_eq_true rfl) (Nat.le_of_ble_eq_true rfl) (Nat.le_of_ble_eq_true rfl) dX12_lesson_32 rfl ?_
      replace hf := zb1_s hf
      obtain ⟨s16, hg, hf⟩ := hf
      have hj17 : zz K cX12_lesson (3, RX12, some .int, 3, 0, 0, some (.int r), mo) 0 0 59 [] [.int s16] m4 := by
        cases hf
        exact zr_iret dX12_lesson_59
      clear hf
      have hf := hg
      clear hg
      refine zr_icmp_ge 58 dX12_lesson_35 (by decide) (fun hc => ?_) (fun hc => ?_)
      · rw [if_pos hc] at hf
        refine zr_iconst (-1) dX12_lesson_58 (by decide) ?_
        cases hf
        exact zr_lv [] rfl hj17
      · rw [if_neg hc] at hf
        refine zr_aload_n 0 dX12_lesson_38 rfl ?_
        refine zr_iconst 2 dX12_lesson_39 (by decide) ?_
        refine zr_iconst 2 dX12_lesson_40 (by decide) ?_
        refine zr_iload_n 2 dX12_lesson_41 rfl ?_
        refine zr_bipush 10 dX12_lesson_42 (by decide) ?_
        refine zr_irem dX12_lesson_44 (by decide) ?_
        refine zr_imul dX12_lesson_45 ?_
        refine zr_iadd dX12_lesson_46 ?_
        refine zr_iload_n 2 dX12_lesson_47 rfl ?_
        refine zr_bipush 20 dX12_lesson_48 (by decide) ?_
        refine zr_idiv dX12_lesson_50 (by decide) ?_
        refine zr_iadd dX12_lesson_51 ?_
        replace hf := zb1_s hf
        obtain ⟨v19, h18, hf⟩ := hf
        refine zr_callV (ci := 12) [.int ((2 + (2 * (x2 - x2 / 10 * 10))) + (x2 / 20))] (cX12_lessonOf_ok h18) zvs_X12_lessonOf zl_1199 zl_1200 (fX12_lessonOf_ck h18) rfl rfl zl_1198 rfl (Nat.le_of_ble_eq_true rfl) (Nat.le_of_ble_eq_true rfl) (Nat.le_of_ble_eq_true rfl) (Nat.le_of_ble_eq_true rfl) dX12_lesson_52 rfl ?_
        refine zr_goto 59 dX12_lesson_55 (by decide) ?_
        cases hf
        exact zr_lv [] rfl hj17
  · rw [if_pos hc] at hf
    refine zr_iconst (-1) dX12_lesson_13 (by decide) ?_
    cases hf
    exact zr_iret dX12_lesson_14
theorem dX12_ruled_0 : decode cX12_ruled 0 = .ok (.iload_n 0, 1) := by decide +kernel
theorem dX12_ruled_1 : decode cX12_ruled 1 = .ok (.bipush 8, 2) := by decide +kernel
theorem dX12_ruled_3 : decode cX12_ruled 3 = .ok (.idiv, 1) := by decide +kernel
theorem dX12_ruled_4 : decode cX12_ruled 4 = .ok (.iload_n 1, 1) := by decide +kernel
theorem dX12_ruled_5 : decode cX12_ruled 5 = .ok (.imul, 1) := by decide +kernel
theorem dX12_ruled_6 : decode cX12_ruled 6 = .ok (.iload_n 0, 1) := by decide +kernel
theorem dX12_ruled_7 : decode cX12_ruled 7 = .ok (.iadd, 1) := by decide +kernel
theorem dX12_ruled_8 : decode cX12_ruled 8 = .ok (.bipush 8, 2) := by decide +kernel
theorem dX12_ruled_10 : decode cX12_ruled 10 = .ok (.irem, 1) := by decide +kernel
theorem dX12_ruled_11 : decode cX12_ruled 11 = .ok (.ireturn, 1) := by decide +kernel
noncomputable def fX12_ruled (μ : zM) (x0 : Int32) (x1 : Int32) : Option (Int32) :=
  some ((((x0 / 8) * x1) + x0) - (((x0 / 8) * x1) + x0) / 8 * 8)
set_option maxHeartbeats 4000000 in
set_option maxRecDepth 100000 in
theorem cX12_ruled_ok {μ : zM} {x0 : Int32} {x1 : Int32} {r : Int32} (hf : fX12_ruled μ x0 x1 = some r) : zC yX12_ruled cX12_ruled 2 (some .int) 0 0 0 [.int x0, .int x1] μ (some (.int r)) μ := by
  unfold fX12_ruled at hf
  refine zC.of (by decide) (Nat.le_of_ble_eq_true rfl) (fun K hin => ?_)
  clear hin
  show zz K cX12_ruled (2, RX12, some .int, 0, 0, 0, some (.int r), μ) 0 0 0 [(0, .int x0), (1, .int x1)] [] μ
  refine zr_iload_n 0 dX12_ruled_0 rfl ?_
  refine zr_bipush 8 dX12_ruled_1 (by decide) ?_
  refine zr_idiv dX12_ruled_3 (by decide) ?_
  refine zr_iload_n 1 dX12_ruled_4 rfl ?_
  refine zr_imul dX12_ruled_5 ?_
  refine zr_iload_n 0 dX12_ruled_6 rfl ?_
  refine zr_iadd dX12_ruled_7 ?_
  refine zr_bipush 8 dX12_ruled_8 (by decide) ?_
  refine zr_irem dX12_ruled_10 (by decide) ?_
  cases hf
  exact zr_iret dX12_ruled_11
theorem zl_1201 : Cond.code yX12_ruled cX12_ruled 2 (some .int) ∈ zt := zt_at 1872 (by decide +kernel)
theorem zvs_X12_ruled : zvS yX12_ruled cX12_ruled 2 (some .int) 2 := ⟨zl_1201, zl_893, ⟨by decide +kernel, by decide +kernel, by decide +kernel⟩, by decide⟩
theorem zl_1202 : Cond.methodLink RX12 436 yX12_ruled ∈ zt := zt_at 1870 (by decide +kernel)
theorem zl_1203 : Cond.static yX12_ruled ∈ zt := zt_at 1871 (by decide +kernel)
theorem dX12_wrongs_0 : decode cX12_wrongs 0 = .ok (.iconst 0, 1) := by decide +kernel
theorem dX12_wrongs_1 : decode cX12_wrongs 1 = .ok (.istore_n 2, 1) := by decide +kernel
theorem dX12_wrongs_2 : decode cX12_wrongs 2 = .ok (.iconst 0, 1) := by decide +kernel
theorem dX12_wrongs_3 : decode cX12_wrongs 3 = .ok (.istore_n 3, 1) := by decide +kernel
theorem dX12_wrongs_4 : decode cX12_wrongs 4 = .ok (.iload_n 3, 1) := by decide +kernel
theorem dX12_wrongs_5 : decode cX12_wrongs 5 = .ok (.aload_n 0, 1) := by decide +kernel
theorem dX12_wrongs_6 : decode cX12_wrongs 6 = .ok (.iconst 1, 1) := by decide +kernel
theorem dX12_wrongs_7 : decode cX12_wrongs 7 = .ok (.invokevirtual 433, 3) := by decide +kernel
theorem dX12_wrongs_10 : decode cX12_wrongs 10 = .ok (.if_icmp .ge 42, 3) := by decide +kernel
theorem dX12_wrongs_13 : decode cX12_wrongs 13 = .ok (.iload_n 2, 1) := by decide +kernel
theorem dX12_wrongs_14 : decode cX12_wrongs 14 = .ok (.iload_n 1, 1) := by decide +kernel
theorem dX12_wrongs_15 : decode cX12_wrongs 15 = .ok (.aload_n 0, 1) := by decide +kernel
theorem dX12_wrongs_16 : decode cX12_wrongs 16 = .ok (.iconst 2, 1) := by decide +kernel
theorem dX12_wrongs_17 : decode cX12_wrongs 17 = .ok (.iconst 2, 1) := by decide +kernel
theorem dX12_wrongs_18 : decode cX12_wrongs 18 = .ok (.iload_n 3, 1) := by decide +kernel
theorem dX12_wrongs_19 : decode cX12_wrongs 19 = .ok (.imul, 1) := by decide +kernel
theorem dX12_wrongs_20 : decode cX12_wrongs 20 = .ok (.iadd, 1) := by decide +kernel
theorem dX12_wrongs_21 : decode cX12_wrongs 21 = .ok (.invokevirtual 433, 3) := by decide +kernel
theorem dX12_wrongs_24 : decode cX12_wrongs 24 = .ok (.invokestatic 436, 3) := by decide +kernel
theorem dX12_wrongs_27 : decode cX12_wrongs 27 = .ok (.aload_n 0, 1) := by decide +kernel
theorem dX12_wrongs_28 : decode cX12_wrongs 28 = .ok (.iconst 3, 1) := by decide +kernel
theorem dX12_wrongs_29 : decode cX12_wrongs 29 = .ok (.iconst 2, 1) := by decide +kernel
theorem dX12_wrongs_30 : decode cX12_wrongs 30 = .ok (.iload_n 3, 1) := by decide +kernel
theorem dX12_wrongs_31 : decode cX12_wrongs 31 = .ok (.imul, 1) := by decide +kernel
theorem dX12_wrongs_32 : decode cX12_wrongs 32 = .ok (.iadd, 1) := by decide +kernel
theorem dX12_wrongs_33 : decode cX12_wrongs 33 = .ok (.invokevirtual 433, 3) := by decide +kernel
theorem dX12_wrongs_36 : decode cX12_wrongs 36 = .ok (.if_icmp .eq 7, 3) := by decide +kernel
theorem dX12_wrongs_39 : decode cX12_wrongs 39 = .ok (.iconst 1, 1) := by decide +kernel
theorem dX12_wrongs_40 : decode cX12_wrongs 40 = .ok (.goto 4, 3) := by decide +kernel
theorem dX12_wrongs_43 : decode cX12_wrongs 43 = .ok (.iconst 0, 1) := by decide +kernel
theorem dX12_wrongs_44 : decode cX12_wrongs 44 = .ok (.iadd, 1) := by decide +kernel
theorem dX12_wrongs_45 : decode cX12_wrongs 45 = .ok (.istore_n 2, 1) := by decide +kernel
theorem dX12_wrongs_46 : decode cX12_wrongs 46 = .ok (.iinc 3 1, 3) := by decide +kernel
theorem dX12_wrongs_49 : decode cX12_wrongs 49 = .ok (.goto (-45), 3) := by decide +kernel
theorem dX12_wrongs_52 : decode cX12_wrongs 52 = .ok (.iload_n 2, 1) := by decide +kernel
theorem dX12_wrongs_53 : decode cX12_wrongs 53 = .ok (.ireturn, 1) := by decide +kernel
noncomputable def fX12_wrongs_l4 (μ : zM) (x0 : Nat) (x1 : Int32) (F3 : Int32 → Int32 → Option (Int32)) (x2_1 : Int32) (x3_2 : Int32) : Option (Int32) :=
  zb1 (fX12_lessonOf μ x0 1) fun v8 =>
  if v8 ≤ x3_2 then (
  some x2_1)
  else (
  zb1 (fX12_lessonOf μ x0 (2 + (2 * x3_2))) fun v10 =>
  zb1 (fX12_ruled μ x1 v10) fun v12 =>
  zb1 (fX12_lessonOf μ x0 (3 + (2 * x3_2))) fun v14 =>
  zb1 (if v12 = v14 then (
  some 0)
  else (
  some 1) : Option (Int32)) fun (s15 : Int32) =>
  F3 (x2_1 + s15) (x3_2 + 1))
noncomputable def fX12_wrongs (μ : zM) (x0 : Nat) (x1 : Int32) : Option (Int32) := zgd (zm_ck μ 12 x0) <|
  zb1 (zf2 (fX12_wrongs_l4 μ x0 x1) zfu 0 0 : Option (Int32)) fun (x2_5 : Int32) =>
  some x2_5
theorem fX12_wrongs_ck {μ : zM} {x0 : Nat} {x1 : Int32} {z : Int32} (h : fX12_wrongs μ x0 x1 = some z) : zm_ck μ 12 x0 = true := (zgd_s h).1
set_option maxHeartbeats 4000000 in
set_option maxRecDepth 100000 in
theorem cX12_wrongs_ok {μ : zM} {x0 : Nat} {x1 : Int32} {r : Int32} (hf : fX12_wrongs μ x0 x1 = some r) : zC yX12_wrongs cX12_wrongs 4 (some .int) 1 0 0 [.ref x0, .int x1] μ (some (.int r)) μ := by
  replace hf := (zgd_s hf).2
  refine zC.of (by decide) (Nat.le_of_ble_eq_true rfl) (fun K hin => ?_)
  clear hin
  show zz K cX12_wrongs (4, RX12, some .int, 1, 0, 0, some (.int r), μ) 0 0 0 [(0, .ref x0), (1, .int x1)] [] μ
  refine zr_iconst 0 dX12_wrongs_0 (by decide) ?_
  refine zr_istore_n [(2, .int 0), (0, .ref x0), (1, .int x1)] dX12_wrongs_1 (Nat.le_of_ble_eq_true rfl) rfl ?_
  refine zr_iconst 0 dX12_wrongs_2 (by decide) ?_
  refine zr_istore_n [(3, .int 0), (2, .int 0), (0, .ref x0), (1, .int x1)] dX12_wrongs_3 (Nat.le_of_ble_eq_true rfl) rfl ?_
  replace hf := zb1_s hf
  obtain ⟨x2_5, hg, hf⟩ := hf
  have hj6 : zz K cX12_wrongs (4, RX12, some .int, 1, 0, 0, some (.int r), μ) 0 0 52 [(2, .int x2_5)] [] μ := by
    refine zr_iload_n 0 dX12_wrongs_52 rfl ?_
    cases hf
    exact zr_iret dX12_wrongs_53
  clear hf
  have hf := hg
  clear hg
  have hL17 : ∀ (n : Nat) (x2_1 : Int32) (x3_2 : Int32), zf2 (fX12_wrongs_l4 μ x0 x1) n x2_1 x3_2 = some x2_5 → zz K cX12_wrongs (4, RX12, some .int, 1, 0, 0, some (.int r), μ) 0 0 4 [(0, .ref x0), (1, .int x1), (2, .int x2_1), (3, .int x3_2)] [] μ := by
    intro n
    induction n with
    | zero => intro x2_1 x3_2 hf; cases hf
    | succ n ih4 =>
      intro x2_1 x3_2 hf
      replace hf := zf2_s hf
      generalize zf2 (fX12_wrongs_l4 μ x0 x1) n = F3 at hf ih4
      unfold fX12_wrongs_l4 at hf
      refine zr_iload_n 3 dX12_wrongs_4 rfl ?_
      refine zr_aload_n 0 dX12_wrongs_5 rfl ?_
      refine zr_iconst 1 dX12_wrongs_6 (by decide) ?_
      replace hf := zb1_s hf
      obtain ⟨v8, h7, hf⟩ := hf
      refine zr_callV (ci := 12) [.int 1] (cX12_lessonOf_ok h7) zvs_X12_lessonOf zl_1199 zl_1200 (fX12_lessonOf_ck h7) rfl rfl zl_1198 rfl (Nat.le_of_ble_eq_true rfl) (Nat.le_of_ble_eq_true rfl) (Nat.le_of_ble_eq_true rfl) (Nat.le_of_ble_eq_true rfl) dX12_wrongs_7 rfl ?_
      refine zr_icmp_ge 52 dX12_wrongs_10 (by decide) (fun hc => ?_) (fun hc => ?_)
      · rw [if_pos hc] at hf
        cases hf
        exact zr_lv [2] rfl hj6
      · rw [if_neg hc] at hf
        refine zr_iload_n 2 dX12_wrongs_13 rfl ?_
        refine zr_iload_n 1 dX12_wrongs_14 rfl ?_
        refine zr_aload_n 0 dX12_wrongs_15 rfl ?_
        refine zr_iconst 2 dX12_wrongs_16 (by decide) ?_
        refine zr_iconst 2 dX12_wrongs_17 (by decide) ?_
        refine zr_iload_n 3 dX12_wrongs_18 rfl ?_
        refine zr_imul dX12_wrongs_19 ?_
        refine zr_iadd dX12_wrongs_20 ?_
        replace hf := zb1_s hf
        obtain ⟨v10, h9, hf⟩ := hf
        refine zr_callV (ci := 12) [.int (2 + (2 * x3_2))] (cX12_lessonOf_ok h9) zvs_X12_lessonOf zl_1199 zl_1200 (fX12_lessonOf_ck h9) rfl rfl zl_1198 rfl (Nat.le_of_ble_eq_true rfl) (Nat.le_of_ble_eq_true rfl) (Nat.le_of_ble_eq_true rfl) (Nat.le_of_ble_eq_true rfl) dX12_wrongs_21 rfl ?_
        replace hf := zb1_s hf
        obtain ⟨v12, h11, hf⟩ := hf
        refine zr_callS [.int x1, .int v10] (cX12_ruled_ok h11) zvs_X12_ruled zl_1203 zl_1202 rfl (Nat.le_of_ble_eq_true rfl) (Nat.le_of_ble_eq_true rfl) (Nat.le_of_ble_eq_true rfl) (Nat.le_of_ble_eq_true rfl) dX12_wrongs_24 rfl ?_
        refine zr_aload_n 0 dX12_wrongs_27 rfl ?_
        refine zr_iconst 3 dX12_wrongs_28 (by decide) ?_
        refine zr_iconst 2 dX12_wrongs_29 (by decide) ?_
        refine zr_iload_n 3 dX12_wrongs_30 rfl ?_
        refine zr_imul dX12_wrongs_31 ?_
        refine zr_iadd dX12_wrongs_32 ?_
        replace hf := zb1_s hf
        obtain ⟨v14, h13, hf⟩ := hf
        refine zr_callV (ci := 12) [.int (3 + (2 * x3_2))] (cX12_lessonOf_ok h13) zvs_X12_lessonOf zl_1199 zl_1200 (fX12_lessonOf_ck h13) rfl rfl zl_1198 rfl (Nat.le_of_ble_eq_true rfl) (Nat.le_of_ble_eq_true rfl) (Nat.le_of_ble_eq_true rfl) (Nat.le_of_ble_eq_true rfl) dX12_wrongs_33 rfl ?_
        replace hf := zb1_s hf
        obtain ⟨s15, hg, hf⟩ := hf
        have hj16 : zz K cX12_wrongs (4, RX12, some .int, 1, 0, 0, some (.int r), μ) 0 0 44 [(0, .ref x0), (1, .int x1), (3, .int x3_2)] [.int s15, .int x2_1] μ := by
          refine zr_iadd dX12_wrongs_44 ?_
          refine zr_istore_n [(2, .int (x2_1 + s15)), (0, .ref x0), (1, .int x1), (3, .int x3_2)] dX12_wrongs_45 (Nat.le_of_ble_eq_true rfl) rfl ?_
          refine zr_iinc (j := 3) (x3_2 + 1) [(3, .int (x3_2 + 1)), (2, .int (x2_1 + s15)), (0, .ref x0), (1, .int x1)] dX12_wrongs_46 rfl rfl (Nat.le_of_ble_eq_true rfl) rfl ?_
          refine zr_goto 4 dX12_wrongs_49 (by decide) ?_
          exact zr_lv [2, 3, 1, 0] rfl (ih4 (x2_1 + s15) (x3_2 + 1) hf)
        clear hf
        have hf := hg
        clear hg
        refine zr_icmp_eq 43 dX12_wrongs_36 (by decide) (fun hc => ?_) (fun hc => ?_)
        · rw [if_pos hc] at hf
          refine zr_iconst 0 dX12_wrongs_43 (by decide) ?_
          cases hf
          exact zr_lv [0, 1, 3] rfl hj16
        · rw [if_neg hc] at hf
          refine zr_iconst 1 dX12_wrongs_39 (by decide) ?_
          refine zr_goto 44 dX12_wrongs_40 (by decide) ?_
          cases hf
          exact zr_lv [0, 1, 3] rfl hj16
  exact zr_lv [2, 3, 1, 0] rfl (hL17 _ 0 0 hf)
theorem zl_1204 : Cond.code yX12_wrongs cX12_wrongs 4 (some .int) ∈ zt := zt_at 1869 (by decide +kernel)
theorem zvs_X12_wrongs : zvS yX12_wrongs cX12_wrongs 4 (some .int) 1 := ⟨zl_1204, zl_893, ⟨by decide +kernel, by decide +kernel, by decide +kernel⟩, by decide⟩
theorem zl_1205 : Cond.methodLink RX12 439 yX12_wrongs ∈ zt := zt_at 1866 (by decide +kernel)
theorem zl_1206 : Cond.instanceMethod yX12_wrongs ∈ zt := zt_at 1868 (by decide +kernel)
theorem zl_1207 : Cond.selects RX12 yX12_wrongs yX12_wrongs ∈ zt := zt_at 105 (by decide +kernel)
theorem dX12_fits_0 : decode cX12_fits 0 = .ok (.aload_n 0, 1) := by decide +kernel
theorem dX12_fits_1 : decode cX12_fits 1 = .ok (.iload_n 1, 1) := by decide +kernel
theorem dX12_fits_2 : decode cX12_fits 2 = .ok (.invokevirtual 439, 3) := by decide +kernel
theorem dX12_fits_5 : decode cX12_fits 5 = .ok (.aload_n 0, 1) := by decide +kernel
theorem dX12_fits_6 : decode cX12_fits 6 = .ok (.iconst 0, 1) := by decide +kernel
theorem dX12_fits_7 : decode cX12_fits 7 = .ok (.invokevirtual 433, 3) := by decide +kernel
theorem dX12_fits_10 : decode cX12_fits 10 = .ok (.if_icmp .gt 7, 3) := by decide +kernel
theorem dX12_fits_13 : decode cX12_fits 13 = .ok (.iconst 1, 1) := by decide +kernel
theorem dX12_fits_14 : decode cX12_fits 14 = .ok (.goto 4, 3) := by decide +kernel
theorem dX12_fits_17 : decode cX12_fits 17 = .ok (.iconst 0, 1) := by decide +kernel
theorem dX12_fits_18 : decode cX12_fits 18 = .ok (.ireturn, 1) := by decide +kernel
noncomputable def fX12_fits (μ : zM) (x0 : Nat) (x1 : Int32) : Option (Int32) := zgd (zm_ck μ 12 x0) <|
  zb1 (fX12_wrongs μ x0 x1) fun v2 =>
  zb1 (fX12_lessonOf μ x0 0) fun v4 =>
  zb1 (if v4 < v2 then (
  some 0)
  else (
  some 1) : Option (Int32)) fun (s5 : Int32) =>
  zb1 (zbz s5) fun v7 =>
  some v7
theorem fX12_fits_ck {μ : zM} {x0 : Nat} {x1 : Int32} {z : Int32} (h : fX12_fits μ x0 x1 = some z) : zm_ck μ 12 x0 = true := (zgd_s h).1
set_option maxHeartbeats 4000000 in
set_option maxRecDepth 100000 in
theorem cX12_fits_ok {μ : zM} {x0 : Nat} {x1 : Int32} {r : Int32} (hf : fX12_fits μ x0 x1 = some r) : zC yX12_fits cX12_fits 2 (some .boolean) 2 0 0 [.ref x0, .int x1] μ (some (.int r)) μ := by
  replace hf := (zgd_s hf).2
  refine zC.of (by decide) (Nat.le_of_ble_eq_true rfl) (fun K hin => ?_)
  clear hin
  show zz K cX12_fits (2, RX12, some .boolean, 2, 0, 0, some (.int r), μ) 0 0 0 [(0, .ref x0), (1, .int x1)] [] μ
  refine zr_aload_n 0 dX12_fits_0 rfl ?_
  refine zr_iload_n 1 dX12_fits_1 rfl ?_
  replace hf := zb1_s hf
  obtain ⟨v2, h1, hf⟩ := hf
  refine zr_callV (ci := 12) [.int x1] (cX12_wrongs_ok h1) zvs_X12_wrongs zl_1206 zl_1207 (fX12_wrongs_ck h1) rfl rfl zl_1205 rfl (Nat.le_of_ble_eq_true rfl) (Nat.le_of_ble_eq_true rfl) (Nat.le_of_ble_eq_true rfl) (Nat.le_of_ble_eq_true rfl) dX12_fits_2 rfl ?_
  refine zr_aload_n 0 dX12_fits_5 rfl ?_
  refine zr_iconst 0 dX12_fits_6 (by decide) ?_
  replace hf := zb1_s hf
  obtain ⟨v4, h3, hf⟩ := hf
  refine zr_callV (ci := 12) [.int 0] (cX12_lessonOf_ok h3) zvs_X12_lessonOf zl_1199 zl_1200 (fX12_lessonOf_ck h3) rfl rfl zl_1198 rfl (Nat.le_of_ble_eq_true rfl) (Nat.le_of_ble_eq_true rfl) (Nat.le_of_ble_eq_true rfl) (Nat.le_of_ble_eq_true rfl) dX12_fits_7 rfl ?_
  replace hf := zb1_s hf
  obtain ⟨s5, hg, hf⟩ := hf
  have hj6 : zz K cX12_fits (2, RX12, some .boolean, 2, 0, 0, some (.int r), μ) 0 0 18 [] [.int s5] μ := by
    replace hf := zb1_s hf
    obtain ⟨v7, hn8, hf⟩ := hf
    replace hn8 := zbz_s hn8
    obtain ⟨hn8, rfl⟩ := hn8
    cases hf
    exact zr_zret hn8 dX12_fits_18
  clear hf
  have hf := hg
  clear hg
  refine zr_icmp_gt 17 dX12_fits_10 (by decide) (fun hc => ?_) (fun hc => ?_)
  · rw [if_pos hc] at hf
    refine zr_iconst 0 dX12_fits_17 (by decide) ?_
    cases hf
    exact zr_lv [] rfl hj6
  · rw [if_neg hc] at hf
    refine zr_iconst 1 dX12_fits_13 (by decide) ?_
    refine zr_goto 18 dX12_fits_14 (by decide) ?_
    cases hf
    exact zr_lv [] rfl hj6
theorem zl_1208 : Cond.code yX12_fits cX12_fits 2 (some .boolean) ∈ zt := zt_at 1865 (by decide +kernel)
theorem zvs_X12_fits : zvS yX12_fits cX12_fits 2 (some .boolean) 1 := ⟨zl_1208, zl_893, ⟨by decide +kernel, by decide +kernel, by decide +kernel⟩, by decide⟩
theorem zl_1209 : Cond.methodLink RX12 442 yX12_fits ∈ zt := zt_at 1862 (by decide +kernel)
theorem zl_1210 : Cond.instanceMethod yX12_fits ∈ zt := zt_at 1864 (by decide +kernel)
theorem zl_1211 : Cond.selects RX12 yX12_fits yX12_fits ∈ zt := zt_at 104 (by decide +kernel)
theorem dX12_findGroups_0 : decode cX12_findGroups 0 = .ok (.iconst 0, 1) := by decide +kernel
theorem dX12_findGroups_1 : decode cX12_findGroups 1 = .ok (.istore_n 2, 1) := by decide +kernel
theorem dX12_findGroups_2 : decode cX12_findGroups 2 = .ok (.iload_n 2, 1) := by decide +kernel
theorem dX12_findGroups_3 : decode cX12_findGroups 3 = .ok (.bipush 8, 2) := by decide +kernel
theorem dX12_findGroups_5 : decode cX12_findGroups 5 = .ok (.if_icmp .ge 16, 3) := by decide +kernel
theorem dX12_findGroups_8 : decode cX12_findGroups 8 = .ok (.aload_n 0, 1) := by decide +kernel
theorem dX12_findGroups_9 : decode cX12_findGroups 9 = .ok (.getfield 74, 3) := by decide +kernel
theorem dX12_findGroups_12 : decode cX12_findGroups 12 = .ok (.iload_n 2, 1) := by decide +kernel
theorem dX12_findGroups_13 : decode cX12_findGroups 13 = .ok (.iconst 0, 1) := by decide +kernel
theorem dX12_findGroups_14 : decode cX12_findGroups 14 = .ok (.iastore, 1) := by decide +kernel
theorem dX12_findGroups_15 : decode cX12_findGroups 15 = .ok (.iinc 2 1, 3) := by decide +kernel
theorem dX12_findGroups_18 : decode cX12_findGroups 18 = .ok (.goto (-16), 3) := by decide +kernel
theorem dX12_findGroups_21 : decode cX12_findGroups 21 = .ok (.iconst 0, 1) := by decide +kernel
theorem dX12_findGroups_22 : decode cX12_findGroups 22 = .ok (.istore_n 2, 1) := by decide +kernel
theorem dX12_findGroups_23 : decode cX12_findGroups 23 = .ok (.iload_n 2, 1) := by decide +kernel
theorem dX12_findGroups_24 : decode cX12_findGroups 24 = .ok (.bipush 64, 2) := by decide +kernel
theorem dX12_findGroups_26 : decode cX12_findGroups 26 = .ok (.if_icmp .ge 35, 3) := by decide +kernel
theorem dX12_findGroups_29 : decode cX12_findGroups 29 = .ok (.aload_n 0, 1) := by decide +kernel
theorem dX12_findGroups_30 : decode cX12_findGroups 30 = .ok (.getfield 74, 3) := by decide +kernel
theorem dX12_findGroups_33 : decode cX12_findGroups 33 = .ok (.iload_n 2, 1) := by decide +kernel
theorem dX12_findGroups_34 : decode cX12_findGroups 34 = .ok (.iload_n 1, 1) := by decide +kernel
theorem dX12_findGroups_35 : decode cX12_findGroups 35 = .ok (.invokestatic 436, 3) := by decide +kernel
theorem dX12_findGroups_38 : decode cX12_findGroups 38 = .ok (.dup2, 1) := by decide +kernel
theorem dX12_findGroups_39 : decode cX12_findGroups 39 = .ok (.iaload, 1) := by decide +kernel
theorem dX12_findGroups_40 : decode cX12_findGroups 40 = .ok (.aload_n 0, 1) := by decide +kernel
theorem dX12_findGroups_41 : decode cX12_findGroups 41 = .ok (.iload_n 2, 1) := by decide +kernel
theorem dX12_findGroups_42 : decode cX12_findGroups 42 = .ok (.invokevirtual 442, 3) := by decide +kernel
theorem dX12_findGroups_45 : decode cX12_findGroups 45 = .ok (.ifCond .eq 7, 3) := by decide +kernel
theorem dX12_findGroups_48 : decode cX12_findGroups 48 = .ok (.iconst 1, 1) := by decide +kernel
theorem dX12_findGroups_49 : decode cX12_findGroups 49 = .ok (.goto 4, 3) := by decide +kernel
theorem dX12_findGroups_52 : decode cX12_findGroups 52 = .ok (.iconst 0, 1) := by decide +kernel
theorem dX12_findGroups_53 : decode cX12_findGroups 53 = .ok (.iadd, 1) := by decide +kernel
theorem dX12_findGroups_54 : decode cX12_findGroups 54 = .ok (.iastore, 1) := by decide +kernel
theorem dX12_findGroups_55 : decode cX12_findGroups 55 = .ok (.iinc 2 1, 3) := by decide +kernel
theorem dX12_findGroups_58 : decode cX12_findGroups 58 = .ok (.goto (-35), 3) := by decide +kernel
theorem dX12_findGroups_61 : decode cX12_findGroups 61 = .ok (.return_, 1) := by decide +kernel
noncomputable def fX12_findGroups_l2 (x0 : Nat) (F3 : Int32 → zM → Option (zM)) (x2_1 : Int32) (m2 : zM) : Option (zM) :=
  if 8 ≤ x2_1 then (
  some m2)
  else (
  zb1 (zm_gR m2 12 x0 45) fun v7 =>
  zb1 (zm_sI m2 0 v7 x2_1 0) fun m9 =>
  F3 (x2_1 + 1) m9)
noncomputable def fX12_findGroups_l23 (x0 : Nat) (x1 : Int32) (F14 : Int32 → zM → Option (zM)) (x2_12 : Int32) (m13 : zM) : Option (zM) :=
  if 64 ≤ x2_12 then (
  some m13)
  else (
  zb1 (zm_gR m13 12 x0 45) fun v18 =>
  zb1 (fX12_ruled m13 x2_12 x1) fun v21 =>
  zb1 (zm_aI m13 0 v18 v21) fun v22 =>
  zb1 (fX12_fits m13 x0 x2_12) fun v25 =>
  zb1 (if v25 = 0 then (
  some 0)
  else (
  some 1) : Option (Int32)) fun (s26 : Int32) =>
  zb1 (zm_sI m13 0 v18 v21 (v22 + s26)) fun m28 =>
  F14 (x2_12 + 1) m28)
noncomputable def fX12_findGroups (μ : zM) (x0 : Nat) (x1 : Int32) : Option (zM) := zgd (zm_ck μ 12 x0) <|
  zb1 (zf2 (fX12_findGroups_l2 x0) zfu 0 μ : Option (zM)) fun (m5 : zM) =>
  zb1 (zf2 (fX12_findGroups_l23 x0 x1) zfu 0 m5 : Option (zM)) fun (m16 : zM) =>
  some m16
theorem fX12_findGroups_ck {μ : zM} {x0 : Nat} {x1 : Int32} {z : zM} (h : fX12_findGroups μ x0 x1 = some z) : zm_ck μ 12 x0 = true := (zgd_s h).1
set_option maxHeartbeats 4000000 in
set_option maxRecDepth 100000 in
theorem cX12_findGroups_ok {μ : zM} {x0 : Nat} {x1 : Int32} {mo : zM} (hf : fX12_findGroups μ x0 x1 = some mo) : zC yX12_findGroups cX12_findGroups 3 (none) 3 0 0 [.ref x0, .int x1] μ (none) mo := by
  replace hf := (zgd_s hf).2
  refine zC.of (by decide) (Nat.le_of_ble_eq_true rfl) (fun K hin => ?_)
  clear hin
  show zz K cX12_findGroups (3, RX12, none, 3, 0, 0, none, mo) 0 0 0 [(0, .ref x0), (1, .int x1)] [] μ
  refine zr_iconst 0 dX12_findGroups_0 (by decide) ?_
  refine zr_istore_n [(2, .int 0), (0, .ref x0), (1, .int x1)] dX12_findGroups_1 (Nat.le_of_ble_eq_true rfl) rfl ?_
  replace hf := zb1_s hf
  obtain ⟨m5, hg, hf⟩ := hf
  have hj6 : zz K cX12_findGroups (3, RX12, none, 3, 0, 0, none, mo) 0 0 21 [(0, .ref x0), (1, .int x1)] [] m5 := by
    refine zr_iconst 0 dX12_findGroups_21 (by decide) ?_
    refine zr_istore_n [(2, .int 0), (0, .ref x0), (1, .int x1)] dX12_findGroups_22 (Nat.le_of_ble_eq_true rfl) rfl ?_
    replace hf := zb1_s hf
    obtain ⟨m16, hg, hf⟩ := hf
    have hj17 : zz K cX12_findGroups (3, RX12, none, 3, 0, 0, none, mo) 0 0 61 [] [] m16 := by
      cases hf
      exact zr_vret dX12_findGroups_61
    clear hf
    have hf := hg
    clear hg
    have hL30 : ∀ (n : Nat) (x2_12 : Int32) (m13 : zM), zf2 (fX12_findGroups_l23 x0 x1) n x2_12 m13 = some m16 → zz K cX12_findGroups (3, RX12, none, 3, 0, 0, none, mo) 0 0 23 [(0, .ref x0), (1, .int x1), (2, .int x2_12)] [] m13 := by
      intro n
      induction n with
      | zero => intro x2_12 m13 hf; cases hf
      | succ n ih15 =>
        intro x2_12 m13 hf
        replace hf := zf2_s hf
        generalize zf2 (fX12_findGroups_l23 x0 x1) n = F14 at hf ih15
        unfold fX12_findGroups_l23 at hf
        refine zr_iload_n 2 dX12_findGroups_23 rfl ?_
        refine zr_bipush 64 dX12_findGroups_24 (by decide) ?_
        refine zr_icmp_ge 61 dX12_findGroups_26 (by decide) (fun hc => ?_) (fun hc => ?_)
        · rw [if_pos hc] at hf
          cases hf
          exact zr_lv [] rfl hj17
        · rw [if_neg hc] at hf
          refine zr_aload_n 0 dX12_findGroups_29 rfl ?_
          replace hf := zb1_s hf
          obtain ⟨v18, h19, hf⟩ := hf
          refine zr_get (zm_gR_g h19) zk12 (by decide) zl_885 dX12_findGroups_30 ?_
          refine zr_iload_n 2 dX12_findGroups_33 rfl ?_
          refine zr_iload_n 1 dX12_findGroups_34 rfl ?_
          replace hf := zb1_s hf
          obtain ⟨v21, h20, hf⟩ := hf
          refine zr_callS [.int x2_12, .int x1] (cX12_ruled_ok h20) zvs_X12_ruled zl_1203 zl_1202 rfl (Nat.le_of_ble_eq_true rfl) (Nat.le_of_ble_eq_true rfl) (Nat.le_of_ble_eq_true rfl) (Nat.le_of_ble_eq_true rfl) dX12_findGroups_35 rfl ?_
          refine zr_dup2 dX12_findGroups_38 rfl rfl ?_
          replace hf := zb1_s hf
          obtain ⟨v22, h23, hf⟩ := hf
          refine zr_iald h23 dX12_findGroups_39 ?_
          refine zr_aload_n 0 dX12_findGroups_40 rfl ?_
          refine zr_iload_n 2 dX12_findGroups_41 rfl ?_
          replace hf := zb1_s hf
          obtain ⟨v25, h24, hf⟩ := hf
          refine zr_callV (ci := 12) [.int x2_12] (cX12_fits_ok h24) zvs_X12_fits zl_1210 zl_1211 (fX12_fits_ck h24) rfl rfl zl_1209 rfl (Nat.le_of_ble_eq_true rfl) (Nat.le_of_ble_eq_true rfl) (Nat.le_of_ble_eq_true rfl) (Nat.le_of_ble_eq_true rfl) dX12_findGroups_42 rfl ?_
          replace hf := zb1_s hf
          obtain ⟨s26, hg, hf⟩ := hf
          have hj27 : zz K cX12_findGroups (3, RX12, none, 3, 0, 0, none, mo) 0 0 53 [(0, .ref x0), (1, .int x1), (2, .int x2_12)] [.int s26, .int v22, .int v21, .ref v18] m13 := by
            refine zr_iadd dX12_findGroups_53 ?_
            replace hf := zb1_s hf
            obtain ⟨m28, h29, hf⟩ := hf
            refine zr_iast h29 dX12_findGroups_54 ?_
            refine zr_iinc (j := 2) (x2_12 + 1) [(2, .int (x2_12 + 1)), (0, .ref x0), (1, .int x1)] dX12_findGroups_55 rfl rfl (Nat.le_of_ble_eq_true rfl) rfl ?_
            refine zr_goto 23 dX12_findGroups_58 (by decide) ?_
            exact zr_lv [1, 2, 0] rfl (ih15 (x2_12 + 1) m28 hf)
          clear hf
          have hf := hg
          clear hg
          refine zr_if_eq 52 dX12_findGroups_45 (by decide) (fun hc => ?_) (fun hc => ?_)
          · rw [if_pos hc] at hf
            refine zr_iconst 0 dX12_findGroups_52 (by decide) ?_
            cases hf
            exact zr_lv [0, 1, 2] rfl hj27
          · rw [if_neg hc] at hf
            refine zr_iconst 1 dX12_findGroups_48 (by decide) ?_
            refine zr_goto 53 dX12_findGroups_49 (by decide) ?_
            cases hf
            exact zr_lv [0, 1, 2] rfl hj27
    exact zr_lv [1, 2, 0] rfl (hL30 _ 0 m5 hf)
  clear hf
  have hf := hg
  clear hg
  have hL11 : ∀ (n : Nat) (x2_1 : Int32) (m2 : zM), zf2 (fX12_findGroups_l2 x0) n x2_1 m2 = some m5 → zz K cX12_findGroups (3, RX12, none, 3, 0, 0, none, mo) 0 0 2 [(0, .ref x0), (1, .int x1), (2, .int x2_1)] [] m2 := by
    intro n
    induction n with
    | zero => intro x2_1 m2 hf; cases hf
    | succ n ih4 =>
      intro x2_1 m2 hf
      replace hf := zf2_s hf
      generalize zf2 (fX12_findGroups_l2 x0) n = F3 at hf ih4
      unfold fX12_findGroups_l2 at hf
      refine zr_iload_n 2 dX12_findGroups_2 rfl ?_
      refine zr_bipush 8 dX12_findGroups_3 (by decide) ?_
      refine zr_icmp_ge 21 dX12_findGroups_5 (by decide) (fun hc => ?_) (fun hc => ?_)
      · rw [if_pos hc] at hf
        cases hf
        exact zr_lv [0, 1] rfl hj6
      · rw [if_neg hc] at hf
        refine zr_aload_n 0 dX12_findGroups_8 rfl ?_
        replace hf := zb1_s hf
        obtain ⟨v7, h8, hf⟩ := hf
        refine zr_get (zm_gR_g h8) zk12 (by decide) zl_885 dX12_findGroups_9 ?_
        refine zr_iload_n 2 dX12_findGroups_12 rfl ?_
        refine zr_iconst 0 dX12_findGroups_13 (by decide) ?_
        replace hf := zb1_s hf
        obtain ⟨m9, h10, hf⟩ := hf
        refine zr_iast h10 dX12_findGroups_14 ?_
        refine zr_iinc (j := 2) (x2_1 + 1) [(2, .int (x2_1 + 1)), (0, .ref x0), (1, .int x1)] dX12_findGroups_15 rfl rfl (Nat.le_of_ble_eq_true rfl) rfl ?_
        refine zr_goto 2 dX12_findGroups_18 (by decide) ?_
        exact zr_lv [1, 2, 0] rfl (ih4 (x2_1 + 1) m9 hf)
  exact zr_lv [1, 2, 0] rfl (hL11 _ 0 μ hf)
theorem zl_1212 : Cond.code yX12_findGroups cX12_findGroups 3 (none) ∈ zt := zt_at 1880 (by decide +kernel)
theorem zvs_X12_findGroups : zvS yX12_findGroups cX12_findGroups 3 (none) 1 := ⟨zl_1212, zl_893, ⟨by decide +kernel, by decide +kernel, by decide +kernel⟩, by decide⟩
theorem zl_1213 : Cond.methodLink RX12 445 yX12_findGroups ∈ zt := zt_at 1877 (by decide +kernel)
theorem zl_1214 : Cond.instanceMethod yX12_findGroups ∈ zt := zt_at 1879 (by decide +kernel)
theorem zl_1215 : Cond.selects RX12 yX12_findGroups yX12_findGroups ∈ zt := zt_at 107 (by decide +kernel)
theorem dX12_largest_0 : decode cX12_largest 0 = .ok (.aload_n 0, 1) := by decide +kernel
theorem dX12_largest_1 : decode cX12_largest 1 = .ok (.iload_n 1, 1) := by decide +kernel
theorem dX12_largest_2 : decode cX12_largest 2 = .ok (.invokevirtual 445, 3) := by decide +kernel
theorem dX12_largest_5 : decode cX12_largest 5 = .ok (.iconst 0, 1) := by decide +kernel
theorem dX12_largest_6 : decode cX12_largest 6 = .ok (.istore_n 2, 1) := by decide +kernel
theorem dX12_largest_7 : decode cX12_largest 7 = .ok (.iconst 0, 1) := by decide +kernel
theorem dX12_largest_8 : decode cX12_largest 8 = .ok (.istore_n 3, 1) := by decide +kernel
theorem dX12_largest_9 : decode cX12_largest 9 = .ok (.iload_n 3, 1) := by decide +kernel
theorem dX12_largest_10 : decode cX12_largest 10 = .ok (.bipush 8, 2) := by decide +kernel
theorem dX12_largest_12 : decode cX12_largest 12 = .ok (.if_icmp .ge 20, 3) := by decide +kernel
theorem dX12_largest_15 : decode cX12_largest 15 = .ok (.iload_n 2, 1) := by decide +kernel
theorem dX12_largest_16 : decode cX12_largest 16 = .ok (.aload_n 0, 1) := by decide +kernel
theorem dX12_largest_17 : decode cX12_largest 17 = .ok (.getfield 74, 3) := by decide +kernel
theorem dX12_largest_20 : decode cX12_largest 20 = .ok (.iload_n 3, 1) := by decide +kernel
theorem dX12_largest_21 : decode cX12_largest 21 = .ok (.iaload, 1) := by decide +kernel
theorem dX12_largest_22 : decode cX12_largest 22 = .ok (.invokestatic 168, 3) := by decide +kernel
theorem dX12_largest_25 : decode cX12_largest 25 = .ok (.istore_n 2, 1) := by decide +kernel
theorem dX12_largest_26 : decode cX12_largest 26 = .ok (.iinc 3 1, 3) := by decide +kernel
theorem dX12_largest_29 : decode cX12_largest 29 = .ok (.goto (-20), 3) := by decide +kernel
theorem dX12_largest_32 : decode cX12_largest 32 = .ok (.iload_n 2, 1) := by decide +kernel
theorem dX12_largest_33 : decode cX12_largest 33 = .ok (.ireturn, 1) := by decide +kernel
noncomputable def fX12_largest_l9 (m2 : zM) (x0 : Nat) (F5 : Int32 → Int32 → Option (Int32)) (x2_3 : Int32) (x3_4 : Int32) : Option (Int32) :=
  if 8 ≤ x3_4 then (
  some x2_3)
  else (
  zb1 (zm_gR m2 12 x0 45) fun v9 =>
  zb1 (zm_aI m2 0 v9 x3_4) fun v11 =>
  zb1 (fX12_greater m2 x2_3 v11) fun v14 =>
  F5 v14 (x3_4 + 1))
noncomputable def fX12_largest (μ : zM) (x0 : Nat) (x1 : Int32) : Option (Int32 × zM) := zgd (zm_ck μ 12 x0) <|
  zb1 (fX12_findGroups μ x0 x1) fun m2 =>
  zb1 (zf2 (fX12_largest_l9 m2 x0) zfu 0 0 : Option (Int32)) fun (x2_7 : Int32) =>
  some (x2_7, m2)
theorem fX12_largest_ck {μ : zM} {x0 : Nat} {x1 : Int32} {z : Int32 × zM} (h : fX12_largest μ x0 x1 = some z) : zm_ck μ 12 x0 = true := (zgd_s h).1
set_option maxHeartbeats 4000000 in
set_option maxRecDepth 100000 in
theorem cX12_largest_ok {μ : zM} {x0 : Nat} {x1 : Int32} {r : Int32} {mo : zM} (hf : fX12_largest μ x0 x1 = some (r, mo)) : zC yX12_largest cX12_largest 4 (some .int) 4 0 0 [.ref x0, .int x1] μ (some (.int r)) mo := by
  replace hf := (zgd_s hf).2
  refine zC.of (by decide) (Nat.le_of_ble_eq_true rfl) (fun K hin => ?_)
  clear hin
  show zz K cX12_largest (4, RX12, some .int, 4, 0, 0, some (.int r), mo) 0 0 0 [(0, .ref x0), (1, .int x1)] [] μ
  refine zr_aload_n 0 dX12_largest_0 rfl ?_
  refine zr_iload_n 1 dX12_largest_1 rfl ?_
  replace hf := zb1_s hf
  obtain ⟨m2, h1, hf⟩ := hf
  refine zr_callV (ci := 12) [.int x1] (cX12_findGroups_ok h1) zvs_X12_findGroups zl_1214 zl_1215 (fX12_findGroups_ck h1) rfl rfl zl_1213 rfl (Nat.le_of_ble_eq_true rfl) (Nat.le_of_ble_eq_true rfl) (Nat.le_of_ble_eq_true rfl) (Nat.le_of_ble_eq_true rfl) dX12_largest_2 rfl ?_
  refine zr_iconst 0 dX12_largest_5 (by decide) ?_
  refine zr_istore_n [(2, .int 0), (0, .ref x0), (1, .int x1)] dX12_largest_6 (Nat.le_of_ble_eq_true rfl) rfl ?_
  refine zr_iconst 0 dX12_largest_7 (by decide) ?_
  refine zr_istore_n [(3, .int 0), (2, .int 0), (0, .ref x0), (1, .int x1)] dX12_largest_8 (Nat.le_of_ble_eq_true rfl) rfl ?_
  replace hf := zb1_s hf
  obtain ⟨x2_7, hg, hf⟩ := hf
  have hj8 : zz K cX12_largest (4, RX12, some .int, 4, 0, 0, some (.int r), mo) 0 0 32 [(2, .int x2_7)] [] m2 := by
    refine zr_iload_n 0 dX12_largest_32 rfl ?_
    cases hf
    exact zr_iret dX12_largest_33
  clear hf
  have hf := hg
  clear hg
  have hL15 : ∀ (n : Nat) (x2_3 : Int32) (x3_4 : Int32), zf2 (fX12_largest_l9 m2 x0) n x2_3 x3_4 = some x2_7 → zz K cX12_largest (4, RX12, some .int, 4, 0, 0, some (.int r), mo) 0 0 9 [(0, .ref x0), (2, .int x2_3), (3, .int x3_4)] [] m2 := by
    intro n
    induction n with
    | zero => intro x2_3 x3_4 hf; cases hf
    | succ n ih6 =>
      intro x2_3 x3_4 hf
      replace hf := zf2_s hf
      generalize zf2 (fX12_largest_l9 m2 x0) n = F5 at hf ih6
      unfold fX12_largest_l9 at hf
      refine zr_iload_n 2 dX12_largest_9 rfl ?_
      refine zr_bipush 8 dX12_largest_10 (by decide) ?_
      refine zr_icmp_ge 32 dX12_largest_12 (by decide) (fun hc => ?_) (fun hc => ?_)
      · rw [if_pos hc] at hf
        cases hf
        exact zr_lv [1] rfl hj8
      · rw [if_neg hc] at hf
        refine zr_iload_n 1 dX12_largest_15 rfl ?_
        refine zr_aload_n 0 dX12_largest_16 rfl ?_
        replace hf := zb1_s hf
        obtain ⟨v9, h10, hf⟩ := hf
        refine zr_get (zm_gR_g h10) zk12 (by decide) zl_885 dX12_largest_17 ?_
        refine zr_iload_n 2 dX12_largest_20 rfl ?_
        replace hf := zb1_s hf
        obtain ⟨v11, h12, hf⟩ := hf
        refine zr_iald h12 dX12_largest_21 ?_
        replace hf := zb1_s hf
        obtain ⟨v14, h13, hf⟩ := hf
        refine zr_callS [.int x2_3, .int v11] (cX12_greater_ok h13) zvs_X12_greater zl_940 zl_939 rfl (Nat.le_of_ble_eq_true rfl) (Nat.le_of_ble_eq_true rfl) (Nat.le_of_ble_eq_true rfl) (Nat.le_of_ble_eq_true rfl) dX12_largest_22 rfl ?_
        refine zr_istore_n [(2, .int v14), (0, .ref x0), (3, .int x3_4)] dX12_largest_25 (Nat.le_of_ble_eq_true rfl) rfl ?_
        refine zr_iinc (j := 2) (x3_4 + 1) [(3, .int (x3_4 + 1)), (2, .int v14), (0, .ref x0)] dX12_largest_26 rfl rfl (Nat.le_of_ble_eq_true rfl) rfl ?_
        refine zr_goto 9 dX12_largest_29 (by decide) ?_
        exact zr_lv [2, 1, 0] rfl (ih6 v14 (x3_4 + 1) hf)
  exact zr_lv [2, 1, 0] rfl (hL15 _ 0 0 hf)
theorem dX12_comesOf_0 : decode cX12_comesOf 0 = .ok (.aload_n 0, 1) := by decide +kernel
theorem dX12_comesOf_1 : decode cX12_comesOf 1 = .ok (.iload_n 1, 1) := by decide +kernel
theorem dX12_comesOf_2 : decode cX12_comesOf 2 = .ok (.invokevirtual 445, 3) := by decide +kernel
theorem dX12_comesOf_5 : decode cX12_comesOf 5 = .ok (.iconst 0, 1) := by decide +kernel
theorem dX12_comesOf_6 : decode cX12_comesOf 6 = .ok (.istore_n 3, 1) := by decide +kernel
theorem dX12_comesOf_7 : decode cX12_comesOf 7 = .ok (.iload_n 3, 1) := by decide +kernel
theorem dX12_comesOf_8 : decode cX12_comesOf 8 = .ok (.bipush 8, 2) := by decide +kernel
theorem dX12_comesOf_10 : decode cX12_comesOf 10 = .ok (.if_icmp .ge 21, 3) := by decide +kernel
theorem dX12_comesOf_13 : decode cX12_comesOf 13 = .ok (.aload_n 0, 1) := by decide +kernel
theorem dX12_comesOf_14 : decode cX12_comesOf 14 = .ok (.getfield 74, 3) := by decide +kernel
theorem dX12_comesOf_17 : decode cX12_comesOf 17 = .ok (.iload_n 3, 1) := by decide +kernel
theorem dX12_comesOf_18 : decode cX12_comesOf 18 = .ok (.iaload, 1) := by decide +kernel
theorem dX12_comesOf_19 : decode cX12_comesOf 19 = .ok (.iload_n 2, 1) := by decide +kernel
theorem dX12_comesOf_20 : decode cX12_comesOf 20 = .ok (.if_icmp .ne 5, 3) := by decide +kernel
theorem dX12_comesOf_23 : decode cX12_comesOf 23 = .ok (.iload_n 3, 1) := by decide +kernel
theorem dX12_comesOf_24 : decode cX12_comesOf 24 = .ok (.ireturn, 1) := by decide +kernel
theorem dX12_comesOf_25 : decode cX12_comesOf 25 = .ok (.iinc 3 1, 3) := by decide +kernel
theorem dX12_comesOf_28 : decode cX12_comesOf 28 = .ok (.goto (-21), 3) := by decide +kernel
theorem dX12_comesOf_31 : decode cX12_comesOf 31 = .ok (.iconst (-1), 1) := by decide +kernel
theorem dX12_comesOf_32 : decode cX12_comesOf 32 = .ok (.ireturn, 1) := by decide +kernel
noncomputable def fX12_comesOf_l7 (m2 : zM) (x0 : Nat) (x2 : Int32) (F4 : Int32 → Option (Int32 × zM)) (x3_3 : Int32) : Option (Int32 × zM) :=
  if 8 ≤ x3_3 then (
  some ((-1), m2))
  else (
  zb1 (zm_gR m2 12 x0 45) fun v6 =>
  zb1 (zm_aI m2 0 v6 x3_3) fun v8 =>
  if v8 = x2 then (
  some (x3_3, m2))
  else (
  F4 (x3_3 + 1)))
noncomputable def fX12_comesOf (μ : zM) (x0 : Nat) (x1 : Int32) (x2 : Int32) : Option (Int32 × zM) := zgd (zm_ck μ 12 x0) <|
  zb1 (fX12_findGroups μ x0 x1) fun m2 =>
  zf1 (fX12_comesOf_l7 m2 x0 x2) zfu 0
theorem fX12_comesOf_ck {μ : zM} {x0 : Nat} {x1 : Int32} {x2 : Int32} {z : Int32 × zM} (h : fX12_comesOf μ x0 x1 x2 = some z) : zm_ck μ 12 x0 = true := (zgd_s h).1
set_option maxHeartbeats 4000000 in
set_option maxRecDepth 100000 in
theorem cX12_comesOf_ok {μ : zM} {x0 : Nat} {x1 : Int32} {x2 : Int32} {r : Int32} {mo : zM} (hf : fX12_comesOf μ x0 x1 x2 = some (r, mo)) : zC yX12_comesOf cX12_comesOf 4 (some .int) 4 0 0 [.ref x0, .int x1, .int x2] μ (some (.int r)) mo := by
  replace hf := (zgd_s hf).2
  refine zC.of (by decide) (Nat.le_of_ble_eq_true rfl) (fun K hin => ?_)
  clear hin
  show zz K cX12_comesOf (4, RX12, some .int, 4, 0, 0, some (.int r), mo) 0 0 0 [(0, .ref x0), (1, .int x1), (2, .int x2)] [] μ
  refine zr_aload_n 0 dX12_comesOf_0 rfl ?_
  refine zr_iload_n 1 dX12_comesOf_1 rfl ?_
  replace hf := zb1_s hf
  obtain ⟨m2, h1, hf⟩ := hf
  refine zr_callV (ci := 12) [.int x1] (cX12_findGroups_ok h1) zvs_X12_findGroups zl_1214 zl_1215 (fX12_findGroups_ck h1) rfl rfl zl_1213 rfl (Nat.le_of_ble_eq_true rfl) (Nat.le_of_ble_eq_true rfl) (Nat.le_of_ble_eq_true rfl) (Nat.le_of_ble_eq_true rfl) dX12_comesOf_2 rfl ?_
  refine zr_iconst 0 dX12_comesOf_5 (by decide) ?_
  refine zr_istore_n [(3, .int 0), (0, .ref x0), (1, .int x1), (2, .int x2)] dX12_comesOf_6 (Nat.le_of_ble_eq_true rfl) rfl ?_
  have hL10 : ∀ (n : Nat) (x3_3 : Int32), zf1 (fX12_comesOf_l7 m2 x0 x2) n x3_3 = some (r, mo) → zz K cX12_comesOf (4, RX12, some .int, 4, 0, 0, some (.int r), mo) 0 0 7 [(0, .ref x0), (2, .int x2), (3, .int x3_3)] [] m2 := by
    intro n
    induction n with
    | zero => intro x3_3 hf; cases hf
    | succ n ih5 =>
      intro x3_3 hf
      replace hf := zf1_s hf
      generalize zf1 (fX12_comesOf_l7 m2 x0 x2) n = F4 at hf ih5
      unfold fX12_comesOf_l7 at hf
      refine zr_iload_n 2 dX12_comesOf_7 rfl ?_
      refine zr_bipush 8 dX12_comesOf_8 (by decide) ?_
      refine zr_icmp_ge 31 dX12_comesOf_10 (by decide) (fun hc => ?_) (fun hc => ?_)
      · rw [if_pos hc] at hf
        refine zr_iconst (-1) dX12_comesOf_31 (by decide) ?_
        cases hf
        exact zr_iret dX12_comesOf_32
      · rw [if_neg hc] at hf
        refine zr_aload_n 0 dX12_comesOf_13 rfl ?_
        replace hf := zb1_s hf
        obtain ⟨v6, h7, hf⟩ := hf
        refine zr_get (zm_gR_g h7) zk12 (by decide) zl_885 dX12_comesOf_14 ?_
        refine zr_iload_n 2 dX12_comesOf_17 rfl ?_
        replace hf := zb1_s hf
        obtain ⟨v8, h9, hf⟩ := hf
        refine zr_iald h9 dX12_comesOf_18 ?_
        refine zr_iload_n 1 dX12_comesOf_19 rfl ?_
        refine zr_icmp_ne 25 dX12_comesOf_20 (by decide) (fun hc => ?_) (fun hc => ?_)
        · rw [if_neg hc] at hf
          refine zr_iinc (j := 2) (x3_3 + 1) [(3, .int (x3_3 + 1)), (0, .ref x0), (2, .int x2)] dX12_comesOf_25 rfl rfl (Nat.le_of_ble_eq_true rfl) rfl ?_
          refine zr_goto 7 dX12_comesOf_28 (by decide) ?_
          exact zr_lv [1, 2, 0] rfl (ih5 (x3_3 + 1) hf)
        · rw [if_pos hc] at hf
          refine zr_iload_n 2 dX12_comesOf_23 rfl ?_
          cases hf
          exact zr_iret dX12_comesOf_24
  exact zr_lv [1, 3, 0] rfl (hL10 _ 0 hf)
theorem zl_1216 : Cond.code yX12_largest cX12_largest 4 (some .int) ∈ zt := zt_at 1884 (by decide +kernel)
theorem zvs_X12_largest : zvS yX12_largest cX12_largest 4 (some .int) 1 := ⟨zl_1216, zl_893, ⟨by decide +kernel, by decide +kernel, by decide +kernel⟩, by decide⟩
theorem zl_1217 : Cond.methodLink RX12 451 yX12_largest ∈ zt := zt_at 1881 (by decide +kernel)
theorem zl_1218 : Cond.instanceMethod yX12_largest ∈ zt := zt_at 1883 (by decide +kernel)
theorem zl_1219 : Cond.selects RX12 yX12_largest yX12_largest ∈ zt := zt_at 108 (by decide +kernel)
theorem zl_1220 : Cond.code yX12_comesOf cX12_comesOf 4 (some .int) ∈ zt := zt_at 1876 (by decide +kernel)
theorem zvs_X12_comesOf : zvS yX12_comesOf cX12_comesOf 4 (some .int) 2 := ⟨zl_1220, zl_893, ⟨by decide +kernel, by decide +kernel, by decide +kernel⟩, by decide⟩
theorem zl_1221 : Cond.methodLink RX12 448 yX12_comesOf ∈ zt := zt_at 1873 (by decide +kernel)
theorem zl_1222 : Cond.instanceMethod yX12_comesOf ∈ zt := zt_at 1875 (by decide +kernel)
theorem zl_1223 : Cond.selects RX12 yX12_comesOf yX12_comesOf ∈ zt := zt_at 106 (by decide +kernel)
theorem dX12_rules_0 : decode cX12_rules 0 = .ok (.aload_n 0, 1) := by decide +kernel
theorem dX12_rules_1 : decode cX12_rules 1 = .ok (.iconst 0, 1) := by decide +kernel
theorem dX12_rules_2 : decode cX12_rules 2 = .ok (.putfield 93, 3) := by decide +kernel
theorem dX12_rules_5 : decode cX12_rules 5 = .ok (.aload_n 0, 1) := by decide +kernel
theorem dX12_rules_6 : decode cX12_rules 6 = .ok (.iload_n 1, 1) := by decide +kernel
theorem dX12_rules_7 : decode cX12_rules 7 = .ok (.invokevirtual 430, 3) := by decide +kernel
theorem dX12_rules_10 : decode cX12_rules 10 = .ok (.ifCond .eq 23, 3) := by decide +kernel
theorem dX12_rules_13 : decode cX12_rules 13 = .ok (.iload_n 2, 1) := by decide +kernel
theorem dX12_rules_14 : decode cX12_rules 14 = .ok (.iconst 0, 1) := by decide +kernel
theorem dX12_rules_15 : decode cX12_rules 15 = .ok (.iconst 3, 1) := by decide +kernel
theorem dX12_rules_16 : decode cX12_rules 16 = .ok (.invokestatic 101, 3) := by decide +kernel
theorem dX12_rules_19 : decode cX12_rules 19 = .ok (.ifCond .ne 17, 3) := by decide +kernel
theorem dX12_rules_22 : decode cX12_rules 22 = .ok (.iload_n 2, 1) := by decide +kernel
theorem dX12_rules_23 : decode cX12_rules 23 = .ok (.bipush 10, 2) := by decide +kernel
theorem dX12_rules_25 : decode cX12_rules 25 = .ok (.bipush 17, 2) := by decide +kernel
theorem dX12_rules_27 : decode cX12_rules 27 = .ok (.invokestatic 101, 3) := by decide +kernel
theorem dX12_rules_30 : decode cX12_rules 30 = .ok (.ifCond .ne 6, 3) := by decide +kernel
theorem dX12_rules_33 : decode cX12_rules 33 = .ok (.bipush (-2), 2) := by decide +kernel
theorem dX12_rules_35 : decode cX12_rules 35 = .ok (.ireturn, 1) := by decide +kernel
theorem dX12_rules_36 : decode cX12_rules 36 = .ok (.iconst 0, 1) := by decide +kernel
theorem dX12_rules_37 : decode cX12_rules 37 = .ok (.istore_n 3, 1) := by decide +kernel
theorem dX12_rules_38 : decode cX12_rules 38 = .ok (.iconst 0, 1) := by decide +kernel
theorem dX12_rules_39 : decode cX12_rules 39 = .ok (.istore 4, 2) := by decide +kernel
theorem dX12_rules_41 : decode cX12_rules 41 = .ok (.iconst 0, 1) := by decide +kernel
theorem dX12_rules_42 : decode cX12_rules 42 = .ok (.istore 5, 2) := by decide +kernel
theorem dX12_rules_44 : decode cX12_rules 44 = .ok (.iload 5, 2) := by decide +kernel
theorem dX12_rules_46 : decode cX12_rules 46 = .ok (.bipush 64, 2) := by decide +kernel
theorem dX12_rules_48 : decode cX12_rules 48 = .ok (.if_icmp .ge 50, 3) := by decide +kernel
theorem dX12_rules_51 : decode cX12_rules 51 = .ok (.iload_n 3, 1) := by decide +kernel
theorem dX12_rules_52 : decode cX12_rules 52 = .ok (.aload_n 0, 1) := by decide +kernel
theorem dX12_rules_53 : decode cX12_rules 53 = .ok (.iload 5, 2) := by decide +kernel
theorem dX12_rules_55 : decode cX12_rules 55 = .ok (.invokevirtual 442, 3) := by decide +kernel
theorem dX12_rules_58 : decode cX12_rules 58 = .ok (.ifCond .eq 7, 3) := by decide +kernel
theorem dX12_rules_61 : decode cX12_rules 61 = .ok (.iconst 1, 1) := by decide +kernel
theorem dX12_rules_62 : decode cX12_rules 62 = .ok (.goto 4, 3) := by decide +kernel
theorem dX12_rules_65 : decode cX12_rules 65 = .ok (.iconst 0, 1) := by decide +kernel
theorem dX12_rules_66 : decode cX12_rules 66 = .ok (.iadd, 1) := by decide +kernel
theorem dX12_rules_67 : decode cX12_rules 67 = .ok (.istore_n 3, 1) := by decide +kernel
theorem dX12_rules_68 : decode cX12_rules 68 = .ok (.aload_n 0, 1) := by decide +kernel
theorem dX12_rules_69 : decode cX12_rules 69 = .ok (.iload 5, 2) := by decide +kernel
theorem dX12_rules_71 : decode cX12_rules 71 = .ok (.invokevirtual 439, 3) := by decide +kernel
theorem dX12_rules_74 : decode cX12_rules 74 = .ok (.aload_n 0, 1) := by decide +kernel
theorem dX12_rules_75 : decode cX12_rules 75 = .ok (.iload 4, 2) := by decide +kernel
theorem dX12_rules_77 : decode cX12_rules 77 = .ok (.invokevirtual 439, 3) := by decide +kernel
theorem dX12_rules_80 : decode cX12_rules 80 = .ok (.if_icmp .ge 8, 3) := by decide +kernel
theorem dX12_rules_83 : decode cX12_rules 83 = .ok (.iload 5, 2) := by decide +kernel
theorem dX12_rules_85 : decode cX12_rules 85 = .ok (.goto 5, 3) := by decide +kernel
theorem dX12_rules_88 : decode cX12_rules 88 = .ok (.iload 4, 2) := by decide +kernel
theorem dX12_rules_90 : decode cX12_rules 90 = .ok (.istore 4, 2) := by decide +kernel
theorem dX12_rules_92 : decode cX12_rules 92 = .ok (.iinc 5 1, 3) := by decide +kernel
theorem dX12_rules_95 : decode cX12_rules 95 = .ok (.goto (-51), 3) := by decide +kernel
theorem dX12_rules_98 : decode cX12_rules 98 = .ok (.iload_n 2, 1) := by decide +kernel
theorem dX12_rules_99 : decode cX12_rules 99 = .ok (.iconst 3, 1) := by decide +kernel
theorem dX12_rules_100 : decode cX12_rules 100 = .ok (.if_icmp .ge 28, 3) := by decide +kernel
theorem dX12_rules_103 : decode cX12_rules 103 = .ok (.iload_n 2, 1) := by decide +kernel
theorem dX12_rules_104 : decode cX12_rules 104 = .ok (.ifCond .ne 7, 3) := by decide +kernel
theorem dX12_rules_107 : decode cX12_rules 107 = .ok (.iload_n 3, 1) := by decide +kernel
theorem dX12_rules_108 : decode cX12_rules 108 = .ok (.goto 19, 3) := by decide +kernel
theorem dX12_rules_111 : decode cX12_rules 111 = .ok (.iload_n 2, 1) := by decide +kernel
theorem dX12_rules_112 : decode cX12_rules 112 = .ok (.iconst 1, 1) := by decide +kernel
theorem dX12_rules_113 : decode cX12_rules 113 = .ok (.if_icmp .ne 12, 3) := by decide +kernel
theorem dX12_rules_116 : decode cX12_rules 116 = .ok (.aload_n 0, 1) := by decide +kernel
theorem dX12_rules_117 : decode cX12_rules 117 = .ok (.iload 4, 2) := by decide +kernel
theorem dX12_rules_119 : decode cX12_rules 119 = .ok (.invokevirtual 439, 3) := by decide +kernel
theorem dX12_rules_122 : decode cX12_rules 122 = .ok (.goto 5, 3) := by decide +kernel
theorem dX12_rules_125 : decode cX12_rules 125 = .ok (.iload 4, 2) := by decide +kernel
theorem dX12_rules_127 : decode cX12_rules 127 = .ok (.ireturn, 1) := by decide +kernel
theorem dX12_rules_128 : decode cX12_rules 128 = .ok (.iload_n 3, 1) := by decide +kernel
theorem dX12_rules_129 : decode cX12_rules 129 = .ok (.ifCond .ne 5, 3) := by decide +kernel
theorem dX12_rules_132 : decode cX12_rules 132 = .ok (.iconst (-1), 1) := by decide +kernel
theorem dX12_rules_133 : decode cX12_rules 133 = .ok (.ireturn, 1) := by decide +kernel
theorem dX12_rules_134 : decode cX12_rules 134 = .ok (.iload_n 2, 1) := by decide +kernel
theorem dX12_rules_135 : decode cX12_rules 135 = .ok (.iconst 3, 1) := by decide +kernel
theorem dX12_rules_136 : decode cX12_rules 136 = .ok (.if_icmp .le 13, 3) := by decide +kernel
theorem dX12_rules_139 : decode cX12_rules 139 = .ok (.aload_n 0, 1) := by decide +kernel
theorem dX12_rules_140 : decode cX12_rules 140 = .ok (.iload_n 2, 1) := by decide +kernel
theorem dX12_rules_141 : decode cX12_rules 141 = .ok (.bipush 10, 2) := by decide +kernel
theorem dX12_rules_143 : decode cX12_rules 143 = .ok (.isub, 1) := by decide +kernel
theorem dX12_rules_144 : decode cX12_rules 144 = .ok (.iload_n 3, 1) := by decide +kernel
theorem dX12_rules_145 : decode cX12_rules 145 = .ok (.invokevirtual 448, 3) := by decide +kernel
theorem dX12_rules_148 : decode cX12_rules 148 = .ok (.ireturn, 1) := by decide +kernel
theorem dX12_rules_149 : decode cX12_rules 149 = .ok (.iconst 0, 1) := by decide +kernel
theorem dX12_rules_150 : decode cX12_rules 150 = .ok (.istore 5, 2) := by decide +kernel
theorem dX12_rules_152 : decode cX12_rules 152 = .ok (.iconst 1, 1) := by decide +kernel
theorem dX12_rules_153 : decode cX12_rules 153 = .ok (.istore 6, 2) := by decide +kernel
theorem dX12_rules_155 : decode cX12_rules 155 = .ok (.iload 6, 2) := by decide +kernel
theorem dX12_rules_157 : decode cX12_rules 157 = .ok (.bipush 8, 2) := by decide +kernel
theorem dX12_rules_159 : decode cX12_rules 159 = .ok (.if_icmp .ge 33, 3) := by decide +kernel
theorem dX12_rules_162 : decode cX12_rules 162 = .ok (.aload_n 0, 1) := by decide +kernel
theorem dX12_rules_163 : decode cX12_rules 163 = .ok (.iload 6, 2) := by decide +kernel
theorem dX12_rules_165 : decode cX12_rules 165 = .ok (.invokevirtual 451, 3) := by decide +kernel
theorem dX12_rules_168 : decode cX12_rules 168 = .ok (.aload_n 0, 1) := by decide +kernel
theorem dX12_rules_169 : decode cX12_rules 169 = .ok (.iload 5, 2) := by decide +kernel
theorem dX12_rules_171 : decode cX12_rules 171 = .ok (.invokevirtual 451, 3) := by decide +kernel
theorem dX12_rules_174 : decode cX12_rules 174 = .ok (.if_icmp .ge 8, 3) := by decide +kernel
theorem dX12_rules_177 : decode cX12_rules 177 = .ok (.iload 6, 2) := by decide +kernel
theorem dX12_rules_179 : decode cX12_rules 179 = .ok (.goto 5, 3) := by decide +kernel
theorem dX12_rules_182 : decode cX12_rules 182 = .ok (.iload 5, 2) := by decide +kernel
theorem dX12_rules_184 : decode cX12_rules 184 = .ok (.istore 5, 2) := by decide +kernel
theorem dX12_rules_186 : decode cX12_rules 186 = .ok (.iinc 6 1, 3) := by decide +kernel
theorem dX12_rules_189 : decode cX12_rules 189 = .ok (.goto (-34), 3) := by decide +kernel
theorem dX12_rules_192 : decode cX12_rules 192 = .ok (.iload 5, 2) := by decide +kernel
theorem dX12_rules_194 : decode cX12_rules 194 = .ok (.ireturn, 1) := by decide +kernel
noncomputable def fX12_rules_l44 (m4 : zM) (x0 : Nat) (F11 : Int32 → Int32 → Int32 → Option (Int32 × Int32)) (x3_8 : Int32) (x4_9 : Int32) (x5_10 : Int32) : Option (Int32 × Int32) :=
  if 64 ≤ x5_10 then (
  some (x3_8, x4_9))
  else (
  zb1 (fX12_fits m4 x0 x5_10) fun v17 =>
  zb1 (if v17 = 0 then (
  some 0)
  else (
  some 1) : Option (Int32)) fun (s18 : Int32) =>
  zb1 (fX12_wrongs m4 x0 x5_10) fun v21 =>
  zb1 (fX12_wrongs m4 x0 x4_9) fun v23 =>
  zb1 (if v23 ≤ v21 then (
  some x4_9)
  else (
  some x5_10) : Option (Int32)) fun (s24 : Int32) =>
  F11 (x3_8 + s18) s24 (x5_10 + 1))
noncomputable def fX12_rules_l155 (x0 : Nat) (F30 : Int32 → Int32 → zM → Option (Int32 × zM)) (x5_27 : Int32) (x6_28 : Int32) (m29 : zM) : Option (Int32 × zM) :=
  if 8 ≤ x6_28 then (
  some (x5_27, m29))
  else (
  zb2 (fX12_largest m29 x0 x6_28) fun v37 m36 =>
  zb2 (fX12_largest m36 x0 x5_27) fun v40 m39 =>
  zb1 (if v40 ≤ v37 then (
  some x5_27)
  else (
  some x6_28) : Option (Int32)) fun (s41 : Int32) =>
  F30 s41 (x6_28 + 1) m39)
noncomputable def fX12_rules_b36 (m4 : zM) (x0 : Nat) (x2 : Int32) : Option (Int32 × zM) :=
  zb2 (zf3 (fX12_rules_l44 m4 x0) zfu 0 0 0 : Option (Int32 × Int32)) fun (x3_13 : Int32) (x4_14 : Int32) =>
  if 3 ≤ x2 then (
  if x3_13 = 0 then (
  some ((-1), m4))
  else (
  if x2 ≤ 3 then (
  zb2 (zf3 (fX12_rules_l155 x0) zfu 0 1 m4 : Option (Int32 × zM)) fun (x5_32 : Int32) (m33 : zM) =>
  some (x5_32, m33))
  else (
  zb2 (fX12_comesOf m4 x0 (x2 - 10) x3_13) fun v46 m45 =>
  some (v46, m45))))
  else (
  zb1 (if x2 = 0 then (
  some x3_13)
  else (
  if x2 = 1 then (
  zb1 (fX12_wrongs m4 x0 x4_14) fun v50 =>
  some v50)
  else (
  some x4_14)) : Option (Int32)) fun (s47 : Int32) =>
  some (s47, m4))
noncomputable def fX12_rules (μ : zM) (x0 : Nat) (x1 : Int32) (x2 : Int32) : Option (Int32 × zM) := zgd (zm_ck μ 12 x0) <|
  zb1 (zm_p μ 12 x0 0 (.int 0)) fun m1 =>
  zb2 (fX12_hasLesson m1 x0 x1) fun v5 m4 =>
  if v5 = 0 then (
  some ((-2), m4))
  else (
  zb1 (fX12_in m4 x2 0 3) fun v7 =>
  if v7 = 0 then (
  zb1 (fX12_in m4 x2 10 17) fun v53 =>
  if v53 = 0 then (
  some ((-2), m4))
  else (
  fX12_rules_b36 m4 x0 x2))
  else (
  fX12_rules_b36 m4 x0 x2))
theorem fX12_rules_ck {μ : zM} {x0 : Nat} {x1 : Int32} {x2 : Int32} {z : Int32 × zM} (h : fX12_rules μ x0 x1 x2 = some z) : zm_ck μ 12 x0 = true := (zgd_s h).1
set_option maxHeartbeats 4000000 in
set_option maxRecDepth 100000 in
theorem cX12_rules_ok {μ : zM} {x0 : Nat} {x1 : Int32} {x2 : Int32} {r : Int32} {mo : zM} (hf : fX12_rules μ x0 x1 x2 = some (r, mo)) : zC yX12_rules cX12_rules 7 (some .int) 5 0 0 [.ref x0, .int x1, .int x2] μ (some (.int r)) mo := by
  replace hf := (zgd_s hf).2
  refine zC.of (by decide) (Nat.le_of_ble_eq_true rfl) (fun K hin => ?_)
  clear hin
  show zz K cX12_rules (7, RX12, some .int, 5, 0, 0, some (.int r), mo) 0 0 0 [(0, .ref x0), (1, .int x1), (2, .int x2)] [] μ
  refine zr_aload_n 0 dX12_rules_0 rfl ?_
  refine zr_iconst 0 dX12_rules_1 (by decide) ?_
  replace hf := zb1_s hf
  obtain ⟨m1, h2, hf⟩ := hf
  refine zr_put h2 zk12 (by decide) zl_899 rfl rfl rfl dX12_rules_2 ?_
  refine zr_aload_n 0 dX12_rules_5 rfl ?_
  refine zr_iload_n 1 dX12_rules_6 rfl ?_
  replace hf := zb2_s hf
  obtain ⟨v5, m4, h3, hf⟩ := hf
  refine zr_callV (ci := 12) [.int x1] (cX12_hasLesson_ok h3) zvs_X12_hasLesson zl_1195 zl_1196 (fX12_hasLesson_ck h3) rfl rfl zl_1194 rfl (Nat.le_of_ble_eq_true rfl) (Nat.le_of_ble_eq_true rfl) (Nat.le_of_ble_eq_true rfl) (Nat.le_of_ble_eq_true rfl) dX12_rules_7 rfl ?_
  refine zr_if_eq 33 dX12_rules_10 (by decide) (fun hc => ?_) (fun hc => ?_)
  · rw [if_pos hc] at hf
    refine zr_bipush (-2) dX12_rules_33 (by decide) ?_
    cases hf
    exact zr_iret dX12_rules_35
  · rw [if_neg hc] at hf
    refine zr_iload_n 2 dX12_rules_13 rfl ?_
    refine zr_iconst 0 dX12_rules_14 (by decide) ?_
    refine zr_iconst 3 dX12_rules_15 (by decide) ?_
    replace hf := zb1_s hf
    obtain ⟨v7, h6, hf⟩ := hf
    refine zr_callS [.int x2, .int 0, .int 3] (cX12_in_ok h6) zvs_X12_in zl_898 zl_897 rfl (Nat.le_of_ble_eq_true rfl) (Nat.le_of_ble_eq_true rfl) (Nat.le_of_ble_eq_true rfl) (Nat.le_of_ble_eq_true rfl) dX12_rules_16 rfl ?_
    have hb51 : ∀ (_ : Unit), fX12_rules_b36 m4 x0 x2 = some (r, mo) → zz K cX12_rules (7, RX12, some .int, 5, 0, 0, some (.int r), mo) 0 0 36 [(0, .ref x0), (2, .int x2)] [] m4 := by
      intro _ hf
      unfold fX12_rules_b36 at hf
      refine zr_iconst 0 dX12_rules_36 (by decide) ?_
      refine zr_istore_n [(3, .int 0), (0, .ref x0), (2, .int x2)] dX12_rules_37 (Nat.le_of_ble_eq_true rfl) rfl ?_
      refine zr_iconst 0 dX12_rules_38 (by decide) ?_
      refine zr_istore [(4, .int 0), (3, .int 0), (0, .ref x0), (2, .int x2)] dX12_rules_39 (Nat.le_of_ble_eq_true rfl) rfl ?_
      refine zr_iconst 0 dX12_rules_41 (by decide) ?_
      refine zr_istore [(5, .int 0), (4, .int 0), (3, .int 0), (0, .ref x0), (2, .int x2)] dX12_rules_42 (Nat.le_of_ble_eq_true rfl) rfl ?_
      replace hf := zb2_s hf
      obtain ⟨x3_13, x4_14, hg, hf⟩ := hf
      have hj15 : zz K cX12_rules (7, RX12, some .int, 5, 0, 0, some (.int r), mo) 0 0 98 [(0, .ref x0), (2, .int x2), (3, .int x3_13), (4, .int x4_14)] [] m4 := by
        refine zr_iload_n 1 dX12_rules_98 rfl ?_
        refine zr_iconst 3 dX12_rules_99 (by decide) ?_
        refine zr_icmp_ge 128 dX12_rules_100 (by decide) (fun hc => ?_) (fun hc => ?_)
        · rw [if_pos hc] at hf
          refine zr_iload_n 2 dX12_rules_128 rfl ?_
          refine zr_if_ne 134 dX12_rules_129 (by decide) (fun hc => ?_) (fun hc => ?_)
          · rw [if_neg hc] at hf
            refine zr_iload_n 1 dX12_rules_134 rfl ?_
            refine zr_iconst 3 dX12_rules_135 (by decide) ?_
            refine zr_icmp_le 149 dX12_rules_136 (by decide) (fun hc => ?_) (fun hc => ?_)
            · rw [if_pos hc] at hf
              refine zr_iconst 0 dX12_rules_149 (by decide) ?_
              refine zr_istore [(5, .int 0), (0, .ref x0), (2, .int x2), (3, .int x3_13), (4, .int x4_14)] dX12_rules_150 (Nat.le_of_ble_eq_true rfl) rfl ?_
              refine zr_iconst 1 dX12_rules_152 (by decide) ?_
              refine zr_istore [(6, .int 1), (5, .int 0), (0, .ref x0), (2, .int x2), (3, .int x3_13), (4, .int x4_14)] dX12_rules_153 (Nat.le_of_ble_eq_true rfl) rfl ?_
              replace hf := zb2_s hf
              obtain ⟨x5_32, m33, hg, hf⟩ := hf
              have hj34 : zz K cX12_rules (7, RX12, some .int, 5, 0, 0, some (.int r), mo) 0 0 192 [(5, .int x5_32)] [] m33 := by
                refine zr_iload 0 dX12_rules_192 rfl ?_
                cases hf
                exact zr_iret dX12_rules_194
              clear hf
              have hf := hg
              clear hg
              have hL43 : ∀ (n : Nat) (x5_27 : Int32) (x6_28 : Int32) (m29 : zM), zf3 (fX12_rules_l155 x0) n x5_27 x6_28 m29 = some (x5_32, m33) → zz K cX12_rules (7, RX12, some .int, 5, 0, 0, some (.int r), mo) 0 0 155 [(0, .ref x0), (5, .int x5_27), (6, .int x6_28)] [] m29 := by
                intro n
                induction n with
                | zero => intro x5_27 x6_28 m29 hf; cases hf
                | succ n ih31 =>
                  intro x5_27 x6_28 m29 hf
                  replace hf := zf3_s hf
                  generalize zf3 (fX12_rules_l155 x0) n = F30 at hf ih31
                  unfold fX12_rules_l155 at hf
                  refine zr_iload 2 dX12_rules_155 rfl ?_
                  refine zr_bipush 8 dX12_rules_157 (by decide) ?_
                  refine zr_icmp_ge 192 dX12_rules_159 (by decide) (fun hc => ?_) (fun hc => ?_)
                  · rw [if_pos hc] at hf
                    cases hf
                    exact zr_lv [1] rfl hj34
                  · rw [if_neg hc] at hf
                    refine zr_aload_n 0 dX12_rules_162 rfl ?_
                    refine zr_iload 2 dX12_rules_163 rfl ?_
                    replace hf := zb2_s hf
                    obtain ⟨v37, m36, h35, hf⟩ := hf
                    refine zr_callV (ci := 12) [.int x6_28] (cX12_largest_ok h35) zvs_X12_largest zl_1218 zl_1219 (fX12_largest_ck h35) rfl rfl zl_1217 rfl (Nat.le_of_ble_eq_true rfl) (Nat.le_of_ble_eq_true rfl) (Nat.le_of_ble_eq_true rfl) (Nat.le_of_ble_eq_true rfl) dX12_rules_165 rfl ?_
                    refine zr_aload_n 0 dX12_rules_168 rfl ?_
                    refine zr_iload 1 dX12_rules_169 rfl ?_
                    replace hf := zb2_s hf
                    obtain ⟨v40, m39, h38, hf⟩ := hf
                    refine zr_callV (ci := 12) [.int x5_27] (cX12_largest_ok h38) zvs_X12_largest zl_1218 zl_1219 (fX12_largest_ck h38) rfl rfl zl_1217 rfl (Nat.le_of_ble_eq_true rfl) (Nat.le_of_ble_eq_true rfl) (Nat.le_of_ble_eq_true rfl) (Nat.le_of_ble_eq_true rfl) dX12_rules_171 rfl ?_
                    replace hf := zb1_s hf
                    obtain ⟨s41, hg, hf⟩ := hf
                    have hj42 : zz K cX12_rules (7, RX12, some .int, 5, 0, 0, some (.int r), mo) 0 0 184 [(0, .ref x0), (6, .int x6_28)] [.int s41] m39 := by
                      refine zr_istore [(5, .int s41), (0, .ref x0), (6, .int x6_28)] dX12_rules_184 (Nat.le_of_ble_eq_true rfl) rfl ?_
                      refine zr_iinc (j := 2) (x6_28 + 1) [(6, .int (x6_28 + 1)), (5, .int s41), (0, .ref x0)] dX12_rules_186 rfl rfl (Nat.le_of_ble_eq_true rfl) rfl ?_
                      refine zr_goto 155 dX12_rules_189 (by decide) ?_
                      exact zr_lv [2, 1, 0] rfl (ih31 s41 (x6_28 + 1) m39 hf)
                    clear hf
                    have hf := hg
                    clear hg
                    refine zr_icmp_ge 182 dX12_rules_174 (by decide) (fun hc => ?_) (fun hc => ?_)
                    · rw [if_pos hc] at hf
                      refine zr_iload 1 dX12_rules_182 rfl ?_
                      cases hf
                      exact zr_lv [0, 2] rfl hj42
                    · rw [if_neg hc] at hf
                      refine zr_iload 2 dX12_rules_177 rfl ?_
                      refine zr_goto 184 dX12_rules_179 (by decide) ?_
                      cases hf
                      exact zr_lv [0, 2] rfl hj42
              exact zr_lv [2, 1, 0] rfl (hL43 _ 0 1 m4 hf)
            · rw [if_neg hc] at hf
              refine zr_aload_n 0 dX12_rules_139 rfl ?_
              refine zr_iload_n 1 dX12_rules_140 rfl ?_
              refine zr_bipush 10 dX12_rules_141 (by decide) ?_
              refine zr_isub dX12_rules_143 ?_
              refine zr_iload_n 2 dX12_rules_144 rfl ?_
              replace hf := zb2_s hf
              obtain ⟨v46, m45, h44, hf⟩ := hf
              refine zr_callV (ci := 12) [.int (x2 - 10), .int x3_13] (cX12_comesOf_ok h44) zvs_X12_comesOf zl_1222 zl_1223 (fX12_comesOf_ck h44) rfl rfl zl_1221 rfl (Nat.le_of_ble_eq_true rfl) (Nat.le_of_ble_eq_true rfl) (Nat.le_of_ble_eq_true rfl) (Nat.le_of_ble_eq_true rfl) dX12_rules_145 rfl ?_
              cases hf
              exact zr_iret dX12_rules_148
          · rw [if_pos hc] at hf
            refine zr_iconst (-1) dX12_rules_132 (by decide) ?_
            cases hf
            exact zr_iret dX12_rules_133
        · rw [if_neg hc] at hf
          refine zr_iload_n 1 dX12_rules_103 rfl ?_
          replace hf := zb1_s hf
          obtain ⟨s47, hg, hf⟩ := hf
          have hj48 : zz K cX12_rules (7, RX12, some .int, 5, 0, 0, some (.int r), mo) 0 0 127 [] [.int s47] m4 := by
            cases hf
            exact zr_iret dX12_rules_127
          clear hf
          have hf := hg
          clear hg
          refine zr_if_ne 111 dX12_rules_104 (by decide) (fun hc => ?_) (fun hc => ?_)
          · rw [if_neg hc] at hf
            refine zr_iload_n 1 dX12_rules_111 rfl ?_
            refine zr_iconst 1 dX12_rules_112 (by decide) ?_
            refine zr_icmp_ne 125 dX12_rules_113 (by decide) (fun hc => ?_) (fun hc => ?_)
            · rw [if_neg hc] at hf
              refine zr_iload 3 dX12_rules_125 rfl ?_
              cases hf
              exact zr_lv [] rfl hj48
            · rw [if_pos hc] at hf
              refine zr_aload_n 0 dX12_rules_116 rfl ?_
              refine zr_iload 3 dX12_rules_117 rfl ?_
              replace hf := zb1_s hf
              obtain ⟨v50, h49, hf⟩ := hf
              refine zr_callV (ci := 12) [.int x4_14] (cX12_wrongs_ok h49) zvs_X12_wrongs zl_1206 zl_1207 (fX12_wrongs_ck h49) rfl rfl zl_1205 rfl (Nat.le_of_ble_eq_true rfl) (Nat.le_of_ble_eq_true rfl) (Nat.le_of_ble_eq_true rfl) (Nat.le_of_ble_eq_true rfl) dX12_rules_119 rfl ?_
              refine zr_goto 127 dX12_rules_122 (by decide) ?_
              cases hf
              exact zr_lv [] rfl hj48
          · rw [if_pos hc] at hf
            refine zr_iload_n 2 dX12_rules_107 rfl ?_
            refine zr_goto 127 dX12_rules_108 (by decide) ?_
            cases hf
            exact zr_lv [] rfl hj48
      clear hf
      have hf := hg
      clear hg
      have hL26 : ∀ (n : Nat) (x3_8 : Int32) (x4_9 : Int32) (x5_10 : Int32), zf3 (fX12_rules_l44 m4 x0) n x3_8 x4_9 x5_10 = some (x3_13, x4_14) → zz K cX12_rules (7, RX12, some .int, 5, 0, 0, some (.int r), mo) 0 0 44 [(0, .ref x0), (2, .int x2), (3, .int x3_8), (4, .int x4_9), (5, .int x5_10)] [] m4 := by
        intro n
        induction n with
        | zero => intro x3_8 x4_9 x5_10 hf; cases hf
        | succ n ih12 =>
          intro x3_8 x4_9 x5_10 hf
          replace hf := zf3_s hf
          generalize zf3 (fX12_rules_l44 m4 x0) n = F11 at hf ih12
          unfold fX12_rules_l44 at hf
          refine zr_iload 4 dX12_rules_44 rfl ?_
          refine zr_bipush 64 dX12_rules_46 (by decide) ?_
          refine zr_icmp_ge 98 dX12_rules_48 (by decide) (fun hc => ?_) (fun hc => ?_)
          · rw [if_pos hc] at hf
            cases hf
            exact zr_lv [0, 1, 2, 3] rfl hj15
          · rw [if_neg hc] at hf
            refine zr_iload_n 2 dX12_rules_51 rfl ?_
            refine zr_aload_n 0 dX12_rules_52 rfl ?_
            refine zr_iload 4 dX12_rules_53 rfl ?_
            replace hf := zb1_s hf
            obtain ⟨v17, h16, hf⟩ := hf
            refine zr_callV (ci := 12) [.int x5_10] (cX12_fits_ok h16) zvs_X12_fits zl_1210 zl_1211 (fX12_fits_ck h16) rfl rfl zl_1209 rfl (Nat.le_of_ble_eq_true rfl) (Nat.le_of_ble_eq_true rfl) (Nat.le_of_ble_eq_true rfl) (Nat.le_of_ble_eq_true rfl) dX12_rules_55 rfl ?_
            replace hf := zb1_s hf
            obtain ⟨s18, hg, hf⟩ := hf
            have hj19 : zz K cX12_rules (7, RX12, some .int, 5, 0, 0, some (.int r), mo) 0 0 66 [(0, .ref x0), (2, .int x2), (4, .int x4_9), (5, .int x5_10)] [.int s18, .int x3_8] m4 := by
              refine zr_iadd dX12_rules_66 ?_
              refine zr_istore_n [(3, .int (x3_8 + s18)), (0, .ref x0), (2, .int x2), (4, .int x4_9), (5, .int x5_10)] dX12_rules_67 (Nat.le_of_ble_eq_true rfl) rfl ?_
              refine zr_aload_n 1 dX12_rules_68 rfl ?_
              refine zr_iload 4 dX12_rules_69 rfl ?_
              replace hf := zb1_s hf
              obtain ⟨v21, h20, hf⟩ := hf
              refine zr_callV (ci := 12) [.int x5_10] (cX12_wrongs_ok h20) zvs_X12_wrongs zl_1206 zl_1207 (fX12_wrongs_ck h20) rfl rfl zl_1205 rfl (Nat.le_of_ble_eq_true rfl) (Nat.le_of_ble_eq_true rfl) (Nat.le_of_ble_eq_true rfl) (Nat.le_of_ble_eq_true rfl) dX12_rules_71 rfl ?_
              refine zr_aload_n 1 dX12_rules_74 rfl ?_
              refine zr_iload 3 dX12_rules_75 rfl ?_
              replace hf := zb1_s hf
              obtain ⟨v23, h22, hf⟩ := hf
              refine zr_callV (ci := 12) [.int x4_9] (cX12_wrongs_ok h22) zvs_X12_wrongs zl_1206 zl_1207 (fX12_wrongs_ck h22) rfl rfl zl_1205 rfl (Nat.le_of_ble_eq_true rfl) (Nat.le_of_ble_eq_true rfl) (Nat.le_of_ble_eq_true rfl) (Nat.le_of_ble_eq_true rfl) dX12_rules_77 rfl ?_
              replace hf := zb1_s hf
              obtain ⟨s24, hg, hf⟩ := hf
              have hj25 : zz K cX12_rules (7, RX12, some .int, 5, 0, 0, some (.int r), mo) 0 0 90 [(0, .ref x0), (2, .int x2), (3, .int (x3_8 + s18)), (5, .int x5_10)] [.int s24] m4 := by
                refine zr_istore [(4, .int s24), (0, .ref x0), (2, .int x2), (3, .int (x3_8 + s18)), (5, .int x5_10)] dX12_rules_90 (Nat.le_of_ble_eq_true rfl) rfl ?_
                refine zr_iinc (j := 4) (x5_10 + 1) [(5, .int (x5_10 + 1)), (4, .int s24), (0, .ref x0), (2, .int x2), (3, .int (x3_8 + s18))] dX12_rules_92 rfl rfl (Nat.le_of_ble_eq_true rfl) rfl ?_
                refine zr_goto 44 dX12_rules_95 (by decide) ?_
                exact zr_lv [2, 3, 4, 1, 0] rfl (ih12 (x3_8 + s18) s24 (x5_10 + 1) hf)
              clear hf
              have hf := hg
              clear hg
              refine zr_icmp_ge 88 dX12_rules_80 (by decide) (fun hc => ?_) (fun hc => ?_)
              · rw [if_pos hc] at hf
                refine zr_iload 3 dX12_rules_88 rfl ?_
                cases hf
                exact zr_lv [1, 2, 0, 4] rfl hj25
              · rw [if_neg hc] at hf
                refine zr_iload 4 dX12_rules_83 rfl ?_
                refine zr_goto 90 dX12_rules_85 (by decide) ?_
                cases hf
                exact zr_lv [1, 2, 0, 4] rfl hj25
            clear hf
            have hf := hg
            clear hg
            refine zr_if_eq 65 dX12_rules_58 (by decide) (fun hc => ?_) (fun hc => ?_)
            · rw [if_pos hc] at hf
              refine zr_iconst 0 dX12_rules_65 (by decide) ?_
              cases hf
              exact zr_lv [0, 1, 3, 4] rfl hj19
            · rw [if_neg hc] at hf
              refine zr_iconst 1 dX12_rules_61 (by decide) ?_
              refine zr_goto 66 dX12_rules_62 (by decide) ?_
              cases hf
              exact zr_lv [0, 1, 3, 4] rfl hj19
      exact zr_lv [3, 4, 2, 1, 0] rfl (hL26 _ 0 0 0 hf)
    refine zr_if_ne 36 dX12_rules_19 (by decide) (fun hc => ?_) (fun hc => ?_)
    · rw [if_neg hc] at hf
      exact zr_lv [0, 2] rfl (hb51 () hf)
    · rw [if_pos hc] at hf
      refine zr_iload_n 2 dX12_rules_22 rfl ?_
      refine zr_bipush 10 dX12_rules_23 (by decide) ?_
      refine zr_bipush 17 dX12_rules_25 (by decide) ?_
      replace hf := zb1_s hf
      obtain ⟨v53, h52, hf⟩ := hf
      refine zr_callS [.int x2, .int 10, .int 17] (cX12_in_ok h52) zvs_X12_in zl_898 zl_897 rfl (Nat.le_of_ble_eq_true rfl) (Nat.le_of_ble_eq_true rfl) (Nat.le_of_ble_eq_true rfl) (Nat.le_of_ble_eq_true rfl) dX12_rules_27 rfl ?_
      refine zr_if_ne 36 dX12_rules_30 (by decide) (fun hc => ?_) (fun hc => ?_)
      · rw [if_neg hc] at hf
        exact zr_lv [0, 2] rfl (hb51 () hf)
      · rw [if_pos hc] at hf
        refine zr_bipush (-2) dX12_rules_33 (by decide) ?_
        cases hf
        exact zr_iret dX12_rules_35
theorem zl_1224 : Cond.fieldLink RX12 454 "TwoEchoesModel" "sight" "I" ∈ zt := zt_at 1387 (by decide +kernel)
theorem dX12_facts_0 : decode cX12_facts 0 = .ok (.aload_n 0, 1) := by decide +kernel
theorem dX12_facts_1 : decode cX12_facts 1 = .ok (.getfield 35, 3) := by decide +kernel
theorem dX12_facts_4 : decode cX12_facts 4 = .ok (.bipush 33, 2) := by decide +kernel
theorem dX12_facts_6 : decode cX12_facts 6 = .ok (.aload_n 0, 1) := by decide +kernel
theorem dX12_facts_7 : decode cX12_facts 7 = .ok (.getfield 454, 3) := by decide +kernel
theorem dX12_facts_10 : decode cX12_facts 10 = .ok (.imul, 1) := by decide +kernel
theorem dX12_facts_11 : decode cX12_facts 11 = .ok (.iaload, 1) := by decide +kernel
theorem dX12_facts_12 : decode cX12_facts 12 = .ok (.ireturn, 1) := by decide +kernel
noncomputable def fX12_facts (μ : zM) (x0 : Nat) : Option (Int32) := zgd (zm_ck μ 12 x0) <|
  zb1 (zm_gR μ 12 x0 9) fun v1 =>
  zb1 (zm_gI μ 12 x0 46) fun v3 =>
  zb1 (zm_aI μ 0 v1 (33 * v3)) fun v5 =>
  some v5
theorem fX12_facts_ck {μ : zM} {x0 : Nat} {z : Int32} (h : fX12_facts μ x0 = some z) : zm_ck μ 12 x0 = true := (zgd_s h).1
set_option maxHeartbeats 4000000 in
set_option maxRecDepth 100000 in
theorem cX12_facts_ok {μ : zM} {x0 : Nat} {r : Int32} (hf : fX12_facts μ x0 = some r) : zC yX12_facts cX12_facts 1 (some .int) 0 0 0 [.ref x0] μ (some (.int r)) μ := by
  replace hf := (zgd_s hf).2
  refine zC.of (by decide) (Nat.le_of_ble_eq_true rfl) (fun K hin => ?_)
  clear hin
  show zz K cX12_facts (1, RX12, some .int, 0, 0, 0, some (.int r), μ) 0 0 0 [(0, .ref x0)] [] μ
  refine zr_aload_n 0 dX12_facts_0 rfl ?_
  replace hf := zb1_s hf
  obtain ⟨v1, h2, hf⟩ := hf
  refine zr_get (zm_gR_g h2) zk12 (by decide) zl_872 dX12_facts_1 ?_
  refine zr_bipush 33 dX12_facts_4 (by decide) ?_
  refine zr_aload_n 0 dX12_facts_6 rfl ?_
  replace hf := zb1_s hf
  obtain ⟨v3, h4, hf⟩ := hf
  refine zr_get (zm_gI_g h4) zk12 (by decide) zl_1224 dX12_facts_7 ?_
  refine zr_imul dX12_facts_10 ?_
  replace hf := zb1_s hf
  obtain ⟨v5, h6, hf⟩ := hf
  refine zr_iald h6 dX12_facts_11 ?_
  cases hf
  exact zr_iret dX12_facts_12
theorem dX12_factOf_0 : decode cX12_factOf 0 = .ok (.aload_n 0, 1) := by decide +kernel
theorem dX12_factOf_1 : decode cX12_factOf 1 = .ok (.getfield 35, 3) := by decide +kernel
theorem dX12_factOf_4 : decode cX12_factOf 4 = .ok (.bipush 33, 2) := by decide +kernel
theorem dX12_factOf_6 : decode cX12_factOf 6 = .ok (.aload_n 0, 1) := by decide +kernel
theorem dX12_factOf_7 : decode cX12_factOf 7 = .ok (.getfield 454, 3) := by decide +kernel
theorem dX12_factOf_10 : decode cX12_factOf 10 = .ok (.imul, 1) := by decide +kernel
theorem dX12_factOf_11 : decode cX12_factOf 11 = .ok (.iconst 1, 1) := by decide +kernel
theorem dX12_factOf_12 : decode cX12_factOf 12 = .ok (.iadd, 1) := by decide +kernel
theorem dX12_factOf_13 : decode cX12_factOf 13 = .ok (.iconst 4, 1) := by decide +kernel
theorem dX12_factOf_14 : decode cX12_factOf 14 = .ok (.iload_n 1, 1) := by decide +kernel
theorem dX12_factOf_15 : decode cX12_factOf 15 = .ok (.imul, 1) := by decide +kernel
theorem dX12_factOf_16 : decode cX12_factOf 16 = .ok (.iadd, 1) := by decide +kernel
theorem dX12_factOf_17 : decode cX12_factOf 17 = .ok (.iload_n 2, 1) := by decide +kernel
theorem dX12_factOf_18 : decode cX12_factOf 18 = .ok (.iadd, 1) := by decide +kernel
theorem dX12_factOf_19 : decode cX12_factOf 19 = .ok (.iaload, 1) := by decide +kernel
theorem dX12_factOf_20 : decode cX12_factOf 20 = .ok (.ireturn, 1) := by decide +kernel
noncomputable def fX12_factOf (μ : zM) (x0 : Nat) (x1 : Int32) (x2 : Int32) : Option (Int32) := zgd (zm_ck μ 12 x0) <|
  zb1 (zm_gR μ 12 x0 9) fun v1 =>
  zb1 (zm_gI μ 12 x0 46) fun v3 =>
  zb1 (zm_aI μ 0 v1 ((((33 * v3) + 1) + (4 * x1)) + x2)) fun v5 =>
  some v5
theorem fX12_factOf_ck {μ : zM} {x0 : Nat} {x1 : Int32} {x2 : Int32} {z : Int32} (h : fX12_factOf μ x0 x1 x2 = some z) : zm_ck μ 12 x0 = true := (zgd_s h).1
set_option maxHeartbeats 4000000 in
set_option maxRecDepth 100000 in
theorem cX12_factOf_ok {μ : zM} {x0 : Nat} {x1 : Int32} {x2 : Int32} {r : Int32} (hf : fX12_factOf μ x0 x1 x2 = some r) : zC yX12_factOf cX12_factOf 3 (some .int) 0 0 0 [.ref x0, .int x1, .int x2] μ (some (.int r)) μ := by
  replace hf := (zgd_s hf).2
  refine zC.of (by decide) (Nat.le_of_ble_eq_true rfl) (fun K hin => ?_)
  clear hin
  show zz K cX12_factOf (3, RX12, some .int, 0, 0, 0, some (.int r), μ) 0 0 0 [(0, .ref x0), (1, .int x1), (2, .int x2)] [] μ
  refine zr_aload_n 0 dX12_factOf_0 rfl ?_
  replace hf := zb1_s hf
  obtain ⟨v1, h2, hf⟩ := hf
  refine zr_get (zm_gR_g h2) zk12 (by decide) zl_872 dX12_factOf_1 ?_
  refine zr_bipush 33 dX12_factOf_4 (by decide) ?_
  refine zr_aload_n 0 dX12_factOf_6 rfl ?_
  replace hf := zb1_s hf
  obtain ⟨v3, h4, hf⟩ := hf
  refine zr_get (zm_gI_g h4) zk12 (by decide) zl_1224 dX12_factOf_7 ?_
  refine zr_imul dX12_factOf_10 ?_
  refine zr_iconst 1 dX12_factOf_11 (by decide) ?_
  refine zr_iadd dX12_factOf_12 ?_
  refine zr_iconst 4 dX12_factOf_13 (by decide) ?_
  refine zr_iload_n 1 dX12_factOf_14 rfl ?_
  refine zr_imul dX12_factOf_15 ?_
  refine zr_iadd dX12_factOf_16 ?_
  refine zr_iload_n 2 dX12_factOf_17 rfl ?_
  refine zr_iadd dX12_factOf_18 ?_
  replace hf := zb1_s hf
  obtain ⟨v5, h6, hf⟩ := hf
  refine zr_iald h6 dX12_factOf_19 ?_
  cases hf
  exact zr_iret dX12_factOf_20
theorem dX12_hasSight_0 : decode cX12_hasSight 0 = .ok (.aload_n 0, 1) := by decide +kernel
theorem dX12_hasSight_1 : decode cX12_hasSight 1 = .ok (.iload_n 1, 1) := by decide +kernel
theorem dX12_hasSight_2 : decode cX12_hasSight 2 = .ok (.putfield 454, 3) := by decide +kernel
theorem dX12_hasSight_5 : decode cX12_hasSight 5 = .ok (.aload_n 0, 1) := by decide +kernel
theorem dX12_hasSight_6 : decode cX12_hasSight 6 = .ok (.iconst 3, 1) := by decide +kernel
theorem dX12_hasSight_7 : decode cX12_hasSight 7 = .ok (.iload_n 1, 1) := by decide +kernel
theorem dX12_hasSight_8 : decode cX12_hasSight 8 = .ok (.invokevirtual 256, 3) := by decide +kernel
theorem dX12_hasSight_11 : decode cX12_hasSight 11 = .ok (.ireturn, 1) := by decide +kernel
noncomputable def fX12_hasSight (μ : zM) (x0 : Nat) (x1 : Int32) : Option (Int32 × zM) := zgd (zm_ck μ 12 x0) <|
  zb1 (zm_p μ 12 x0 46 (.int x1)) fun m1 =>
  zb1 (fX12_is m1 x0 3 x1) fun v4 =>
  zb1 (zbz v4) fun v5 =>
  some (v5, m1)
theorem fX12_hasSight_ck {μ : zM} {x0 : Nat} {x1 : Int32} {z : Int32 × zM} (h : fX12_hasSight μ x0 x1 = some z) : zm_ck μ 12 x0 = true := (zgd_s h).1
set_option maxHeartbeats 4000000 in
set_option maxRecDepth 100000 in
theorem cX12_hasSight_ok {μ : zM} {x0 : Nat} {x1 : Int32} {r : Int32} {mo : zM} (hf : fX12_hasSight μ x0 x1 = some (r, mo)) : zC yX12_hasSight cX12_hasSight 2 (some .boolean) 2 0 0 [.ref x0, .int x1] μ (some (.int r)) mo := by
  replace hf := (zgd_s hf).2
  refine zC.of (by decide) (Nat.le_of_ble_eq_true rfl) (fun K hin => ?_)
  clear hin
  show zz K cX12_hasSight (2, RX12, some .boolean, 2, 0, 0, some (.int r), mo) 0 0 0 [(0, .ref x0), (1, .int x1)] [] μ
  refine zr_aload_n 0 dX12_hasSight_0 rfl ?_
  refine zr_iload_n 1 dX12_hasSight_1 rfl ?_
  replace hf := zb1_s hf
  obtain ⟨m1, h2, hf⟩ := hf
  refine zr_put h2 zk12 (by decide) zl_1224 rfl rfl rfl dX12_hasSight_2 ?_
  refine zr_aload_n 0 dX12_hasSight_5 rfl ?_
  refine zr_iconst 3 dX12_hasSight_6 (by decide) ?_
  refine zr_iload_n 1 dX12_hasSight_7 rfl ?_
  replace hf := zb1_s hf
  obtain ⟨v4, h3, hf⟩ := hf
  refine zr_callV (ci := 12) [.int 3, .int x1] (cX12_is_ok h3) zvs_X12_is zl_1024 zl_1025 (fX12_is_ck h3) rfl rfl zl_1023 rfl (Nat.le_of_ble_eq_true rfl) (Nat.le_of_ble_eq_true rfl) (Nat.le_of_ble_eq_true rfl) (Nat.le_of_ble_eq_true rfl) dX12_hasSight_8 rfl ?_
  replace hf := zb1_s hf
  obtain ⟨v5, hn6, hf⟩ := hf
  replace hn6 := zbz_s hn6
  obtain ⟨hn6, rfl⟩ := hn6
  cases hf
  exact zr_zret hn6 dX12_hasSight_11
theorem zl_1225 : Cond.code yX12_hasSight cX12_hasSight 2 (some .boolean) ∈ zt := zt_at 1892 (by decide +kernel)
theorem zvs_X12_hasSight : zvS yX12_hasSight cX12_hasSight 2 (some .boolean) 1 := ⟨zl_1225, zl_893, ⟨by decide +kernel, by decide +kernel, by decide +kernel⟩, by decide⟩
theorem zl_1226 : Cond.methodLink RX12 457 yX12_hasSight ∈ zt := zt_at 1889 (by decide +kernel)
theorem zl_1227 : Cond.instanceMethod yX12_hasSight ∈ zt := zt_at 1891 (by decide +kernel)
theorem zl_1228 : Cond.selects RX12 yX12_hasSight yX12_hasSight ∈ zt := zt_at 109 (by decide +kernel)
theorem zl_1229 : Cond.code yX12_facts cX12_facts 1 (some .int) ∈ zt := zt_at 1896 (by decide +kernel)
theorem zvs_X12_facts : zvS yX12_facts cX12_facts 1 (some .int) 0 := ⟨zl_1229, zl_893, ⟨by decide +kernel, by decide +kernel, by decide +kernel⟩, by decide⟩
theorem zl_1230 : Cond.methodLink RX12 460 yX12_facts ∈ zt := zt_at 1893 (by decide +kernel)
theorem zl_1231 : Cond.instanceMethod yX12_facts ∈ zt := zt_at 1895 (by decide +kernel)
theorem zl_1232 : Cond.selects RX12 yX12_facts yX12_facts ∈ zt := zt_at 110 (by decide +kernel)
theorem zl_1233 : Cond.code yX12_factOf cX12_factOf 3 (some .int) ∈ zt := zt_at 1900 (by decide +kernel)
theorem zvs_X12_factOf : zvS yX12_factOf cX12_factOf 3 (some .int) 2 := ⟨zl_1233, zl_893, ⟨by decide +kernel, by decide +kernel, by decide +kernel⟩, by decide⟩
theorem zl_1234 : Cond.methodLink RX12 463 yX12_factOf ∈ zt := zt_at 1897 (by decide +kernel)
theorem zl_1235 : Cond.instanceMethod yX12_factOf ∈ zt := zt_at 1899 (by decide +kernel)
theorem zl_1236 : Cond.selects RX12 yX12_factOf yX12_factOf ∈ zt := zt_at 111 (by decide +kernel)
theorem dX12_fact_0 : decode cX12_fact 0 = .ok (.aload_n 0, 1) := by decide +kernel
theorem dX12_fact_1 : decode cX12_fact 1 = .ok (.iconst 0, 1) := by decide +kernel
theorem dX12_fact_2 : decode cX12_fact 2 = .ok (.putfield 93, 3) := by decide +kernel
theorem dX12_fact_5 : decode cX12_fact 5 = .ok (.aload_n 0, 1) := by decide +kernel
theorem dX12_fact_6 : decode cX12_fact 6 = .ok (.iload_n 1, 1) := by decide +kernel
theorem dX12_fact_7 : decode cX12_fact 7 = .ok (.invokevirtual 457, 3) := by decide +kernel
theorem dX12_fact_10 : decode cX12_fact 10 = .ok (.ifCond .ne 6, 3) := by decide +kernel
theorem dX12_fact_13 : decode cX12_fact 13 = .ok (.bipush (-2), 2) := by decide +kernel
theorem dX12_fact_15 : decode cX12_fact 15 = .ok (.ireturn, 1) := by decide +kernel
theorem dX12_fact_16 : decode cX12_fact 16 = .ok (.iload_n 2, 1) := by decide +kernel
theorem dX12_fact_17 : decode cX12_fact 17 = .ok (.iconst (-1), 1) := by decide +kernel
theorem dX12_fact_18 : decode cX12_fact 18 = .ok (.if_icmp .ne 17, 3) := by decide +kernel
theorem dX12_fact_21 : decode cX12_fact 21 = .ok (.iload_n 3, 1) := by decide +kernel
theorem dX12_fact_22 : decode cX12_fact 22 = .ok (.ifCond .ne 10, 3) := by decide +kernel
theorem dX12_fact_25 : decode cX12_fact 25 = .ok (.aload_n 0, 1) := by decide +kernel
theorem dX12_fact_26 : decode cX12_fact 26 = .ok (.invokevirtual 460, 3) := by decide +kernel
theorem dX12_fact_29 : decode cX12_fact 29 = .ok (.goto 5, 3) := by decide +kernel
theorem dX12_fact_32 : decode cX12_fact 32 = .ok (.bipush (-2), 2) := by decide +kernel
theorem dX12_fact_34 : decode cX12_fact 34 = .ok (.ireturn, 1) := by decide +kernel
theorem dX12_fact_35 : decode cX12_fact 35 = .ok (.iload_n 2, 1) := by decide +kernel
theorem dX12_fact_36 : decode cX12_fact 36 = .ok (.iconst 0, 1) := by decide +kernel
theorem dX12_fact_37 : decode cX12_fact 37 = .ok (.aload_n 0, 1) := by decide +kernel
theorem dX12_fact_38 : decode cX12_fact 38 = .ok (.invokevirtual 460, 3) := by decide +kernel
theorem dX12_fact_41 : decode cX12_fact 41 = .ok (.iconst 1, 1) := by decide +kernel
theorem dX12_fact_42 : decode cX12_fact 42 = .ok (.isub, 1) := by decide +kernel
theorem dX12_fact_43 : decode cX12_fact 43 = .ok (.invokestatic 101, 3) := by decide +kernel
theorem dX12_fact_46 : decode cX12_fact 46 = .ok (.ifCond .eq 21, 3) := by decide +kernel
theorem dX12_fact_49 : decode cX12_fact 49 = .ok (.iload_n 3, 1) := by decide +kernel
theorem dX12_fact_50 : decode cX12_fact 50 = .ok (.iconst 0, 1) := by decide +kernel
theorem dX12_fact_51 : decode cX12_fact 51 = .ok (.iconst 3, 1) := by decide +kernel
theorem dX12_fact_52 : decode cX12_fact 52 = .ok (.invokestatic 101, 3) := by decide +kernel
theorem dX12_fact_55 : decode cX12_fact 55 = .ok (.ifCond .eq 12, 3) := by decide +kernel
theorem dX12_fact_58 : decode cX12_fact 58 = .ok (.aload_n 0, 1) := by decide +kernel
theorem dX12_fact_59 : decode cX12_fact 59 = .ok (.iload_n 2, 1) := by decide +kernel
theorem dX12_fact_60 : decode cX12_fact 60 = .ok (.iload_n 3, 1) := by decide +kernel
theorem dX12_fact_61 : decode cX12_fact 61 = .ok (.invokevirtual 463, 3) := by decide +kernel
theorem dX12_fact_64 : decode cX12_fact 64 = .ok (.goto 5, 3) := by decide +kernel
theorem dX12_fact_67 : decode cX12_fact 67 = .ok (.bipush (-2), 2) := by decide +kernel
theorem dX12_fact_69 : decode cX12_fact 69 = .ok (.ireturn, 1) := by decide +kernel
noncomputable def fX12_fact (μ : zM) (x0 : Nat) (x1 : Int32) (x2 : Int32) (x3 : Int32) : Option (Int32 × zM) := zgd (zm_ck μ 12 x0) <|
  zb1 (zm_p μ 12 x0 0 (.int 0)) fun m1 =>
  zb2 (fX12_hasSight m1 x0 x1) fun v5 m4 =>
  if v5 = 0 then (
  some ((-2), m4))
  else (
  if x2 = (-1) then (
  zb1 (if x3 = 0 then (
  zb1 (fX12_facts m4 x0) fun v19 =>
  some v19)
  else (
  some (-2)) : Option (Int32)) fun (s16 : Int32) =>
  some (s16, m4))
  else (
  zb1 (fX12_facts m4 x0) fun v7 =>
  zb1 (fX12_in m4 x2 0 (v7 - 1)) fun v9 =>
  zb1 (if v9 = 0 then (
  some (-2))
  else (
  zb1 (fX12_in m4 x3 0 3) fun v13 =>
  if v13 = 0 then (
  some (-2))
  else (
  zb1 (fX12_factOf m4 x0 x2 x3) fun v15 =>
  some v15)) : Option (Int32)) fun (s10 : Int32) =>
  some (s10, m4)))
theorem fX12_fact_ck {μ : zM} {x0 : Nat} {x1 : Int32} {x2 : Int32} {x3 : Int32} {z : Int32 × zM} (h : fX12_fact μ x0 x1 x2 x3 = some z) : zm_ck μ 12 x0 = true := (zgd_s h).1
set_option maxHeartbeats 4000000 in
set_option maxRecDepth 100000 in
theorem cX12_fact_ok {μ : zM} {x0 : Nat} {x1 : Int32} {x2 : Int32} {x3 : Int32} {r : Int32} {mo : zM} (hf : fX12_fact μ x0 x1 x2 x3 = some (r, mo)) : zC yX12_fact cX12_fact 4 (some .int) 3 0 0 [.ref x0, .int x1, .int x2, .int x3] μ (some (.int r)) mo := by
  replace hf := (zgd_s hf).2
  refine zC.of (by decide) (Nat.le_of_ble_eq_true rfl) (fun K hin => ?_)
  clear hin
  show zz K cX12_fact (4, RX12, some .int, 3, 0, 0, some (.int r), mo) 0 0 0 [(0, .ref x0), (1, .int x1), (2, .int x2), (3, .int x3)] [] μ
  refine zr_aload_n 0 dX12_fact_0 rfl ?_
  refine zr_iconst 0 dX12_fact_1 (by decide) ?_
  replace hf := zb1_s hf
  obtain ⟨m1, h2, hf⟩ := hf
  refine zr_put h2 zk12 (by decide) zl_899 rfl rfl rfl dX12_fact_2 ?_
  refine zr_aload_n 0 dX12_fact_5 rfl ?_
  refine zr_iload_n 1 dX12_fact_6 rfl ?_
  replace hf := zb2_s hf
  obtain ⟨v5, m4, h3, hf⟩ := hf
  refine zr_callV (ci := 12) [.int x1] (cX12_hasSight_ok h3) zvs_X12_hasSight zl_1227 zl_1228 (fX12_hasSight_ck h3) rfl rfl zl_1226 rfl (Nat.le_of_ble_eq_true rfl) (Nat.le_of_ble_eq_true rfl) (Nat.le_of_ble_eq_true rfl) (Nat.le_of_ble_eq_true rfl) dX12_fact_7 rfl ?_
  refine zr_if_ne 16 dX12_fact_10 (by decide) (fun hc => ?_) (fun hc => ?_)
  · rw [if_neg hc] at hf
    refine zr_iload_n 2 dX12_fact_16 rfl ?_
    refine zr_iconst (-1) dX12_fact_17 (by decide) ?_
    refine zr_icmp_ne 35 dX12_fact_18 (by decide) (fun hc => ?_) (fun hc => ?_)
    · rw [if_neg hc] at hf
      refine zr_iload_n 2 dX12_fact_35 rfl ?_
      refine zr_iconst 0 dX12_fact_36 (by decide) ?_
      refine zr_aload_n 0 dX12_fact_37 rfl ?_
      replace hf := zb1_s hf
      obtain ⟨v7, h6, hf⟩ := hf
      refine zr_callV (ci := 12) [] (cX12_facts_ok h6) zvs_X12_facts zl_1231 zl_1232 (fX12_facts_ck h6) rfl rfl zl_1230 rfl (Nat.le_of_ble_eq_true rfl) (Nat.le_of_ble_eq_true rfl) (Nat.le_of_ble_eq_true rfl) (Nat.le_of_ble_eq_true rfl) dX12_fact_38 rfl ?_
      refine zr_iconst 1 dX12_fact_41 (by decide) ?_
      refine zr_isub dX12_fact_42 ?_
      replace hf := zb1_s hf
      obtain ⟨v9, h8, hf⟩ := hf
      refine zr_callS [.int x2, .int 0, .int (v7 - 1)] (cX12_in_ok h8) zvs_X12_in zl_898 zl_897 rfl (Nat.le_of_ble_eq_true rfl) (Nat.le_of_ble_eq_true rfl) (Nat.le_of_ble_eq_true rfl) (Nat.le_of_ble_eq_true rfl) dX12_fact_43 rfl ?_
      replace hf := zb1_s hf
      obtain ⟨s10, hg, hf⟩ := hf
      have hj11 : zz K cX12_fact (4, RX12, some .int, 3, 0, 0, some (.int r), mo) 0 0 69 [] [.int s10] m4 := by
        cases hf
        exact zr_iret dX12_fact_69
      clear hf
      have hf := hg
      clear hg
      refine zr_if_eq 67 dX12_fact_46 (by decide) (fun hc => ?_) (fun hc => ?_)
      · rw [if_pos hc] at hf
        refine zr_bipush (-2) dX12_fact_67 (by decide) ?_
        cases hf
        exact zr_lv [] rfl hj11
      · rw [if_neg hc] at hf
        refine zr_iload_n 3 dX12_fact_49 rfl ?_
        refine zr_iconst 0 dX12_fact_50 (by decide) ?_
        refine zr_iconst 3 dX12_fact_51 (by decide) ?_
        replace hf := zb1_s hf
        obtain ⟨v13, h12, hf⟩ := hf
        refine zr_callS [.int x3, .int 0, .int 3] (cX12_in_ok h12) zvs_X12_in zl_898 zl_897 rfl (Nat.le_of_ble_eq_true rfl) (Nat.le_of_ble_eq_true rfl) (Nat.le_of_ble_eq_true rfl) (Nat.le_of_ble_eq_true rfl) dX12_fact_52 rfl ?_
        refine zr_if_eq 67 dX12_fact_55 (by decide) (fun hc => ?_) (fun hc => ?_)
        · rw [if_pos hc] at hf
          refine zr_bipush (-2) dX12_fact_67 (by decide) ?_
          cases hf
          exact zr_lv [] rfl hj11
        · rw [if_neg hc] at hf
          refine zr_aload_n 0 dX12_fact_58 rfl ?_
          refine zr_iload_n 2 dX12_fact_59 rfl ?_
          refine zr_iload_n 3 dX12_fact_60 rfl ?_
          replace hf := zb1_s hf
          obtain ⟨v15, h14, hf⟩ := hf
          refine zr_callV (ci := 12) [.int x2, .int x3] (cX12_factOf_ok h14) zvs_X12_factOf zl_1235 zl_1236 (fX12_factOf_ck h14) rfl rfl zl_1234 rfl (Nat.le_of_ble_eq_true rfl) (Nat.le_of_ble_eq_true rfl) (Nat.le_of_ble_eq_true rfl) (Nat.le_of_ble_eq_true rfl) dX12_fact_61 rfl ?_
          refine zr_goto 69 dX12_fact_64 (by decide) ?_
          cases hf
          exact zr_lv [] rfl hj11
    · rw [if_pos hc] at hf
      refine zr_iload_n 3 dX12_fact_21 rfl ?_
      replace hf := zb1_s hf
      obtain ⟨s16, hg, hf⟩ := hf
      have hj17 : zz K cX12_fact (4, RX12, some .int, 3, 0, 0, some (.int r), mo) 0 0 34 [] [.int s16] m4 := by
        cases hf
        exact zr_iret dX12_fact_34
      clear hf
      have hf := hg
      clear hg
      refine zr_if_ne 32 dX12_fact_22 (by decide) (fun hc => ?_) (fun hc => ?_)
      · rw [if_neg hc] at hf
        refine zr_bipush (-2) dX12_fact_32 (by decide) ?_
        cases hf
        exact zr_lv [] rfl hj17
      · rw [if_pos hc] at hf
        refine zr_aload_n 0 dX12_fact_25 rfl ?_
        replace hf := zb1_s hf
        obtain ⟨v19, h18, hf⟩ := hf
        refine zr_callV (ci := 12) [] (cX12_facts_ok h18) zvs_X12_facts zl_1231 zl_1232 (fX12_facts_ck h18) rfl rfl zl_1230 rfl (Nat.le_of_ble_eq_true rfl) (Nat.le_of_ble_eq_true rfl) (Nat.le_of_ble_eq_true rfl) (Nat.le_of_ble_eq_true rfl) dX12_fact_26 rfl ?_
        refine zr_goto 34 dX12_fact_29 (by decide) ?_
        cases hf
        exact zr_lv [] rfl hj17
  · rw [if_pos hc] at hf
    refine zr_bipush (-2) dX12_fact_13 (by decide) ?_
    cases hf
    exact zr_iret dX12_fact_15
theorem dX12_laySight_0 : decode cX12_laySight 0 = .ok (.aload_n 0, 1) := by decide +kernel
theorem dX12_laySight_1 : decode cX12_laySight 1 = .ok (.iload_n 2, 1) := by decide +kernel
theorem dX12_laySight_2 : decode cX12_laySight 2 = .ok (.invokevirtual 457, 3) := by decide +kernel
theorem dX12_laySight_5 : decode cX12_laySight 5 = .ok (.ifCond .eq 11, 3) := by decide +kernel
theorem dX12_laySight_8 : decode cX12_laySight 8 = .ok (.aload_n 0, 1) := by decide +kernel
theorem dX12_laySight_9 : decode cX12_laySight 9 = .ok (.iload_n 1, 1) := by decide +kernel
theorem dX12_laySight_10 : decode cX12_laySight 10 = .ok (.invokevirtual 298, 3) := by decide +kernel
theorem dX12_laySight_13 : decode cX12_laySight 13 = .ok (.ifCond .ne 5, 3) := by decide +kernel
theorem dX12_laySight_16 : decode cX12_laySight 16 = .ok (.iconst 0, 1) := by decide +kernel
theorem dX12_laySight_17 : decode cX12_laySight 17 = .ok (.ireturn, 1) := by decide +kernel
theorem dX12_laySight_18 : decode cX12_laySight 18 = .ok (.iconst 0, 1) := by decide +kernel
theorem dX12_laySight_19 : decode cX12_laySight 19 = .ok (.istore_n 3, 1) := by decide +kernel
theorem dX12_laySight_20 : decode cX12_laySight 20 = .ok (.iload_n 3, 1) := by decide +kernel
theorem dX12_laySight_21 : decode cX12_laySight 21 = .ok (.aload_n 0, 1) := by decide +kernel
theorem dX12_laySight_22 : decode cX12_laySight 22 = .ok (.invokevirtual 460, 3) := by decide +kernel
theorem dX12_laySight_25 : decode cX12_laySight 25 = .ok (.if_icmp .ge 24, 3) := by decide +kernel
theorem dX12_laySight_28 : decode cX12_laySight 28 = .ok (.aload_n 0, 1) := by decide +kernel
theorem dX12_laySight_29 : decode cX12_laySight 29 = .ok (.aload_n 0, 1) := by decide +kernel
theorem dX12_laySight_30 : decode cX12_laySight 30 = .ok (.iload_n 3, 1) := by decide +kernel
theorem dX12_laySight_31 : decode cX12_laySight 31 = .ok (.iconst 1, 1) := by decide +kernel
theorem dX12_laySight_32 : decode cX12_laySight 32 = .ok (.invokevirtual 463, 3) := by decide +kernel
theorem dX12_laySight_35 : decode cX12_laySight 35 = .ok (.invokevirtual 304, 3) := by decide +kernel
theorem dX12_laySight_38 : decode cX12_laySight 38 = .ok (.ifCond .ne 5, 3) := by decide +kernel
theorem dX12_laySight_41 : decode cX12_laySight 41 = .ok (.iconst 0, 1) := by decide +kernel
theorem dX12_laySight_42 : decode cX12_laySight 42 = .ok (.ireturn, 1) := by decide +kernel
theorem dX12_laySight_43 : decode cX12_laySight 43 = .ok (.iinc 3 1, 3) := by decide +kernel
theorem dX12_laySight_46 : decode cX12_laySight 46 = .ok (.goto (-26), 3) := by decide +kernel
theorem dX12_laySight_49 : decode cX12_laySight 49 = .ok (.iconst 1, 1) := by decide +kernel
theorem dX12_laySight_50 : decode cX12_laySight 50 = .ok (.ireturn, 1) := by decide +kernel
noncomputable def fX12_laySight_l20 (m5 : zM) (x0 : Nat) (F8 : Int32 → Option (Int32 × zM)) (x3_7 : Int32) : Option (Int32 × zM) :=
  zb1 (fX12_facts m5 x0) fun v11 =>
  if v11 ≤ x3_7 then (
  some (1, m5))
  else (
  zb1 (fX12_factOf m5 x0 x3_7 1) fun v13 =>
  zb1 (fX12_isPlace m5 x0 v13) fun v15 =>
  if v15 = 0 then (
  some (0, m5))
  else (
  F8 (x3_7 + 1)))
noncomputable def fX12_laySight (μ : zM) (x0 : Nat) (x1 : Int32) (x2 : Int32) : Option (Int32 × zM) := zgd (zm_ck μ 12 x0) <|
  zb2 (fX12_hasSight μ x0 x2) fun v3 m2 =>
  if v3 = 0 then (
  some (0, m2))
  else (
  zb2 (fX12_hand m2 x0 x1) fun v6 m5 =>
  if v6 = 0 then (
  some (0, m5))
  else (
  zf1 (fX12_laySight_l20 m5 x0) zfu 0))
theorem fX12_laySight_ck {μ : zM} {x0 : Nat} {x1 : Int32} {x2 : Int32} {z : Int32 × zM} (h : fX12_laySight μ x0 x1 x2 = some z) : zm_ck μ 12 x0 = true := (zgd_s h).1
set_option maxHeartbeats 4000000 in
set_option maxRecDepth 100000 in
theorem cX12_laySight_ok {μ : zM} {x0 : Nat} {x1 : Int32} {x2 : Int32} {r : Int32} {mo : zM} (hf : fX12_laySight μ x0 x1 x2 = some (r, mo)) : zC yX12_laySight cX12_laySight 4 (some .boolean) 3 0 0 [.ref x0, .int x1, .int x2] μ (some (.int r)) mo := by
  replace hf := (zgd_s hf).2
  refine zC.of (by decide) (Nat.le_of_ble_eq_true rfl) (fun K hin => ?_)
  clear hin
  show zz K cX12_laySight (4, RX12, some .boolean, 3, 0, 0, some (.int r), mo) 0 0 0 [(0, .ref x0), (1, .int x1), (2, .int x2)] [] μ
  refine zr_aload_n 0 dX12_laySight_0 rfl ?_
  refine zr_iload_n 2 dX12_laySight_1 rfl ?_
  replace hf := zb2_s hf
  obtain ⟨v3, m2, h1, hf⟩ := hf
  refine zr_callV (ci := 12) [.int x2] (cX12_hasSight_ok h1) zvs_X12_hasSight zl_1227 zl_1228 (fX12_hasSight_ck h1) rfl rfl zl_1226 rfl (Nat.le_of_ble_eq_true rfl) (Nat.le_of_ble_eq_true rfl) (Nat.le_of_ble_eq_true rfl) (Nat.le_of_ble_eq_true rfl) dX12_laySight_2 rfl ?_
  refine zr_if_eq 16 dX12_laySight_5 (by decide) (fun hc => ?_) (fun hc => ?_)
  · rw [if_pos hc] at hf
    refine zr_iconst 0 dX12_laySight_16 (by decide) ?_
    cases hf
    exact zr_zret rfl dX12_laySight_17
  · rw [if_neg hc] at hf
    refine zr_aload_n 0 dX12_laySight_8 rfl ?_
    refine zr_iload_n 1 dX12_laySight_9 rfl ?_
    replace hf := zb2_s hf
    obtain ⟨v6, m5, h4, hf⟩ := hf
    refine zr_callV (ci := 12) [.int x1] (cX12_hand_ok h4) zvs_X12_hand zl_1057 zl_1058 (fX12_hand_ck h4) rfl rfl zl_1056 rfl (Nat.le_of_ble_eq_true rfl) (Nat.le_of_ble_eq_true rfl) (Nat.le_of_ble_eq_true rfl) (Nat.le_of_ble_eq_true rfl) dX12_laySight_10 rfl ?_
    refine zr_if_ne 18 dX12_laySight_13 (by decide) (fun hc => ?_) (fun hc => ?_)
    · rw [if_neg hc] at hf
      refine zr_iconst 0 dX12_laySight_18 (by decide) ?_
      refine zr_istore_n [(3, .int 0), (0, .ref x0), (1, .int x1), (2, .int x2)] dX12_laySight_19 (Nat.le_of_ble_eq_true rfl) rfl ?_
      have hL16 : ∀ (n : Nat) (x3_7 : Int32), zf1 (fX12_laySight_l20 m5 x0) n x3_7 = some (r, mo) → zz K cX12_laySight (4, RX12, some .boolean, 3, 0, 0, some (.int r), mo) 0 0 20 [(0, .ref x0), (3, .int x3_7)] [] m5 := by
        intro n
        induction n with
        | zero => intro x3_7 hf; cases hf
        | succ n ih9 =>
          intro x3_7 hf
          replace hf := zf1_s hf
          generalize zf1 (fX12_laySight_l20 m5 x0) n = F8 at hf ih9
          unfold fX12_laySight_l20 at hf
          refine zr_iload_n 1 dX12_laySight_20 rfl ?_
          refine zr_aload_n 0 dX12_laySight_21 rfl ?_
          replace hf := zb1_s hf
          obtain ⟨v11, h10, hf⟩ := hf
          refine zr_callV (ci := 12) [] (cX12_facts_ok h10) zvs_X12_facts zl_1231 zl_1232 (fX12_facts_ck h10) rfl rfl zl_1230 rfl (Nat.le_of_ble_eq_true rfl) (Nat.le_of_ble_eq_true rfl) (Nat.le_of_ble_eq_true rfl) (Nat.le_of_ble_eq_true rfl) dX12_laySight_22 rfl ?_
          refine zr_icmp_ge 49 dX12_laySight_25 (by decide) (fun hc => ?_) (fun hc => ?_)
          · rw [if_pos hc] at hf
            refine zr_iconst 1 dX12_laySight_49 (by decide) ?_
            cases hf
            exact zr_zret rfl dX12_laySight_50
          · rw [if_neg hc] at hf
            refine zr_aload_n 0 dX12_laySight_28 rfl ?_
            refine zr_aload_n 0 dX12_laySight_29 rfl ?_
            refine zr_iload_n 1 dX12_laySight_30 rfl ?_
            refine zr_iconst 1 dX12_laySight_31 (by decide) ?_
            replace hf := zb1_s hf
            obtain ⟨v13, h12, hf⟩ := hf
            refine zr_callV (ci := 12) [.int x3_7, .int 1] (cX12_factOf_ok h12) zvs_X12_factOf zl_1235 zl_1236 (fX12_factOf_ck h12) rfl rfl zl_1234 rfl (Nat.le_of_ble_eq_true rfl) (Nat.le_of_ble_eq_true rfl) (Nat.le_of_ble_eq_true rfl) (Nat.le_of_ble_eq_true rfl) dX12_laySight_32 rfl ?_
            replace hf := zb1_s hf
            obtain ⟨v15, h14, hf⟩ := hf
            refine zr_callV (ci := 12) [.int v13] (cX12_isPlace_ok h14) zvs_X12_isPlace zl_1065 zl_1066 (fX12_isPlace_ck h14) rfl rfl zl_1064 rfl (Nat.le_of_ble_eq_true rfl) (Nat.le_of_ble_eq_true rfl) (Nat.le_of_ble_eq_true rfl) (Nat.le_of_ble_eq_true rfl) dX12_laySight_35 rfl ?_
            refine zr_if_ne 43 dX12_laySight_38 (by decide) (fun hc => ?_) (fun hc => ?_)
            · rw [if_neg hc] at hf
              refine zr_iinc (j := 1) (x3_7 + 1) [(3, .int (x3_7 + 1)), (0, .ref x0)] dX12_laySight_43 rfl rfl (Nat.le_of_ble_eq_true rfl) rfl ?_
              refine zr_goto 20 dX12_laySight_46 (by decide) ?_
              exact zr_lv [1, 0] rfl (ih9 (x3_7 + 1) hf)
            · rw [if_pos hc] at hf
              refine zr_iconst 0 dX12_laySight_41 (by decide) ?_
              cases hf
              exact zr_zret rfl dX12_laySight_42
      exact zr_lv [1, 0] rfl (hL16 _ 0 hf)
    · rw [if_pos hc] at hf
      refine zr_iconst 0 dX12_laySight_16 (by decide) ?_
      cases hf
      exact zr_zret rfl dX12_laySight_17
theorem dX12_isSo_0 : decode cX12_isSo 0 = .ok (.iconst 0, 1) := by decide +kernel
theorem dX12_isSo_1 : decode cX12_isSo 1 = .ok (.istore 4, 2) := by decide +kernel
theorem dX12_isSo_3 : decode cX12_isSo 3 = .ok (.iload 4, 2) := by decide +kernel
theorem dX12_isSo_5 : decode cX12_isSo 5 = .ok (.aload_n 0, 1) := by decide +kernel
theorem dX12_isSo_6 : decode cX12_isSo 6 = .ok (.invokevirtual 460, 3) := by decide +kernel
theorem dX12_isSo_9 : decode cX12_isSo 9 = .ok (.if_icmp .ge 128, 3) := by decide +kernel
theorem dX12_isSo_12 : decode cX12_isSo 12 = .ok (.iconst 0, 1) := by decide +kernel
theorem dX12_isSo_13 : decode cX12_isSo 13 = .ok (.istore 5, 2) := by decide +kernel
theorem dX12_isSo_15 : decode cX12_isSo 15 = .ok (.iconst 0, 1) := by decide +kernel
theorem dX12_isSo_16 : decode cX12_isSo 16 = .ok (.istore 6, 2) := by decide +kernel
theorem dX12_isSo_18 : decode cX12_isSo 18 = .ok (.iload 6, 2) := by decide +kernel
theorem dX12_isSo_20 : decode cX12_isSo 20 = .ok (.iconst 2, 1) := by decide +kernel
theorem dX12_isSo_21 : decode cX12_isSo 21 = .ok (.if_icmp .gt 87, 3) := by decide +kernel
theorem dX12_isSo_24 : decode cX12_isSo 24 = .ok (.aload_n 0, 1) := by decide +kernel
theorem dX12_isSo_25 : decode cX12_isSo 25 = .ok (.iload_n 1, 1) := by decide +kernel
theorem dX12_isSo_26 : decode cX12_isSo 26 = .ok (.iload_n 3, 1) := by decide +kernel
theorem dX12_isSo_27 : decode cX12_isSo 27 = .ok (.iconst 2, 1) := by decide +kernel
theorem dX12_isSo_28 : decode cX12_isSo 28 = .ok (.iload_n 2, 1) := by decide +kernel
theorem dX12_isSo_29 : decode cX12_isSo 29 = .ok (.aload_n 0, 1) := by decide +kernel
theorem dX12_isSo_30 : decode cX12_isSo 30 = .ok (.iload 4, 2) := by decide +kernel
theorem dX12_isSo_32 : decode cX12_isSo 32 = .ok (.iconst 1, 1) := by decide +kernel
theorem dX12_isSo_33 : decode cX12_isSo 33 = .ok (.invokevirtual 463, 3) := by decide +kernel
theorem dX12_isSo_36 : decode cX12_isSo 36 = .ok (.iload 6, 2) := by decide +kernel
theorem dX12_isSo_38 : decode cX12_isSo 38 = .ok (.invokevirtual 310, 3) := by decide +kernel
theorem dX12_isSo_41 : decode cX12_isSo 41 = .ok (.aload_n 0, 1) := by decide +kernel
theorem dX12_isSo_42 : decode cX12_isSo 42 = .ok (.iload 4, 2) := by decide +kernel
theorem dX12_isSo_44 : decode cX12_isSo 44 = .ok (.iconst 2, 1) := by decide +kernel
theorem dX12_isSo_45 : decode cX12_isSo 45 = .ok (.invokevirtual 463, 3) := by decide +kernel
theorem dX12_isSo_48 : decode cX12_isSo 48 = .ok (.if_icmp .ne 7, 3) := by decide +kernel
theorem dX12_isSo_51 : decode cX12_isSo 51 = .ok (.iconst 1, 1) := by decide +kernel
theorem dX12_isSo_52 : decode cX12_isSo 52 = .ok (.goto 4, 3) := by decide +kernel
theorem dX12_isSo_55 : decode cX12_isSo 55 = .ok (.iconst 0, 1) := by decide +kernel
theorem dX12_isSo_56 : decode cX12_isSo 56 = .ok (.istore 7, 2) := by decide +kernel
theorem dX12_isSo_58 : decode cX12_isSo 58 = .ok (.iload 5, 2) := by decide +kernel
theorem dX12_isSo_60 : decode cX12_isSo 60 = .ok (.ifCond .ne 35, 3) := by decide +kernel
theorem dX12_isSo_63 : decode cX12_isSo 63 = .ok (.iload 7, 2) := by decide +kernel
theorem dX12_isSo_65 : decode cX12_isSo 65 = .ok (.ifCond .eq 34, 3) := by decide +kernel
theorem dX12_isSo_68 : decode cX12_isSo 68 = .ok (.iload 6, 2) := by decide +kernel
theorem dX12_isSo_70 : decode cX12_isSo 70 = .ok (.ifCond .ne 7, 3) := by decide +kernel
theorem dX12_isSo_73 : decode cX12_isSo 73 = .ok (.iload_n 3, 1) := by decide +kernel
theorem dX12_isSo_74 : decode cX12_isSo 74 = .ok (.goto 11, 3) := by decide +kernel
theorem dX12_isSo_77 : decode cX12_isSo 77 = .ok (.aload_n 0, 1) := by decide +kernel
theorem dX12_isSo_78 : decode cX12_isSo 78 = .ok (.iload_n 3, 1) := by decide +kernel
theorem dX12_isSo_79 : decode cX12_isSo 79 = .ok (.iload_n 2, 1) := by decide +kernel
theorem dX12_isSo_80 : decode cX12_isSo 80 = .ok (.iload 6, 2) := by decide +kernel
theorem dX12_isSo_82 : decode cX12_isSo 82 = .ok (.invokevirtual 314, 3) := by decide +kernel
theorem dX12_isSo_85 : decode cX12_isSo 85 = .ok (.aload_n 0, 1) := by decide +kernel
theorem dX12_isSo_86 : decode cX12_isSo 86 = .ok (.iload 4, 2) := by decide +kernel
theorem dX12_isSo_88 : decode cX12_isSo 88 = .ok (.iconst 3, 1) := by decide +kernel
theorem dX12_isSo_89 : decode cX12_isSo 89 = .ok (.invokevirtual 463, 3) := by decide +kernel
theorem dX12_isSo_92 : decode cX12_isSo 92 = .ok (.if_icmp .ne 7, 3) := by decide +kernel
theorem dX12_isSo_95 : decode cX12_isSo 95 = .ok (.iconst 1, 1) := by decide +kernel
theorem dX12_isSo_96 : decode cX12_isSo 96 = .ok (.goto 4, 3) := by decide +kernel
theorem dX12_isSo_99 : decode cX12_isSo 99 = .ok (.iconst 0, 1) := by decide +kernel
theorem dX12_isSo_100 : decode cX12_isSo 100 = .ok (.istore 5, 2) := by decide +kernel
theorem dX12_isSo_102 : decode cX12_isSo 102 = .ok (.iinc 6 1, 3) := by decide +kernel
theorem dX12_isSo_105 : decode cX12_isSo 105 = .ok (.goto (-87), 3) := by decide +kernel
theorem dX12_isSo_108 : decode cX12_isSo 108 = .ok (.iload 5, 2) := by decide +kernel
theorem dX12_isSo_110 : decode cX12_isSo 110 = .ok (.aload_n 0, 1) := by decide +kernel
theorem dX12_isSo_111 : decode cX12_isSo 111 = .ok (.iload 4, 2) := by decide +kernel
theorem dX12_isSo_113 : decode cX12_isSo 113 = .ok (.iconst 0, 1) := by decide +kernel
theorem dX12_isSo_114 : decode cX12_isSo 114 = .ok (.invokevirtual 463, 3) := by decide +kernel
theorem dX12_isSo_117 : decode cX12_isSo 117 = .ok (.iconst 1, 1) := by decide +kernel
theorem dX12_isSo_118 : decode cX12_isSo 118 = .ok (.if_icmp .ne 7, 3) := by decide +kernel
theorem dX12_isSo_121 : decode cX12_isSo 121 = .ok (.iconst 1, 1) := by decide +kernel
theorem dX12_isSo_122 : decode cX12_isSo 122 = .ok (.goto 4, 3) := by decide +kernel
theorem dX12_isSo_125 : decode cX12_isSo 125 = .ok (.iconst 0, 1) := by decide +kernel
theorem dX12_isSo_126 : decode cX12_isSo 126 = .ok (.if_icmp .eq 5, 3) := by decide +kernel
theorem dX12_isSo_129 : decode cX12_isSo 129 = .ok (.iconst 0, 1) := by decide +kernel
theorem dX12_isSo_130 : decode cX12_isSo 130 = .ok (.ireturn, 1) := by decide +kernel
theorem dX12_isSo_131 : decode cX12_isSo 131 = .ok (.iinc 4 1, 3) := by decide +kernel
theorem dX12_isSo_134 : decode cX12_isSo 134 = .ok (.goto (-131), 3) := by decide +kernel
theorem dX12_isSo_137 : decode cX12_isSo 137 = .ok (.iconst 1, 1) := by decide +kernel
theorem dX12_isSo_138 : decode cX12_isSo 138 = .ok (.ireturn, 1) := by decide +kernel
noncomputable def fX12_isSo_l18 (μ : zM) (x0 : Nat) (x4_1 : Int32) (x1 : Int32) (x3 : Int32) (x2 : Int32) (F8 : Int32 → Int32 → Option (Int32)) (x5_6 : Int32) (x6_7 : Int32) : Option (Int32) :=
  if 2 < x6_7 then (
  some x5_6)
  else (
  zb1 (fX12_factOf μ x0 x4_1 1) fun v13 =>
  zb1 (fX12_comes μ x0 x1 x3 2 x2 v13 x6_7) fun v15 =>
  zb1 (fX12_factOf μ x0 x4_1 2) fun v17 =>
  zb1 (if v15 = v17 then (
  some 1)
  else (
  some 0) : Option (Int32)) fun (s18 : Int32) =>
  zb1 (if x5_6 = 0 then (
  if s18 = 0 then (
  some 0)
  else (
  zb1 (if x6_7 = 0 then (
  some x3)
  else (
  zb1 (fX12_given μ x0 x3 x2 x6_7) fun v27 =>
  some v27) : Option (Int32)) fun (s22 : Int32) =>
  zb1 (fX12_factOf μ x0 x4_1 3) fun v25 =>
  if s22 = v25 then (
  some 1)
  else (
  some 0)))
  else (
  some 1) : Option (Int32)) fun (s20 : Int32) =>
  F8 s20 (x6_7 + 1))
noncomputable def fX12_isSo_l3 (μ : zM) (x0 : Nat) (x1 : Int32) (x3 : Int32) (x2 : Int32) (F2 : Int32 → Option (Int32)) (x4_1 : Int32) : Option (Int32) :=
  zb1 (fX12_facts μ x0) fun v5 =>
  if v5 ≤ x4_1 then (
  some 1)
  else (
  zb1 (zf2 (fX12_isSo_l18 μ x0 x4_1 x1 x3 x2) zfu 0 0 : Option (Int32)) fun (x5_10 : Int32) =>
  zb1 (fX12_factOf μ x0 x4_1 0) fun v30 =>
  zb1 (if v30 = 1 then (
  some 1)
  else (
  some 0) : Option (Int32)) fun (s31 : Int32) =>
  if x5_10 = s31 then (
  F2 (x4_1 + 1))
  else (
  some 0))
noncomputable def fX12_isSo (μ : zM) (x0 : Nat) (x1 : Int32) (x2 : Int32) (x3 : Int32) : Option (Int32) := zgd (zm_ck μ 12 x0) <|
  zf1 (fX12_isSo_l3 μ x0 x1 x3 x2) zfu 0
theorem fX12_isSo_ck {μ : zM} {x0 : Nat} {x1 : Int32} {x2 : Int32} {x3 : Int32} {z : Int32} (h : fX12_isSo μ x0 x1 x2 x3 = some z) : zm_ck μ 12 x0 = true := (zgd_s h).1
set_option maxHeartbeats 4000000 in
set_option maxRecDepth 100000 in
theorem cX12_isSo_ok {μ : zM} {x0 : Nat} {x1 : Int32} {x2 : Int32} {x3 : Int32} {r : Int32} (hf : fX12_isSo μ x0 x1 x2 x3 = some r) : zC yX12_isSo cX12_isSo 8 (some .boolean) 4 0 0 [.ref x0, .int x1, .int x2, .int x3] μ (some (.int r)) μ := by
  replace hf := (zgd_s hf).2
  refine zC.of (by decide) (Nat.le_of_ble_eq_true rfl) (fun K hin => ?_)
  clear hin
  show zz K cX12_isSo (8, RX12, some .boolean, 4, 0, 0, some (.int r), μ) 0 0 0 [(0, .ref x0), (1, .int x1), (2, .int x2), (3, .int x3)] [] μ
  refine zr_iconst 0 dX12_isSo_0 (by decide) ?_
  refine zr_istore [(4, .int 0), (0, .ref x0), (1, .int x1), (2, .int x2), (3, .int x3)] dX12_isSo_1 (Nat.le_of_ble_eq_true rfl) rfl ?_
  have hL33 : ∀ (n : Nat) (x4_1 : Int32), zf1 (fX12_isSo_l3 μ x0 x1 x3 x2) n x4_1 = some r → zz K cX12_isSo (8, RX12, some .boolean, 4, 0, 0, some (.int r), μ) 0 0 3 [(0, .ref x0), (1, .int x1), (2, .int x2), (3, .int x3), (4, .int x4_1)] [] μ := by
    intro n
    induction n with
    | zero => intro x4_1 hf; cases hf
    | succ n ih3 =>
      intro x4_1 hf
      replace hf := zf1_s hf
      generalize zf1 (fX12_isSo_l3 μ x0 x1 x3 x2) n = F2 at hf ih3
      unfold fX12_isSo_l3 at hf
      refine zr_iload 4 dX12_isSo_3 rfl ?_
      refine zr_aload_n 0 dX12_isSo_5 rfl ?_
      replace hf := zb1_s hf
      obtain ⟨v5, h4, hf⟩ := hf
      refine zr_callV (ci := 12) [] (cX12_facts_ok h4) zvs_X12_facts zl_1231 zl_1232 (fX12_facts_ck h4) rfl rfl zl_1230 rfl (Nat.le_of_ble_eq_true rfl) (Nat.le_of_ble_eq_true rfl) (Nat.le_of_ble_eq_true rfl) (Nat.le_of_ble_eq_true rfl) dX12_isSo_6 rfl ?_
      refine zr_icmp_ge 137 dX12_isSo_9 (by decide) (fun hc => ?_) (fun hc => ?_)
      · rw [if_pos hc] at hf
        refine zr_iconst 1 dX12_isSo_137 (by decide) ?_
        cases hf
        exact zr_zret rfl dX12_isSo_138
      · rw [if_neg hc] at hf
        refine zr_iconst 0 dX12_isSo_12 (by decide) ?_
        refine zr_istore [(5, .int 0), (0, .ref x0), (1, .int x1), (2, .int x2), (3, .int x3), (4, .int x4_1)] dX12_isSo_13 (Nat.le_of_ble_eq_true rfl) rfl ?_
        refine zr_iconst 0 dX12_isSo_15 (by decide) ?_
        refine zr_istore [(6, .int 0), (5, .int 0), (0, .ref x0), (1, .int x1), (2, .int x2), (3, .int x3), (4, .int x4_1)] dX12_isSo_16 (Nat.le_of_ble_eq_true rfl) rfl ?_
        replace hf := zb1_s hf
        obtain ⟨x5_10, hg, hf⟩ := hf
        have hj11 : zz K cX12_isSo (8, RX12, some .boolean, 4, 0, 0, some (.int r), μ) 0 0 108 [(0, .ref x0), (1, .int x1), (2, .int x2), (3, .int x3), (4, .int x4_1), (5, .int x5_10)] [] μ := by
          refine zr_iload 5 dX12_isSo_108 rfl ?_
          refine zr_aload_n 0 dX12_isSo_110 rfl ?_
          refine zr_iload 4 dX12_isSo_111 rfl ?_
          refine zr_iconst 0 dX12_isSo_113 (by decide) ?_
          replace hf := zb1_s hf
          obtain ⟨v30, h29, hf⟩ := hf
          refine zr_callV (ci := 12) [.int x4_1, .int 0] (cX12_factOf_ok h29) zvs_X12_factOf zl_1235 zl_1236 (fX12_factOf_ck h29) rfl rfl zl_1234 rfl (Nat.le_of_ble_eq_true rfl) (Nat.le_of_ble_eq_true rfl) (Nat.le_of_ble_eq_true rfl) (Nat.le_of_ble_eq_true rfl) dX12_isSo_114 rfl ?_
          refine zr_iconst 1 dX12_isSo_117 (by decide) ?_
          replace hf := zb1_s hf
          obtain ⟨s31, hg, hf⟩ := hf
          have hj32 : zz K cX12_isSo (8, RX12, some .boolean, 4, 0, 0, some (.int r), μ) 0 0 126 [(0, .ref x0), (1, .int x1), (2, .int x2), (3, .int x3), (4, .int x4_1)] [.int s31, .int x5_10] μ := by
            refine zr_icmp_eq 131 dX12_isSo_126 (by decide) (fun hc => ?_) (fun hc => ?_)
            · rw [if_pos hc] at hf
              refine zr_iinc (j := 4) (x4_1 + 1) [(4, .int (x4_1 + 1)), (0, .ref x0), (1, .int x1), (2, .int x2), (3, .int x3)] dX12_isSo_131 rfl rfl (Nat.le_of_ble_eq_true rfl) rfl ?_
              refine zr_goto 3 dX12_isSo_134 (by decide) ?_
              exact zr_lv [1, 2, 3, 4, 0] rfl (ih3 (x4_1 + 1) hf)
            · rw [if_neg hc] at hf
              refine zr_iconst 0 dX12_isSo_129 (by decide) ?_
              cases hf
              exact zr_zret rfl dX12_isSo_130
          clear hf
          have hf := hg
          clear hg
          refine zr_icmp_ne 125 dX12_isSo_118 (by decide) (fun hc => ?_) (fun hc => ?_)
          · rw [if_neg hc] at hf
            refine zr_iconst 0 dX12_isSo_125 (by decide) ?_
            cases hf
            exact zr_lv [0, 1, 2, 3, 4] rfl hj32
          · rw [if_pos hc] at hf
            refine zr_iconst 1 dX12_isSo_121 (by decide) ?_
            refine zr_goto 126 dX12_isSo_122 (by decide) ?_
            cases hf
            exact zr_lv [0, 1, 2, 3, 4] rfl hj32
        clear hf
        have hf := hg
        clear hg
        have hL28 : ∀ (n : Nat) (x5_6 : Int32) (x6_7 : Int32), zf2 (fX12_isSo_l18 μ x0 x4_1 x1 x3 x2) n x5_6 x6_7 = some x5_10 → zz K cX12_isSo (8, RX12, some .boolean, 4, 0, 0, some (.int r), μ) 0 0 18 [(0, .ref x0), (1, .int x1), (2, .int x2), (3, .int x3), (4, .int x4_1), (5, .int x5_6), (6, .int x6_7)] [] μ := by
          intro n
          induction n with
          | zero => intro x5_6 x6_7 hf; cases hf
          | succ n ih9 =>
            intro x5_6 x6_7 hf
            replace hf := zf2_s hf
            generalize zf2 (fX12_isSo_l18 μ x0 x4_1 x1 x3 x2) n = F8 at hf ih9
            unfold fX12_isSo_l18 at hf
            refine zr_iload 6 dX12_isSo_18 rfl ?_
            refine zr_iconst 2 dX12_isSo_20 (by decide) ?_
            refine zr_icmp_gt 108 dX12_isSo_21 (by decide) (fun hc => ?_) (fun hc => ?_)
            · rw [if_pos hc] at hf
              cases hf
              exact zr_lv [0, 1, 2, 3, 4, 5] rfl hj11
            · rw [if_neg hc] at hf
              refine zr_aload_n 0 dX12_isSo_24 rfl ?_
              refine zr_iload_n 1 dX12_isSo_25 rfl ?_
              refine zr_iload_n 3 dX12_isSo_26 rfl ?_
              refine zr_iconst 2 dX12_isSo_27 (by decide) ?_
              refine zr_iload_n 2 dX12_isSo_28 rfl ?_
              refine zr_aload_n 0 dX12_isSo_29 rfl ?_
              refine zr_iload 4 dX12_isSo_30 rfl ?_
              refine zr_iconst 1 dX12_isSo_32 (by decide) ?_
              replace hf := zb1_s hf
              obtain ⟨v13, h12, hf⟩ := hf
              refine zr_callV (ci := 12) [.int x4_1, .int 1] (cX12_factOf_ok h12) zvs_X12_factOf zl_1235 zl_1236 (fX12_factOf_ck h12) rfl rfl zl_1234 rfl (Nat.le_of_ble_eq_true rfl) (Nat.le_of_ble_eq_true rfl) (Nat.le_of_ble_eq_true rfl) (Nat.le_of_ble_eq_true rfl) dX12_isSo_33 rfl ?_
              refine zr_iload 6 dX12_isSo_36 rfl ?_
              replace hf := zb1_s hf
              obtain ⟨v15, h14, hf⟩ := hf
              refine zr_callV (ci := 12) [.int x1, .int x3, .int 2, .int x2, .int v13, .int x6_7] (cX12_comes_ok h14) zvs_X12_comes zl_1072 zl_1073 (fX12_comes_ck h14) rfl rfl zl_1071 rfl (Nat.le_of_ble_eq_true rfl) (Nat.le_of_ble_eq_true rfl) (Nat.le_of_ble_eq_true rfl) (Nat.le_of_ble_eq_true rfl) dX12_isSo_38 rfl ?_
              refine zr_aload_n 0 dX12_isSo_41 rfl ?_
              refine zr_iload 4 dX12_isSo_42 rfl ?_
              refine zr_iconst 2 dX12_isSo_44 (by decide) ?_
              replace hf := zb1_s hf
              obtain ⟨v17, h16, hf⟩ := hf
              refine zr_callV (ci := 12) [.int x4_1, .int 2] (cX12_factOf_ok h16) zvs_X12_factOf zl_1235 zl_1236 (fX12_factOf_ck h16) rfl rfl zl_1234 rfl (Nat.le_of_ble_eq_true rfl) (Nat.le_of_ble_eq_true rfl) (Nat.le_of_ble_eq_true rfl) (Nat.le_of_ble_eq_true rfl) dX12_isSo_45 rfl ?_
              replace hf := zb1_s hf
              obtain ⟨s18, hg, hf⟩ := hf
              have hj19 : zz K cX12_isSo (8, RX12, some .boolean, 4, 0, 0, some (.int r), μ) 0 0 56 [(0, .ref x0), (1, .int x1), (2, .int x2), (3, .int x3), (4, .int x4_1), (5, .int x5_6), (6, .int x6_7)] [.int s18] μ := by
                refine zr_istore [(7, .int s18), (0, .ref x0), (1, .int x1), (2, .int x2), (3, .int x3), (4, .int x4_1), (5, .int x5_6), (6, .int x6_7)] dX12_isSo_56 (Nat.le_of_ble_eq_true rfl) rfl ?_
                refine zr_iload 6 dX12_isSo_58 rfl ?_
                replace hf := zb1_s hf
                obtain ⟨s20, hg, hf⟩ := hf
                have hj21 : zz K cX12_isSo (8, RX12, some .boolean, 4, 0, 0, some (.int r), μ) 0 0 100 [(0, .ref x0), (1, .int x1), (2, .int x2), (3, .int x3), (4, .int x4_1), (6, .int x6_7)] [.int s20] μ := by
                  refine zr_istore [(5, .int s20), (0, .ref x0), (1, .int x1), (2, .int x2), (3, .int x3), (4, .int x4_1), (6, .int x6_7)] dX12_isSo_100 (Nat.le_of_ble_eq_true rfl) rfl ?_
                  refine zr_iinc (j := 6) (x6_7 + 1) [(6, .int (x6_7 + 1)), (5, .int s20), (0, .ref x0), (1, .int x1), (2, .int x2), (3, .int x3), (4, .int x4_1)] dX12_isSo_102 rfl rfl (Nat.le_of_ble_eq_true rfl) rfl ?_
                  refine zr_goto 18 dX12_isSo_105 (by decide) ?_
                  exact zr_lv [2, 3, 4, 5, 6, 1, 0] rfl (ih9 s20 (x6_7 + 1) hf)
                clear hf
                have hf := hg
                clear hg
                refine zr_if_ne 95 dX12_isSo_60 (by decide) (fun hc => ?_) (fun hc => ?_)
                · rw [if_neg hc] at hf
                  refine zr_iconst 1 dX12_isSo_95 (by decide) ?_
                  refine zr_goto 100 dX12_isSo_96 (by decide) ?_
                  cases hf
                  exact zr_lv [1, 2, 3, 4, 5, 7] rfl hj21
                · rw [if_pos hc] at hf
                  refine zr_iload 0 dX12_isSo_63 rfl ?_
                  refine zr_if_eq 99 dX12_isSo_65 (by decide) (fun hc => ?_) (fun hc => ?_)
                  · rw [if_pos hc] at hf
                    refine zr_iconst 0 dX12_isSo_99 (by decide) ?_
                    cases hf
                    exact zr_lv [1, 2, 3, 4, 5, 7] rfl hj21
                  · rw [if_neg hc] at hf
                    refine zr_iload 7 dX12_isSo_68 rfl ?_
                    replace hf := zb1_s hf
                    obtain ⟨s22, hg, hf⟩ := hf
                    have hj23 : zz K cX12_isSo (8, RX12, some .boolean, 4, 0, 0, some (.int r), μ) 0 0 85 [(0, .ref x0), (1, .int x1), (2, .int x2), (3, .int x3), (4, .int x4_1), (6, .int x6_7)] [.int s22] μ := by
                      refine zr_aload_n 0 dX12_isSo_85 rfl ?_
                      refine zr_iload 4 dX12_isSo_86 rfl ?_
                      refine zr_iconst 3 dX12_isSo_88 (by decide) ?_
                      replace hf := zb1_s hf
                      obtain ⟨v25, h24, hf⟩ := hf
                      refine zr_callV (ci := 12) [.int x4_1, .int 3] (cX12_factOf_ok h24) zvs_X12_factOf zl_1235 zl_1236 (fX12_factOf_ck h24) rfl rfl zl_1234 rfl (Nat.le_of_ble_eq_true rfl) (Nat.le_of_ble_eq_true rfl) (Nat.le_of_ble_eq_true rfl) (Nat.le_of_ble_eq_true rfl) dX12_isSo_89 rfl ?_
                      refine zr_icmp_ne 99 dX12_isSo_92 (by decide) (fun hc => ?_) (fun hc => ?_)
                      · rw [if_neg hc] at hf
                        refine zr_iconst 0 dX12_isSo_99 (by decide) ?_
                        cases hf
                        exact zr_lv [0, 1, 2, 3, 4, 5] rfl hj21
                      · rw [if_pos hc] at hf
                        refine zr_iconst 1 dX12_isSo_95 (by decide) ?_
                        refine zr_goto 100 dX12_isSo_96 (by decide) ?_
                        cases hf
                        exact zr_lv [0, 1, 2, 3, 4, 5] rfl hj21
                    clear hf
                    have hf := hg
                    clear hg
                    refine zr_if_ne 77 dX12_isSo_70 (by decide) (fun hc => ?_) (fun hc => ?_)
                    · rw [if_neg hc] at hf
                      refine zr_aload_n 1 dX12_isSo_77 rfl ?_
                      refine zr_iload_n 4 dX12_isSo_78 rfl ?_
                      refine zr_iload_n 3 dX12_isSo_79 rfl ?_
                      refine zr_iload 7 dX12_isSo_80 rfl ?_
                      replace hf := zb1_s hf
                      obtain ⟨v27, h26, hf⟩ := hf
                      refine zr_callV (ci := 12) [.int x3, .int x2, .int x6_7] (cX12_given_ok h26) zvs_X12_given zl_1076 zl_1077 (fX12_given_ck h26) rfl rfl zl_1075 rfl (Nat.le_of_ble_eq_true rfl) (Nat.le_of_ble_eq_true rfl) (Nat.le_of_ble_eq_true rfl) (Nat.le_of_ble_eq_true rfl) dX12_isSo_82 rfl ?_
                      cases hf
                      exact zr_lv [1, 2, 3, 4, 5, 7] rfl hj23
                    · rw [if_pos hc] at hf
                      refine zr_iload_n 4 dX12_isSo_73 rfl ?_
                      refine zr_goto 85 dX12_isSo_74 (by decide) ?_
                      cases hf
                      exact zr_lv [1, 2, 3, 4, 5, 7] rfl hj23
              clear hf
              have hf := hg
              clear hg
              refine zr_icmp_ne 55 dX12_isSo_48 (by decide) (fun hc => ?_) (fun hc => ?_)
              · rw [if_neg hc] at hf
                refine zr_iconst 0 dX12_isSo_55 (by decide) ?_
                cases hf
                exact zr_lv [0, 1, 2, 3, 4, 5, 6] rfl hj19
              · rw [if_pos hc] at hf
                refine zr_iconst 1 dX12_isSo_51 (by decide) ?_
                refine zr_goto 56 dX12_isSo_52 (by decide) ?_
                cases hf
                exact zr_lv [0, 1, 2, 3, 4, 5, 6] rfl hj19
        exact zr_lv [2, 3, 4, 5, 6, 1, 0] rfl (hL28 _ 0 0 hf)
  exact zr_lv [1, 2, 3, 4, 0] rfl (hL33 _ 0 hf)
theorem zl_1237 : Cond.fieldLink RX12 466 "TwoEchoesModel" "spotted" "I" ∈ zt := zt_at 1389 (by decide +kernel)
theorem zl_1238 : Cond.code yX12_isSo cX12_isSo 8 (some .boolean) ∈ zt := zt_at 1916 (by decide +kernel)
theorem zvs_X12_isSo : zvS yX12_isSo cX12_isSo 8 (some .boolean) 3 := ⟨zl_1238, zl_893, ⟨by decide +kernel, by decide +kernel, by decide +kernel⟩, by decide⟩
theorem zl_1239 : Cond.methodLink RX12 469 yX12_isSo ∈ zt := zt_at 1913 (by decide +kernel)
theorem zl_1240 : Cond.instanceMethod yX12_isSo ∈ zt := zt_at 1915 (by decide +kernel)
theorem zl_1241 : Cond.selects RX12 yX12_isSo yX12_isSo ∈ zt := zt_at 114 (by decide +kernel)
theorem dX12_findSaid_0 : decode cX12_findSaid 0 = .ok (.iconst 0, 1) := by decide +kernel
theorem dX12_findSaid_1 : decode cX12_findSaid 1 = .ok (.istore_n 2, 1) := by decide +kernel
theorem dX12_findSaid_2 : decode cX12_findSaid 2 = .ok (.aload_n 0, 1) := by decide +kernel
theorem dX12_findSaid_3 : decode cX12_findSaid 3 = .ok (.iconst (-1), 1) := by decide +kernel
theorem dX12_findSaid_4 : decode cX12_findSaid 4 = .ok (.putfield 466, 3) := by decide +kernel
theorem dX12_findSaid_7 : decode cX12_findSaid 7 = .ok (.iconst 0, 1) := by decide +kernel
theorem dX12_findSaid_8 : decode cX12_findSaid 8 = .ok (.istore_n 3, 1) := by decide +kernel
theorem dX12_findSaid_9 : decode cX12_findSaid 9 = .ok (.iload_n 3, 1) := by decide +kernel
theorem dX12_findSaid_10 : decode cX12_findSaid 10 = .ok (.sipush 1000, 3) := by decide +kernel
theorem dX12_findSaid_13 : decode cX12_findSaid 13 = .ok (.aload_n 0, 1) := by decide +kernel
theorem dX12_findSaid_14 : decode cX12_findSaid 14 = .ok (.getfield 273, 3) := by decide +kernel
theorem dX12_findSaid_17 : decode cX12_findSaid 17 = .ok (.iconst 1, 1) := by decide +kernel
theorem dX12_findSaid_18 : decode cX12_findSaid 18 = .ok (.iadd, 1) := by decide +kernel
theorem dX12_findSaid_19 : decode cX12_findSaid 19 = .ok (.imul, 1) := by decide +kernel
theorem dX12_findSaid_20 : decode cX12_findSaid 20 = .ok (.if_icmp .ge 81, 3) := by decide +kernel
theorem dX12_findSaid_23 : decode cX12_findSaid 23 = .ok (.iload_n 3, 1) := by decide +kernel
theorem dX12_findSaid_24 : decode cX12_findSaid 24 = .ok (.bipush 10, 2) := by decide +kernel
theorem dX12_findSaid_26 : decode cX12_findSaid 26 = .ok (.irem, 1) := by decide +kernel
theorem dX12_findSaid_27 : decode cX12_findSaid 27 = .ok (.bipush 8, 2) := by decide +kernel
theorem dX12_findSaid_29 : decode cX12_findSaid 29 = .ok (.if_icmp .ge 66, 3) := by decide +kernel
theorem dX12_findSaid_32 : decode cX12_findSaid 32 = .ok (.aload_n 0, 1) := by decide +kernel
theorem dX12_findSaid_33 : decode cX12_findSaid 33 = .ok (.iload_n 3, 1) := by decide +kernel
theorem dX12_findSaid_34 : decode cX12_findSaid 34 = .ok (.sipush 1000, 3) := by decide +kernel
theorem dX12_findSaid_37 : decode cX12_findSaid 37 = .ok (.idiv, 1) := by decide +kernel
theorem dX12_findSaid_38 : decode cX12_findSaid 38 = .ok (.iload_n 3, 1) := by decide +kernel
theorem dX12_findSaid_39 : decode cX12_findSaid 39 = .ok (.bipush 10, 2) := by decide +kernel
theorem dX12_findSaid_41 : decode cX12_findSaid 41 = .ok (.idiv, 1) := by decide +kernel
theorem dX12_findSaid_42 : decode cX12_findSaid 42 = .ok (.bipush 100, 2) := by decide +kernel
theorem dX12_findSaid_44 : decode cX12_findSaid 44 = .ok (.irem, 1) := by decide +kernel
theorem dX12_findSaid_45 : decode cX12_findSaid 45 = .ok (.iload_n 3, 1) := by decide +kernel
theorem dX12_findSaid_46 : decode cX12_findSaid 46 = .ok (.bipush 10, 2) := by decide +kernel
theorem dX12_findSaid_48 : decode cX12_findSaid 48 = .ok (.irem, 1) := by decide +kernel
theorem dX12_findSaid_49 : decode cX12_findSaid 49 = .ok (.invokevirtual 469, 3) := by decide +kernel
theorem dX12_findSaid_52 : decode cX12_findSaid 52 = .ok (.ifCond .eq 43, 3) := by decide +kernel
theorem dX12_findSaid_55 : decode cX12_findSaid 55 = .ok (.iload_n 2, 1) := by decide +kernel
theorem dX12_findSaid_56 : decode cX12_findSaid 56 = .ok (.iload_n 1, 1) := by decide +kernel
theorem dX12_findSaid_57 : decode cX12_findSaid 57 = .ok (.if_icmp .ne 5, 3) := by decide +kernel
theorem dX12_findSaid_60 : decode cX12_findSaid 60 = .ok (.iload_n 3, 1) := by decide +kernel
theorem dX12_findSaid_61 : decode cX12_findSaid 61 = .ok (.ireturn, 1) := by decide +kernel
theorem dX12_findSaid_62 : decode cX12_findSaid 62 = .ok (.aload_n 0, 1) := by decide +kernel
theorem dX12_findSaid_63 : decode cX12_findSaid 63 = .ok (.iload_n 2, 1) := by decide +kernel
theorem dX12_findSaid_64 : decode cX12_findSaid 64 = .ok (.ifCond .eq 15, 3) := by decide +kernel
theorem dX12_findSaid_67 : decode cX12_findSaid 67 = .ok (.aload_n 0, 1) := by decide +kernel
theorem dX12_findSaid_68 : decode cX12_findSaid 68 = .ok (.getfield 466, 3) := by decide +kernel
theorem dX12_findSaid_71 : decode cX12_findSaid 71 = .ok (.iload_n 3, 1) := by decide +kernel
theorem dX12_findSaid_72 : decode cX12_findSaid 72 = .ok (.sipush 1000, 3) := by decide +kernel
theorem dX12_findSaid_75 : decode cX12_findSaid 75 = .ok (.idiv, 1) := by decide +kernel
theorem dX12_findSaid_76 : decode cX12_findSaid 76 = .ok (.if_icmp .ne 11, 3) := by decide +kernel
theorem dX12_findSaid_79 : decode cX12_findSaid 79 = .ok (.iload_n 3, 1) := by decide +kernel
theorem dX12_findSaid_80 : decode cX12_findSaid 80 = .ok (.sipush 1000, 3) := by decide +kernel
theorem dX12_findSaid_83 : decode cX12_findSaid 83 = .ok (.idiv, 1) := by decide +kernel
theorem dX12_findSaid_84 : decode cX12_findSaid 84 = .ok (.goto 5, 3) := by decide +kernel
theorem dX12_findSaid_87 : decode cX12_findSaid 87 = .ok (.bipush (-2), 2) := by decide +kernel
theorem dX12_findSaid_89 : decode cX12_findSaid 89 = .ok (.putfield 466, 3) := by decide +kernel
theorem dX12_findSaid_92 : decode cX12_findSaid 92 = .ok (.iinc 2 1, 3) := by decide +kernel
theorem dX12_findSaid_95 : decode cX12_findSaid 95 = .ok (.iinc 3 1, 3) := by decide +kernel
theorem dX12_findSaid_98 : decode cX12_findSaid 98 = .ok (.goto (-89), 3) := by decide +kernel
theorem dX12_findSaid_101 : decode cX12_findSaid 101 = .ok (.iload_n 1, 1) := by decide +kernel
theorem dX12_findSaid_102 : decode cX12_findSaid 102 = .ok (.iconst (-1), 1) := by decide +kernel
theorem dX12_findSaid_103 : decode cX12_findSaid 103 = .ok (.if_icmp .ne 7, 3) := by decide +kernel
theorem dX12_findSaid_106 : decode cX12_findSaid 106 = .ok (.iload_n 2, 1) := by decide +kernel
theorem dX12_findSaid_107 : decode cX12_findSaid 107 = .ok (.goto 4, 3) := by decide +kernel
theorem dX12_findSaid_110 : decode cX12_findSaid 110 = .ok (.iconst (-1), 1) := by decide +kernel
theorem dX12_findSaid_111 : decode cX12_findSaid 111 = .ok (.ireturn, 1) := by decide +kernel
noncomputable def fX12_findSaid_b79 (x3_4 : Int32) : Option (Int32) :=
  some (x3_4 / 1000)
noncomputable def fX12_findSaid_l9 (x0 : Nat) (x1 : Int32) (F6 : Int32 → Int32 → zM → Option (Int32 × zM)) (x2_3 : Int32) (x3_4 : Int32) (m5 : zM) : Option (Int32 × zM) :=
  zb1 (zm_gI m5 12 x0 24) fun v8 =>
  if (1000 * (v8 + 1)) ≤ x3_4 then (
  zb1 (if x1 = (-1) then (
  some x2_3)
  else (
  some (-1)) : Option (Int32)) fun (s10 : Int32) =>
  some (s10, m5))
  else (
  if 8 ≤ (x3_4 - x3_4 / 10 * 10) then (
  F6 x2_3 (x3_4 + 1) m5)
  else (
  zb1 (fX12_isSo m5 x0 (x3_4 / 1000) ((x3_4 / 10) - (x3_4 / 10) / 100 * 100) (x3_4 - x3_4 / 10 * 10)) fun v13 =>
  if v13 = 0 then (
  F6 x2_3 (x3_4 + 1) m5)
  else (
  if x2_3 = x1 then (
  some (x3_4, m5))
  else (
  zb1 (if x2_3 = 0 then (
  fX12_findSaid_b79 x3_4)
  else (
  zb1 (zm_gI m5 12 x0 48) fun v19 =>
  if v19 = (x3_4 / 1000) then (
  fX12_findSaid_b79 x3_4)
  else (
  some (-2))) : Option (Int32)) fun (s14 : Int32) =>
  zb1 (zm_p m5 12 x0 48 (.int s14)) fun m17 =>
  F6 (x2_3 + 1) (x3_4 + 1) m17))))
noncomputable def fX12_findSaid (μ : zM) (x0 : Nat) (x1 : Int32) : Option (Int32 × zM) := zgd (zm_ck μ 12 x0) <|
  zb1 (zm_p μ 12 x0 48 (.int (-1))) fun m1 =>
  zf3 (fX12_findSaid_l9 x0 x1) zfu 0 0 m1
theorem fX12_findSaid_ck {μ : zM} {x0 : Nat} {x1 : Int32} {z : Int32 × zM} (h : fX12_findSaid μ x0 x1 = some z) : zm_ck μ 12 x0 = true := (zgd_s h).1
set_option maxHeartbeats 4000000 in
set_option maxRecDepth 100000 in
theorem cX12_findSaid_ok {μ : zM} {x0 : Nat} {x1 : Int32} {r : Int32} {mo : zM} (hf : fX12_findSaid μ x0 x1 = some (r, mo)) : zC yX12_findSaid cX12_findSaid 4 (some .int) 5 0 0 [.ref x0, .int x1] μ (some (.int r)) mo := by
  replace hf := (zgd_s hf).2
  refine zC.of (by decide) (Nat.le_of_ble_eq_true rfl) (fun K hin => ?_)
  clear hin
  show zz K cX12_findSaid (4, RX12, some .int, 5, 0, 0, some (.int r), mo) 0 0 0 [(0, .ref x0), (1, .int x1)] [] μ
  refine zr_iconst 0 dX12_findSaid_0 (by decide) ?_
  refine zr_istore_n [(2, .int 0), (0, .ref x0), (1, .int x1)] dX12_findSaid_1 (Nat.le_of_ble_eq_true rfl) rfl ?_
  refine zr_aload_n 1 dX12_findSaid_2 rfl ?_
  refine zr_iconst (-1) dX12_findSaid_3 (by decide) ?_
  replace hf := zb1_s hf
  obtain ⟨m1, h2, hf⟩ := hf
  refine zr_put h2 zk12 (by decide) zl_1237 rfl rfl rfl dX12_findSaid_4 ?_
  refine zr_iconst 0 dX12_findSaid_7 (by decide) ?_
  refine zr_istore_n [(3, .int 0), (2, .int 0), (0, .ref x0), (1, .int x1)] dX12_findSaid_8 (Nat.le_of_ble_eq_true rfl) rfl ?_
  have hL21 : ∀ (n : Nat) (x2_3 : Int32) (x3_4 : Int32) (m5 : zM), zf3 (fX12_findSaid_l9 x0 x1) n x2_3 x3_4 m5 = some (r, mo) → zz K cX12_findSaid (4, RX12, some .int, 5, 0, 0, some (.int r), mo) 0 0 9 [(0, .ref x0), (1, .int x1), (2, .int x2_3), (3, .int x3_4)] [] m5 := by
    intro n
    induction n with
    | zero => intro x2_3 x3_4 m5 hf; cases hf
    | succ n ih7 =>
      intro x2_3 x3_4 m5 hf
      replace hf := zf3_s hf
      generalize zf3 (fX12_findSaid_l9 x0 x1) n = F6 at hf ih7
      unfold fX12_findSaid_l9 at hf
      refine zr_iload_n 3 dX12_findSaid_9 rfl ?_
      refine zr_sipush 1000 dX12_findSaid_10 (by decide) ?_
      refine zr_aload_n 0 dX12_findSaid_13 rfl ?_
      replace hf := zb1_s hf
      obtain ⟨v8, h9, hf⟩ := hf
      refine zr_get (zm_gI_g h9) zk12 (by decide) zl_1031 dX12_findSaid_14 ?_
      refine zr_iconst 1 dX12_findSaid_17 (by decide) ?_
      refine zr_iadd dX12_findSaid_18 ?_
      refine zr_imul dX12_findSaid_19 ?_
      refine zr_icmp_ge 101 dX12_findSaid_20 (by decide) (fun hc => ?_) (fun hc => ?_)
      · rw [if_pos hc] at hf
        refine zr_iload_n 1 dX12_findSaid_101 rfl ?_
        refine zr_iconst (-1) dX12_findSaid_102 (by decide) ?_
        replace hf := zb1_s hf
        obtain ⟨s10, hg, hf⟩ := hf
        have hj11 : zz K cX12_findSaid (4, RX12, some .int, 5, 0, 0, some (.int r), mo) 0 0 111 [] [.int s10] m5 := by
          cases hf
          exact zr_iret dX12_findSaid_111
        clear hf
        have hf := hg
        clear hg
        refine zr_icmp_ne 110 dX12_findSaid_103 (by decide) (fun hc => ?_) (fun hc => ?_)
        · rw [if_neg hc] at hf
          refine zr_iconst (-1) dX12_findSaid_110 (by decide) ?_
          cases hf
          exact zr_lv [] rfl hj11
        · rw [if_pos hc] at hf
          refine zr_iload_n 2 dX12_findSaid_106 rfl ?_
          refine zr_goto 111 dX12_findSaid_107 (by decide) ?_
          cases hf
          exact zr_lv [] rfl hj11
      · rw [if_neg hc] at hf
        refine zr_iload_n 3 dX12_findSaid_23 rfl ?_
        refine zr_bipush 10 dX12_findSaid_24 (by decide) ?_
        refine zr_irem dX12_findSaid_26 (by decide) ?_
        refine zr_bipush 8 dX12_findSaid_27 (by decide) ?_
        refine zr_icmp_ge 95 dX12_findSaid_29 (by decide) (fun hc => ?_) (fun hc => ?_)
        · rw [if_pos hc] at hf
          refine zr_iinc (j := 3) (x3_4 + 1) [(3, .int (x3_4 + 1)), (0, .ref x0), (1, .int x1), (2, .int x2_3)] dX12_findSaid_95 rfl rfl (Nat.le_of_ble_eq_true rfl) rfl ?_
          refine zr_goto 9 dX12_findSaid_98 (by decide) ?_
          exact zr_lv [1, 2, 3, 0] rfl (ih7 x2_3 (x3_4 + 1) m5 hf)
        · rw [if_neg hc] at hf
          refine zr_aload_n 0 dX12_findSaid_32 rfl ?_
          refine zr_iload_n 3 dX12_findSaid_33 rfl ?_
          refine zr_sipush 1000 dX12_findSaid_34 (by decide) ?_
          refine zr_idiv dX12_findSaid_37 (by decide) ?_
          refine zr_iload_n 3 dX12_findSaid_38 rfl ?_
          refine zr_bipush 10 dX12_findSaid_39 (by decide) ?_
          refine zr_idiv dX12_findSaid_41 (by decide) ?_
          refine zr_bipush 100 dX12_findSaid_42 (by decide) ?_
          refine zr_irem dX12_findSaid_44 (by decide) ?_
          refine zr_iload_n 3 dX12_findSaid_45 rfl ?_
          refine zr_bipush 10 dX12_findSaid_46 (by decide) ?_
          refine zr_irem dX12_findSaid_48 (by decide) ?_
          replace hf := zb1_s hf
          obtain ⟨v13, h12, hf⟩ := hf
          refine zr_callV (ci := 12) [.int (x3_4 / 1000), .int ((x3_4 / 10) - (x3_4 / 10) / 100 * 100), .int (x3_4 - x3_4 / 10 * 10)] (cX12_isSo_ok h12) zvs_X12_isSo zl_1240 zl_1241 (fX12_isSo_ck h12) rfl rfl zl_1239 rfl (Nat.le_of_ble_eq_true rfl) (Nat.le_of_ble_eq_true rfl) (Nat.le_of_ble_eq_true rfl) (Nat.le_of_ble_eq_true rfl) dX12_findSaid_49 rfl ?_
          refine zr_if_eq 95 dX12_findSaid_52 (by decide) (fun hc => ?_) (fun hc => ?_)
          · rw [if_pos hc] at hf
            refine zr_iinc (j := 3) (x3_4 + 1) [(3, .int (x3_4 + 1)), (0, .ref x0), (1, .int x1), (2, .int x2_3)] dX12_findSaid_95 rfl rfl (Nat.le_of_ble_eq_true rfl) rfl ?_
            refine zr_goto 9 dX12_findSaid_98 (by decide) ?_
            exact zr_lv [1, 2, 3, 0] rfl (ih7 x2_3 (x3_4 + 1) m5 hf)
          · rw [if_neg hc] at hf
            refine zr_iload_n 2 dX12_findSaid_55 rfl ?_
            refine zr_iload_n 1 dX12_findSaid_56 rfl ?_
            refine zr_icmp_ne 62 dX12_findSaid_57 (by decide) (fun hc => ?_) (fun hc => ?_)
            · rw [if_neg hc] at hf
              refine zr_aload_n 0 dX12_findSaid_62 rfl ?_
              refine zr_iload_n 2 dX12_findSaid_63 rfl ?_
              replace hf := zb1_s hf
              obtain ⟨s14, hg, hf⟩ := hf
              have hj15 : zz K cX12_findSaid (4, RX12, some .int, 5, 0, 0, some (.int r), mo) 0 0 89 [(0, .ref x0), (1, .int x1), (2, .int x2_3), (3, .int x3_4)] [.int s14, .ref x0] m5 := by
                replace hf := zb1_s hf
                obtain ⟨m17, h18, hf⟩ := hf
                refine zr_put h18 zk12 (by decide) zl_1237 rfl rfl rfl dX12_findSaid_89 ?_
                refine zr_iinc (j := 2) (x2_3 + 1) [(2, .int (x2_3 + 1)), (0, .ref x0), (1, .int x1), (3, .int x3_4)] dX12_findSaid_92 rfl rfl (Nat.le_of_ble_eq_true rfl) rfl ?_
                refine zr_iinc (j := 3) (x3_4 + 1) [(3, .int (x3_4 + 1)), (2, .int (x2_3 + 1)), (0, .ref x0), (1, .int x1)] dX12_findSaid_95 rfl rfl (Nat.le_of_ble_eq_true rfl) rfl ?_
                refine zr_goto 9 dX12_findSaid_98 (by decide) ?_
                exact zr_lv [2, 3, 1, 0] rfl (ih7 (x2_3 + 1) (x3_4 + 1) m17 hf)
              clear hf
              have hf := hg
              clear hg
              have hb16 : ∀ (_ : Unit), fX12_findSaid_b79 x3_4 = some s14 → zz K cX12_findSaid (4, RX12, some .int, 5, 0, 0, some (.int r), mo) 0 0 79 [(0, .ref x0), (1, .int x1), (2, .int x2_3), (3, .int x3_4)] [.ref x0] m5 := by
                intro _ hf
                unfold fX12_findSaid_b79 at hf
                refine zr_iload_n 3 dX12_findSaid_79 rfl ?_
                refine zr_sipush 1000 dX12_findSaid_80 (by decide) ?_
                refine zr_idiv dX12_findSaid_83 (by decide) ?_
                refine zr_goto 89 dX12_findSaid_84 (by decide) ?_
                cases hf
                exact zr_lv [0, 1, 2, 3] rfl hj15
              refine zr_if_eq 79 dX12_findSaid_64 (by decide) (fun hc => ?_) (fun hc => ?_)
              · rw [if_pos hc] at hf
                exact zr_lv [0, 1, 2, 3] rfl (hb16 () hf)
              · rw [if_neg hc] at hf
                refine zr_aload_n 0 dX12_findSaid_67 rfl ?_
                replace hf := zb1_s hf
                obtain ⟨v19, h20, hf⟩ := hf
                refine zr_get (zm_gI_g h20) zk12 (by decide) zl_1237 dX12_findSaid_68 ?_
                refine zr_iload_n 3 dX12_findSaid_71 rfl ?_
                refine zr_sipush 1000 dX12_findSaid_72 (by decide) ?_
                refine zr_idiv dX12_findSaid_75 (by decide) ?_
                refine zr_icmp_ne 87 dX12_findSaid_76 (by decide) (fun hc => ?_) (fun hc => ?_)
                · rw [if_neg hc] at hf
                  refine zr_bipush (-2) dX12_findSaid_87 (by decide) ?_
                  cases hf
                  exact zr_lv [0, 1, 2, 3] rfl hj15
                · rw [if_pos hc] at hf
                  exact zr_lv [0, 1, 2, 3] rfl (hb16 () hf)
            · rw [if_pos hc] at hf
              refine zr_iload_n 3 dX12_findSaid_60 rfl ?_
              cases hf
              exact zr_iret dX12_findSaid_61
  exact zr_lv [2, 3, 1, 0] rfl (hL21 _ 0 0 m1 hf)
theorem zl_1242 : Cond.code yX12_laySight cX12_laySight 4 (some .boolean) ∈ zt := zt_at 1908 (by decide +kernel)
theorem zvs_X12_laySight : zvS yX12_laySight cX12_laySight 4 (some .boolean) 2 := ⟨zl_1242, zl_893, ⟨by decide +kernel, by decide +kernel, by decide +kernel⟩, by decide⟩
theorem zl_1243 : Cond.methodLink RX12 472 yX12_laySight ∈ zt := zt_at 1905 (by decide +kernel)
theorem zl_1244 : Cond.instanceMethod yX12_laySight ∈ zt := zt_at 1907 (by decide +kernel)
theorem zl_1245 : Cond.selects RX12 yX12_laySight yX12_laySight ∈ zt := zt_at 112 (by decide +kernel)
theorem zl_1246 : Cond.code yX12_findSaid cX12_findSaid 4 (some .int) ∈ zt := zt_at 1912 (by decide +kernel)
theorem zvs_X12_findSaid : zvS yX12_findSaid cX12_findSaid 4 (some .int) 1 := ⟨zl_1246, zl_893, ⟨by decide +kernel, by decide +kernel, by decide +kernel⟩, by decide⟩
theorem zl_1247 : Cond.methodLink RX12 475 yX12_findSaid ∈ zt := zt_at 1909 (by decide +kernel)
theorem zl_1248 : Cond.instanceMethod yX12_findSaid ∈ zt := zt_at 1911 (by decide +kernel)
theorem zl_1249 : Cond.selects RX12 yX12_findSaid yX12_findSaid ∈ zt := zt_at 113 (by decide +kernel)
theorem dX12_said_0 : decode cX12_said 0 = .ok (.aload_n 0, 1) := by decide +kernel
theorem dX12_said_1 : decode cX12_said 1 = .ok (.iconst 0, 1) := by decide +kernel
theorem dX12_said_2 : decode cX12_said 2 = .ok (.putfield 93, 3) := by decide +kernel
theorem dX12_said_5 : decode cX12_said 5 = .ok (.aload_n 0, 1) := by decide +kernel
theorem dX12_said_6 : decode cX12_said 6 = .ok (.iload_n 1, 1) := by decide +kernel
theorem dX12_said_7 : decode cX12_said 7 = .ok (.iload_n 2, 1) := by decide +kernel
theorem dX12_said_8 : decode cX12_said 8 = .ok (.invokevirtual 472, 3) := by decide +kernel
theorem dX12_said_11 : decode cX12_said 11 = .ok (.ifCond .eq 11, 3) := by decide +kernel
theorem dX12_said_14 : decode cX12_said 14 = .ok (.aload_n 0, 1) := by decide +kernel
theorem dX12_said_15 : decode cX12_said 15 = .ok (.iload_n 3, 1) := by decide +kernel
theorem dX12_said_16 : decode cX12_said 16 = .ok (.invokevirtual 475, 3) := by decide +kernel
theorem dX12_said_19 : decode cX12_said 19 = .ok (.goto 4, 3) := by decide +kernel
theorem dX12_said_22 : decode cX12_said 22 = .ok (.iconst (-1), 1) := by decide +kernel
theorem dX12_said_23 : decode cX12_said 23 = .ok (.ireturn, 1) := by decide +kernel
noncomputable def fX12_said (μ : zM) (x0 : Nat) (x1 : Int32) (x2 : Int32) (x3 : Int32) : Option (Int32 × zM) := zgd (zm_ck μ 12 x0) <|
  zb1 (zm_p μ 12 x0 0 (.int 0)) fun m1 =>
  zb2 (fX12_laySight m1 x0 x1 x2) fun v5 m4 =>
  zc2 (if v5 = 0 then (
  some ((-1), m4))
  else (
  zb2 (fX12_findSaid m4 x0 x3) fun v11 m10 =>
  some (v11, m10)) : Option (Int32 × zM)) fun (s6 : Int32) (m7 : zM) =>
  some (s6, m7)
theorem fX12_said_ck {μ : zM} {x0 : Nat} {x1 : Int32} {x2 : Int32} {x3 : Int32} {z : Int32 × zM} (h : fX12_said μ x0 x1 x2 x3 = some z) : zm_ck μ 12 x0 = true := (zgd_s h).1
set_option maxHeartbeats 4000000 in
set_option maxRecDepth 100000 in
theorem cX12_said_ok {μ : zM} {x0 : Nat} {x1 : Int32} {x2 : Int32} {x3 : Int32} {r : Int32} {mo : zM} (hf : fX12_said μ x0 x1 x2 x3 = some (r, mo)) : zC yX12_said cX12_said 4 (some .int) 6 0 0 [.ref x0, .int x1, .int x2, .int x3] μ (some (.int r)) mo := by
  replace hf := (zgd_s hf).2
  refine zC.of (by decide) (Nat.le_of_ble_eq_true rfl) (fun K hin => ?_)
  clear hin
  show zz K cX12_said (4, RX12, some .int, 6, 0, 0, some (.int r), mo) 0 0 0 [(0, .ref x0), (1, .int x1), (2, .int x2), (3, .int x3)] [] μ
  refine zr_aload_n 0 dX12_said_0 rfl ?_
  refine zr_iconst 0 dX12_said_1 (by decide) ?_
  replace hf := zb1_s hf
  obtain ⟨m1, h2, hf⟩ := hf
  refine zr_put h2 zk12 (by decide) zl_899 rfl rfl rfl dX12_said_2 ?_
  refine zr_aload_n 0 dX12_said_5 rfl ?_
  refine zr_iload_n 1 dX12_said_6 rfl ?_
  refine zr_iload_n 2 dX12_said_7 rfl ?_
  replace hf := zb2_s hf
  obtain ⟨v5, m4, h3, hf⟩ := hf
  refine zr_callV (ci := 12) [.int x1, .int x2] (cX12_laySight_ok h3) zvs_X12_laySight zl_1244 zl_1245 (fX12_laySight_ck h3) rfl rfl zl_1243 rfl (Nat.le_of_ble_eq_true rfl) (Nat.le_of_ble_eq_true rfl) (Nat.le_of_ble_eq_true rfl) (Nat.le_of_ble_eq_true rfl) dX12_said_8 rfl ?_
  replace hf := zc2_s hf
  obtain ⟨s6, m7, hg, hf⟩ := hf
  have hj8 : zz K cX12_said (4, RX12, some .int, 6, 0, 0, some (.int r), mo) 0 0 23 [] [.int s6] m7 := by
    cases hf
    exact zr_iret dX12_said_23
  clear hf
  have hf := hg
  clear hg
  refine zr_if_eq 22 dX12_said_11 (by decide) (fun hc => ?_) (fun hc => ?_)
  · rw [if_pos hc] at hf
    refine zr_iconst (-1) dX12_said_22 (by decide) ?_
    cases hf
    exact zr_lv [] rfl hj8
  · rw [if_neg hc] at hf
    refine zr_aload_n 0 dX12_said_14 rfl ?_
    refine zr_iload_n 3 dX12_said_15 rfl ?_
    replace hf := zb2_s hf
    obtain ⟨v11, m10, h9, hf⟩ := hf
    refine zr_callV (ci := 12) [.int x3] (cX12_findSaid_ok h9) zvs_X12_findSaid zl_1248 zl_1249 (fX12_findSaid_ck h9) rfl rfl zl_1247 rfl (Nat.le_of_ble_eq_true rfl) (Nat.le_of_ble_eq_true rfl) (Nat.le_of_ble_eq_true rfl) (Nat.le_of_ble_eq_true rfl) dX12_said_16 rfl ?_
    refine zr_goto 23 dX12_said_19 (by decide) ?_
    cases hf
    exact zr_lv [] rfl hj8
theorem dX12_listens_0 : decode cX12_listens 0 = .ok (.iconst 0, 1) := by decide +kernel
theorem dX12_listens_1 : decode cX12_listens 1 = .ok (.istore 4, 2) := by decide +kernel
theorem dX12_listens_3 : decode cX12_listens 3 = .ok (.iload 4, 2) := by decide +kernel
theorem dX12_listens_5 : decode cX12_listens 5 = .ok (.aload_n 0, 1) := by decide +kernel
theorem dX12_listens_6 : decode cX12_listens 6 = .ok (.getfield 273, 3) := by decide +kernel
theorem dX12_listens_9 : decode cX12_listens 9 = .ok (.if_icmp .gt 196, 3) := by decide +kernel
theorem dX12_listens_12 : decode cX12_listens 12 = .ok (.aload_n 0, 1) := by decide +kernel
theorem dX12_listens_13 : decode cX12_listens 13 = .ok (.iload_n 1, 1) := by decide +kernel
theorem dX12_listens_14 : decode cX12_listens 14 = .ok (.iload_n 3, 1) := by decide +kernel
theorem dX12_listens_15 : decode cX12_listens 15 = .ok (.iconst 2, 1) := by decide +kernel
theorem dX12_listens_16 : decode cX12_listens 16 = .ok (.iload_n 2, 1) := by decide +kernel
theorem dX12_listens_17 : decode cX12_listens 17 = .ok (.iload 4, 2) := by decide +kernel
theorem dX12_listens_19 : decode cX12_listens 19 = .ok (.iconst 0, 1) := by decide +kernel
theorem dX12_listens_20 : decode cX12_listens 20 = .ok (.invokevirtual 310, 3) := by decide +kernel
theorem dX12_listens_23 : decode cX12_listens 23 = .ok (.istore 5, 2) := by decide +kernel
theorem dX12_listens_25 : decode cX12_listens 25 = .ok (.aload_n 0, 1) := by decide +kernel
theorem dX12_listens_26 : decode cX12_listens 26 = .ok (.iload_n 1, 1) := by decide +kernel
theorem dX12_listens_27 : decode cX12_listens 27 = .ok (.iload_n 3, 1) := by decide +kernel
theorem dX12_listens_28 : decode cX12_listens 28 = .ok (.iconst 2, 1) := by decide +kernel
theorem dX12_listens_29 : decode cX12_listens 29 = .ok (.iload_n 2, 1) := by decide +kernel
theorem dX12_listens_30 : decode cX12_listens 30 = .ok (.iload 4, 2) := by decide +kernel
theorem dX12_listens_32 : decode cX12_listens 32 = .ok (.iconst 1, 1) := by decide +kernel
theorem dX12_listens_33 : decode cX12_listens 33 = .ok (.invokevirtual 310, 3) := by decide +kernel
theorem dX12_listens_36 : decode cX12_listens 36 = .ok (.istore 6, 2) := by decide +kernel
theorem dX12_listens_38 : decode cX12_listens 38 = .ok (.aload_n 0, 1) := by decide +kernel
theorem dX12_listens_39 : decode cX12_listens 39 = .ok (.iload_n 1, 1) := by decide +kernel
theorem dX12_listens_40 : decode cX12_listens 40 = .ok (.iload_n 3, 1) := by decide +kernel
theorem dX12_listens_41 : decode cX12_listens 41 = .ok (.iconst 2, 1) := by decide +kernel
theorem dX12_listens_42 : decode cX12_listens 42 = .ok (.iload_n 2, 1) := by decide +kernel
theorem dX12_listens_43 : decode cX12_listens 43 = .ok (.iload 4, 2) := by decide +kernel
theorem dX12_listens_45 : decode cX12_listens 45 = .ok (.iconst 2, 1) := by decide +kernel
theorem dX12_listens_46 : decode cX12_listens 46 = .ok (.invokevirtual 310, 3) := by decide +kernel
theorem dX12_listens_49 : decode cX12_listens 49 = .ok (.istore 7, 2) := by decide +kernel
theorem dX12_listens_51 : decode cX12_listens 51 = .ok (.aload_n 0, 1) := by decide +kernel
theorem dX12_listens_52 : decode cX12_listens 52 = .ok (.getfield 77, 3) := by decide +kernel
theorem dX12_listens_55 : decode cX12_listens 55 = .ok (.bipush 100, 2) := by decide +kernel
theorem dX12_listens_57 : decode cX12_listens 57 = .ok (.iload 4, 2) := by decide +kernel
theorem dX12_listens_59 : decode cX12_listens 59 = .ok (.imul, 1) := by decide +kernel
theorem dX12_listens_60 : decode cX12_listens 60 = .ok (.iload 5, 2) := by decide +kernel
theorem dX12_listens_62 : decode cX12_listens 62 = .ok (.bipush 99, 2) := by decide +kernel
theorem dX12_listens_64 : decode cX12_listens 64 = .ok (.invokestatic 404, 3) := by decide +kernel
theorem dX12_listens_67 : decode cX12_listens 67 = .ok (.iadd, 1) := by decide +kernel
theorem dX12_listens_68 : decode cX12_listens 68 = .ok (.dup2, 1) := by decide +kernel
theorem dX12_listens_69 : decode cX12_listens 69 = .ok (.iaload, 1) := by decide +kernel
theorem dX12_listens_70 : decode cX12_listens 70 = .ok (.iload 5, 2) := by decide +kernel
theorem dX12_listens_72 : decode cX12_listens 72 = .ok (.bipush 99, 2) := by decide +kernel
theorem dX12_listens_74 : decode cX12_listens 74 = .ok (.if_icmp .gt 7, 3) := by decide +kernel
theorem dX12_listens_77 : decode cX12_listens 77 = .ok (.iconst 1, 1) := by decide +kernel
theorem dX12_listens_78 : decode cX12_listens 78 = .ok (.goto 4, 3) := by decide +kernel
theorem dX12_listens_81 : decode cX12_listens 81 = .ok (.iconst 0, 1) := by decide +kernel
theorem dX12_listens_82 : decode cX12_listens 82 = .ok (.iadd, 1) := by decide +kernel
theorem dX12_listens_83 : decode cX12_listens 83 = .ok (.iastore, 1) := by decide +kernel
theorem dX12_listens_84 : decode cX12_listens 84 = .ok (.aload_n 0, 1) := by decide +kernel
theorem dX12_listens_85 : decode cX12_listens 85 = .ok (.getfield 77, 3) := by decide +kernel
theorem dX12_listens_88 : decode cX12_listens 88 = .ok (.bipush 100, 2) := by decide +kernel
theorem dX12_listens_90 : decode cX12_listens 90 = .ok (.iload 4, 2) := by decide +kernel
theorem dX12_listens_92 : decode cX12_listens 92 = .ok (.imul, 1) := by decide +kernel
theorem dX12_listens_93 : decode cX12_listens 93 = .ok (.iload 6, 2) := by decide +kernel
theorem dX12_listens_95 : decode cX12_listens 95 = .ok (.iconst 0, 1) := by decide +kernel
theorem dX12_listens_96 : decode cX12_listens 96 = .ok (.bipush 99, 2) := by decide +kernel
theorem dX12_listens_98 : decode cX12_listens 98 = .ok (.invokestatic 101, 3) := by decide +kernel
theorem dX12_listens_101 : decode cX12_listens 101 = .ok (.ifCond .eq 8, 3) := by decide +kernel
theorem dX12_listens_104 : decode cX12_listens 104 = .ok (.iload 6, 2) := by decide +kernel
theorem dX12_listens_106 : decode cX12_listens 106 = .ok (.goto 4, 3) := by decide +kernel
theorem dX12_listens_109 : decode cX12_listens 109 = .ok (.iconst 0, 1) := by decide +kernel
theorem dX12_listens_110 : decode cX12_listens 110 = .ok (.iadd, 1) := by decide +kernel
theorem dX12_listens_111 : decode cX12_listens 111 = .ok (.dup2, 1) := by decide +kernel
theorem dX12_listens_112 : decode cX12_listens 112 = .ok (.iaload, 1) := by decide +kernel
theorem dX12_listens_113 : decode cX12_listens 113 = .ok (.iload 6, 2) := by decide +kernel
theorem dX12_listens_115 : decode cX12_listens 115 = .ok (.iconst 0, 1) := by decide +kernel
theorem dX12_listens_116 : decode cX12_listens 116 = .ok (.bipush 99, 2) := by decide +kernel
theorem dX12_listens_118 : decode cX12_listens 118 = .ok (.invokestatic 101, 3) := by decide +kernel
theorem dX12_listens_121 : decode cX12_listens 121 = .ok (.ifCond .eq 14, 3) := by decide +kernel
theorem dX12_listens_124 : decode cX12_listens 124 = .ok (.iload 6, 2) := by decide +kernel
theorem dX12_listens_126 : decode cX12_listens 126 = .ok (.iload 5, 2) := by decide +kernel
theorem dX12_listens_128 : decode cX12_listens 128 = .ok (.if_icmp .eq 7, 3) := by decide +kernel
theorem dX12_listens_131 : decode cX12_listens 131 = .ok (.iconst 1, 1) := by decide +kernel
theorem dX12_listens_132 : decode cX12_listens 132 = .ok (.goto 4, 3) := by decide +kernel
theorem dX12_listens_135 : decode cX12_listens 135 = .ok (.iconst 0, 1) := by decide +kernel
theorem dX12_listens_136 : decode cX12_listens 136 = .ok (.iadd, 1) := by decide +kernel
theorem dX12_listens_137 : decode cX12_listens 137 = .ok (.iastore, 1) := by decide +kernel
theorem dX12_listens_138 : decode cX12_listens 138 = .ok (.aload_n 0, 1) := by decide +kernel
theorem dX12_listens_139 : decode cX12_listens 139 = .ok (.getfield 77, 3) := by decide +kernel
theorem dX12_listens_142 : decode cX12_listens 142 = .ok (.bipush 100, 2) := by decide +kernel
theorem dX12_listens_144 : decode cX12_listens 144 = .ok (.iload 4, 2) := by decide +kernel
theorem dX12_listens_146 : decode cX12_listens 146 = .ok (.imul, 1) := by decide +kernel
theorem dX12_listens_147 : decode cX12_listens 147 = .ok (.iload 7, 2) := by decide +kernel
theorem dX12_listens_149 : decode cX12_listens 149 = .ok (.iconst 0, 1) := by decide +kernel
theorem dX12_listens_150 : decode cX12_listens 150 = .ok (.bipush 99, 2) := by decide +kernel
theorem dX12_listens_152 : decode cX12_listens 152 = .ok (.invokestatic 101, 3) := by decide +kernel
theorem dX12_listens_155 : decode cX12_listens 155 = .ok (.ifCond .eq 8, 3) := by decide +kernel
theorem dX12_listens_158 : decode cX12_listens 158 = .ok (.iload 7, 2) := by decide +kernel
theorem dX12_listens_160 : decode cX12_listens 160 = .ok (.goto 4, 3) := by decide +kernel
theorem dX12_listens_163 : decode cX12_listens 163 = .ok (.iconst 0, 1) := by decide +kernel
theorem dX12_listens_164 : decode cX12_listens 164 = .ok (.iadd, 1) := by decide +kernel
theorem dX12_listens_165 : decode cX12_listens 165 = .ok (.dup2, 1) := by decide +kernel
theorem dX12_listens_166 : decode cX12_listens 166 = .ok (.iaload, 1) := by decide +kernel
theorem dX12_listens_167 : decode cX12_listens 167 = .ok (.iload 7, 2) := by decide +kernel
theorem dX12_listens_169 : decode cX12_listens 169 = .ok (.iconst 0, 1) := by decide +kernel
theorem dX12_listens_170 : decode cX12_listens 170 = .ok (.bipush 99, 2) := by decide +kernel
theorem dX12_listens_172 : decode cX12_listens 172 = .ok (.invokestatic 101, 3) := by decide +kernel
theorem dX12_listens_175 : decode cX12_listens 175 = .ok (.ifCond .eq 21, 3) := by decide +kernel
theorem dX12_listens_178 : decode cX12_listens 178 = .ok (.iload 7, 2) := by decide +kernel
theorem dX12_listens_180 : decode cX12_listens 180 = .ok (.iload 5, 2) := by decide +kernel
theorem dX12_listens_182 : decode cX12_listens 182 = .ok (.if_icmp .eq 14, 3) := by decide +kernel
theorem dX12_listens_185 : decode cX12_listens 185 = .ok (.iload 7, 2) := by decide +kernel
theorem dX12_listens_187 : decode cX12_listens 187 = .ok (.iload 6, 2) := by decide +kernel
theorem dX12_listens_189 : decode cX12_listens 189 = .ok (.if_icmp .eq 7, 3) := by decide +kernel
theorem dX12_listens_192 : decode cX12_listens 192 = .ok (.iconst 1, 1) := by decide +kernel
theorem dX12_listens_193 : decode cX12_listens 193 = .ok (.goto 4, 3) := by decide +kernel
theorem dX12_listens_196 : decode cX12_listens 196 = .ok (.iconst 0, 1) := by decide +kernel
theorem dX12_listens_197 : decode cX12_listens 197 = .ok (.iadd, 1) := by decide +kernel
theorem dX12_listens_198 : decode cX12_listens 198 = .ok (.iastore, 1) := by decide +kernel
theorem dX12_listens_199 : decode cX12_listens 199 = .ok (.iinc 4 1, 3) := by decide +kernel
theorem dX12_listens_202 : decode cX12_listens 202 = .ok (.goto (-199), 3) := by decide +kernel
theorem dX12_listens_205 : decode cX12_listens 205 = .ok (.return_, 1) := by decide +kernel
noncomputable def fX12_listens_b135  : Option (Int32) :=
  some 0
noncomputable def fX12_listens_l3 (x0 : Nat) (x1 : Int32) (x3 : Int32) (x2 : Int32) (F3 : Int32 → zM → Option (zM)) (x4_1 : Int32) (m2 : zM) : Option (zM) :=
  zb1 (zm_gI m2 12 x0 24) fun v7 =>
  if v7 < x4_1 then (
  some m2)
  else (
  zb1 (fX12_comes m2 x0 x1 x3 2 x2 x4_1 0) fun v10 =>
  zb1 (fX12_comes m2 x0 x1 x3 2 x2 x4_1 1) fun v12 =>
  zb1 (fX12_comes m2 x0 x1 x3 2 x2 x4_1 2) fun v14 =>
  zb1 (zm_gR m2 12 x0 47) fun v15 =>
  zb1 (fX12_lesser m2 v10 99) fun v18 =>
  zb1 (zm_aI m2 0 v15 ((100 * x4_1) + v18)) fun v19 =>
  zb1 (if 99 < v10 then (
  some 0)
  else (
  some 1) : Option (Int32)) fun (s21 : Int32) =>
  zb1 (zm_sI m2 0 v15 ((100 * x4_1) + v18) (v19 + s21)) fun m23 =>
  zb1 (zm_gR m23 12 x0 47) fun v25 =>
  zb1 (fX12_in m23 v12 0 99) fun v28 =>
  zb1 (if v28 = 0 then (
  some 0)
  else (
  some v12) : Option (Int32)) fun (s29 : Int32) =>
  zb1 (zm_aI m23 0 v25 ((100 * x4_1) + s29)) fun v31 =>
  zb1 (fX12_in m23 v12 0 99) fun v34 =>
  zb1 (if v34 = 0 then (
  fX12_listens_b135)
  else (
  if v12 = v10 then (
  fX12_listens_b135)
  else (
  some 1)) : Option (Int32)) fun (s35 : Int32) =>
  zb1 (zm_sI m23 0 v25 ((100 * x4_1) + s29) (v31 + s35)) fun m38 =>
  zb1 (zm_gR m38 12 x0 47) fun v40 =>
  zb1 (fX12_in m38 v14 0 99) fun v43 =>
  zb1 (if v43 = 0 then (
  some 0)
  else (
  some v14) : Option (Int32)) fun (s44 : Int32) =>
  zb1 (zm_aI m38 0 v40 ((100 * x4_1) + s44)) fun v46 =>
  zb1 (fX12_in m38 v14 0 99) fun v49 =>
  zb1 (if v49 = 0 then (
  some 0)
  else (
  if v14 = v10 then (
  some 0)
  else (
  if v14 = v12 then (
  some 0)
  else (
  some 1))) : Option (Int32)) fun (s50 : Int32) =>
  zb1 (zm_sI m38 0 v40 ((100 * x4_1) + s44) (v46 + s50)) fun m52 =>
  F3 (x4_1 + 1) m52)
noncomputable def fX12_listens (μ : zM) (x0 : Nat) (x1 : Int32) (x2 : Int32) (x3 : Int32) : Option (zM) := zgd (zm_ck μ 12 x0) <|
  zb1 (zf2 (fX12_listens_l3 x0 x1 x3 x2) zfu 0 μ : Option (zM)) fun (m5 : zM) =>
  some m5
theorem fX12_listens_ck {μ : zM} {x0 : Nat} {x1 : Int32} {x2 : Int32} {x3 : Int32} {z : zM} (h : fX12_listens μ x0 x1 x2 x3 = some z) : zm_ck μ 12 x0 = true := (zgd_s h).1
set_option maxHeartbeats 4000000 in
set_option maxRecDepth 100000 in
theorem cX12_listens_ok {μ : zM} {x0 : Nat} {x1 : Int32} {x2 : Int32} {x3 : Int32} {mo : zM} (hf : fX12_listens μ x0 x1 x2 x3 = some mo) : zC yX12_listens cX12_listens 8 (none) 4 0 0 [.ref x0, .int x1, .int x2, .int x3] μ (none) mo := by
  replace hf := (zgd_s hf).2
  refine zC.of (by decide) (Nat.le_of_ble_eq_true rfl) (fun K hin => ?_)
  clear hin
  show zz K cX12_listens (8, RX12, none, 4, 0, 0, none, mo) 0 0 0 [(0, .ref x0), (1, .int x1), (2, .int x2), (3, .int x3)] [] μ
  refine zr_iconst 0 dX12_listens_0 (by decide) ?_
  refine zr_istore [(4, .int 0), (0, .ref x0), (1, .int x1), (2, .int x2), (3, .int x3)] dX12_listens_1 (Nat.le_of_ble_eq_true rfl) rfl ?_
  replace hf := zb1_s hf
  obtain ⟨m5, hg, hf⟩ := hf
  have hj6 : zz K cX12_listens (8, RX12, none, 4, 0, 0, none, mo) 0 0 205 [] [] m5 := by
    cases hf
    exact zr_vret dX12_listens_205
  clear hf
  have hf := hg
  clear hg
  have hL54 : ∀ (n : Nat) (x4_1 : Int32) (m2 : zM), zf2 (fX12_listens_l3 x0 x1 x3 x2) n x4_1 m2 = some m5 → zz K cX12_listens (8, RX12, none, 4, 0, 0, none, mo) 0 0 3 [(0, .ref x0), (1, .int x1), (2, .int x2), (3, .int x3), (4, .int x4_1)] [] m2 := by
    intro n
    induction n with
    | zero => intro x4_1 m2 hf; cases hf
    | succ n ih4 =>
      intro x4_1 m2 hf
      replace hf := zf2_s hf
      generalize zf2 (fX12_listens_l3 x0 x1 x3 x2) n = F3 at hf ih4
      unfold fX12_listens_l3 at hf
      refine zr_iload 4 dX12_listens_3 rfl ?_
      refine zr_aload_n 0 dX12_listens_5 rfl ?_
      replace hf := zb1_s hf
      obtain ⟨v7, h8, hf⟩ := hf
      refine zr_get (zm_gI_g h8) zk12 (by decide) zl_1031 dX12_listens_6 ?_
      refine zr_icmp_gt 205 dX12_listens_9 (by decide) (fun hc => ?_) (fun hc => ?_)
      · rw [if_pos hc] at hf
        cases hf
        exact zr_lv [] rfl hj6
      · rw [if_neg hc] at hf
        refine zr_aload_n 0 dX12_listens_12 rfl ?_
        refine zr_iload_n 1 dX12_listens_13 rfl ?_
        refine zr_iload_n 3 dX12_listens_14 rfl ?_
        refine zr_iconst 2 dX12_listens_15 (by decide) ?_
        refine zr_iload_n 2 dX12_listens_16 rfl ?_
        refine zr_iload 4 dX12_listens_17 rfl ?_
        refine zr_iconst 0 dX12_listens_19 (by decide) ?_
        replace hf := zb1_s hf
        obtain ⟨v10, h9, hf⟩ := hf
        refine zr_callV (ci := 12) [.int x1, .int x3, .int 2, .int x2, .int x4_1, .int 0] (cX12_comes_ok h9) zvs_X12_comes zl_1072 zl_1073 (fX12_comes_ck h9) rfl rfl zl_1071 rfl (Nat.le_of_ble_eq_true rfl) (Nat.le_of_ble_eq_true rfl) (Nat.le_of_ble_eq_true rfl) (Nat.le_of_ble_eq_true rfl) dX12_listens_20 rfl ?_
        refine zr_istore [(5, .int v10), (0, .ref x0), (1, .int x1), (2, .int x2), (3, .int x3), (4, .int x4_1)] dX12_listens_23 (Nat.le_of_ble_eq_true rfl) rfl ?_
        refine zr_aload_n 1 dX12_listens_25 rfl ?_
        refine zr_iload_n 2 dX12_listens_26 rfl ?_
        refine zr_iload_n 4 dX12_listens_27 rfl ?_
        refine zr_iconst 2 dX12_listens_28 (by decide) ?_
        refine zr_iload_n 3 dX12_listens_29 rfl ?_
        refine zr_iload 5 dX12_listens_30 rfl ?_
        refine zr_iconst 1 dX12_listens_32 (by decide) ?_
        replace hf := zb1_s hf
        obtain ⟨v12, h11, hf⟩ := hf
        refine zr_callV (ci := 12) [.int x1, .int x3, .int 2, .int x2, .int x4_1, .int 1] (cX12_comes_ok h11) zvs_X12_comes zl_1072 zl_1073 (fX12_comes_ck h11) rfl rfl zl_1071 rfl (Nat.le_of_ble_eq_true rfl) (Nat.le_of_ble_eq_true rfl) (Nat.le_of_ble_eq_true rfl) (Nat.le_of_ble_eq_true rfl) dX12_listens_33 rfl ?_
        refine zr_istore [(6, .int v12), (5, .int v10), (0, .ref x0), (1, .int x1), (2, .int x2), (3, .int x3), (4, .int x4_1)] dX12_listens_36 (Nat.le_of_ble_eq_true rfl) rfl ?_
        refine zr_aload_n 2 dX12_listens_38 rfl ?_
        refine zr_iload_n 3 dX12_listens_39 rfl ?_
        refine zr_iload_n 5 dX12_listens_40 rfl ?_
        refine zr_iconst 2 dX12_listens_41 (by decide) ?_
        refine zr_iload_n 4 dX12_listens_42 rfl ?_
        refine zr_iload 6 dX12_listens_43 rfl ?_
        refine zr_iconst 2 dX12_listens_45 (by decide) ?_
        replace hf := zb1_s hf
        obtain ⟨v14, h13, hf⟩ := hf
        refine zr_callV (ci := 12) [.int x1, .int x3, .int 2, .int x2, .int x4_1, .int 2] (cX12_comes_ok h13) zvs_X12_comes zl_1072 zl_1073 (fX12_comes_ck h13) rfl rfl zl_1071 rfl (Nat.le_of_ble_eq_true rfl) (Nat.le_of_ble_eq_true rfl) (Nat.le_of_ble_eq_true rfl) (Nat.le_of_ble_eq_true rfl) dX12_listens_46 rfl ?_
        refine zr_istore [(7, .int v14), (6, .int v12), (5, .int v10), (0, .ref x0), (1, .int x1), (2, .int x2), (3, .int x3), (4, .int x4_1)] dX12_listens_49 (Nat.le_of_ble_eq_true rfl) rfl ?_
        refine zr_aload_n 3 dX12_listens_51 rfl ?_
        replace hf := zb1_s hf
        obtain ⟨v15, h16, hf⟩ := hf
        refine zr_get (zm_gR_g h16) zk12 (by decide) zl_886 dX12_listens_52 ?_
        refine zr_bipush 100 dX12_listens_55 (by decide) ?_
        refine zr_iload 7 dX12_listens_57 rfl ?_
        refine zr_imul dX12_listens_59 ?_
        refine zr_iload 2 dX12_listens_60 rfl ?_
        refine zr_bipush 99 dX12_listens_62 (by decide) ?_
        replace hf := zb1_s hf
        obtain ⟨v18, h17, hf⟩ := hf
        refine zr_callS [.int v10, .int 99] (cX12_lesser_ok h17) zvs_X12_lesser zl_1167 zl_1166 rfl (Nat.le_of_ble_eq_true rfl) (Nat.le_of_ble_eq_true rfl) (Nat.le_of_ble_eq_true rfl) (Nat.le_of_ble_eq_true rfl) dX12_listens_64 rfl ?_
        refine zr_iadd dX12_listens_67 ?_
        refine zr_dup2 dX12_listens_68 rfl rfl ?_
        replace hf := zb1_s hf
        obtain ⟨v19, h20, hf⟩ := hf
        refine zr_iald h20 dX12_listens_69 ?_
        refine zr_iload 2 dX12_listens_70 rfl ?_
        refine zr_bipush 99 dX12_listens_72 (by decide) ?_
        replace hf := zb1_s hf
        obtain ⟨s21, hg, hf⟩ := hf
        have hj22 : zz K cX12_listens (8, RX12, none, 4, 0, 0, none, mo) 0 0 82 [(0, .ref x0), (1, .int x1), (2, .int x2), (3, .int x3), (4, .int x4_1), (5, .int v10), (6, .int v12), (7, .int v14)] [.int s21, .int v19, .int ((100 * x4_1) + v18), .ref v15] m2 := by
          refine zr_iadd dX12_listens_82 ?_
          replace hf := zb1_s hf
          obtain ⟨m23, h24, hf⟩ := hf
          refine zr_iast h24 dX12_listens_83 ?_
          refine zr_aload_n 0 dX12_listens_84 rfl ?_
          replace hf := zb1_s hf
          obtain ⟨v25, h26, hf⟩ := hf
          refine zr_get (zm_gR_g h26) zk12 (by decide) zl_886 dX12_listens_85 ?_
          refine zr_bipush 100 dX12_listens_88 (by decide) ?_
          refine zr_iload 4 dX12_listens_90 rfl ?_
          refine zr_imul dX12_listens_92 ?_
          refine zr_iload 6 dX12_listens_93 rfl ?_
          refine zr_iconst 0 dX12_listens_95 (by decide) ?_
          refine zr_bipush 99 dX12_listens_96 (by decide) ?_
          replace hf := zb1_s hf
          obtain ⟨v28, h27, hf⟩ := hf
          refine zr_callS [.int v12, .int 0, .int 99] (cX12_in_ok h27) zvs_X12_in zl_898 zl_897 rfl (Nat.le_of_ble_eq_true rfl) (Nat.le_of_ble_eq_true rfl) (Nat.le_of_ble_eq_true rfl) (Nat.le_of_ble_eq_true rfl) dX12_listens_98 rfl ?_
          replace hf := zb1_s hf
          obtain ⟨s29, hg, hf⟩ := hf
          have hj30 : zz K cX12_listens (8, RX12, none, 4, 0, 0, none, mo) 0 0 110 [(0, .ref x0), (1, .int x1), (2, .int x2), (3, .int x3), (4, .int x4_1), (5, .int v10), (6, .int v12), (7, .int v14)] [.int s29, .int (100 * x4_1), .ref v25] m23 := by
            refine zr_iadd dX12_listens_110 ?_
            refine zr_dup2 dX12_listens_111 rfl rfl ?_
            replace hf := zb1_s hf
            obtain ⟨v31, h32, hf⟩ := hf
            refine zr_iald h32 dX12_listens_112 ?_
            refine zr_iload 6 dX12_listens_113 rfl ?_
            refine zr_iconst 0 dX12_listens_115 (by decide) ?_
            refine zr_bipush 99 dX12_listens_116 (by decide) ?_
            replace hf := zb1_s hf
            obtain ⟨v34, h33, hf⟩ := hf
            refine zr_callS [.int v12, .int 0, .int 99] (cX12_in_ok h33) zvs_X12_in zl_898 zl_897 rfl (Nat.le_of_ble_eq_true rfl) (Nat.le_of_ble_eq_true rfl) (Nat.le_of_ble_eq_true rfl) (Nat.le_of_ble_eq_true rfl) dX12_listens_118 rfl ?_
            replace hf := zb1_s hf
            obtain ⟨s35, hg, hf⟩ := hf
            have hj36 : zz K cX12_listens (8, RX12, none, 4, 0, 0, none, mo) 0 0 136 [(0, .ref x0), (1, .int x1), (2, .int x2), (3, .int x3), (4, .int x4_1), (5, .int v10), (6, .int v12), (7, .int v14)] [.int s35, .int v31, .int ((100 * x4_1) + s29), .ref v25] m23 := by
              refine zr_iadd dX12_listens_136 ?_
              replace hf := zb1_s hf
              obtain ⟨m38, h39, hf⟩ := hf
              refine zr_iast h39 dX12_listens_137 ?_
              refine zr_aload_n 0 dX12_listens_138 rfl ?_
              replace hf := zb1_s hf
              obtain ⟨v40, h41, hf⟩ := hf
              refine zr_get (zm_gR_g h41) zk12 (by decide) zl_886 dX12_listens_139 ?_
              refine zr_bipush 100 dX12_listens_142 (by decide) ?_
              refine zr_iload 4 dX12_listens_144 rfl ?_
              refine zr_imul dX12_listens_146 ?_
              refine zr_iload 7 dX12_listens_147 rfl ?_
              refine zr_iconst 0 dX12_listens_149 (by decide) ?_
              refine zr_bipush 99 dX12_listens_150 (by decide) ?_
              replace hf := zb1_s hf
              obtain ⟨v43, h42, hf⟩ := hf
              refine zr_callS [.int v14, .int 0, .int 99] (cX12_in_ok h42) zvs_X12_in zl_898 zl_897 rfl (Nat.le_of_ble_eq_true rfl) (Nat.le_of_ble_eq_true rfl) (Nat.le_of_ble_eq_true rfl) (Nat.le_of_ble_eq_true rfl) dX12_listens_152 rfl ?_
              replace hf := zb1_s hf
              obtain ⟨s44, hg, hf⟩ := hf
              have hj45 : zz K cX12_listens (8, RX12, none, 4, 0, 0, none, mo) 0 0 164 [(0, .ref x0), (1, .int x1), (2, .int x2), (3, .int x3), (4, .int x4_1), (5, .int v10), (6, .int v12), (7, .int v14)] [.int s44, .int (100 * x4_1), .ref v40] m38 := by
                refine zr_iadd dX12_listens_164 ?_
                refine zr_dup2 dX12_listens_165 rfl rfl ?_
                replace hf := zb1_s hf
                obtain ⟨v46, h47, hf⟩ := hf
                refine zr_iald h47 dX12_listens_166 ?_
                refine zr_iload 7 dX12_listens_167 rfl ?_
                refine zr_iconst 0 dX12_listens_169 (by decide) ?_
                refine zr_bipush 99 dX12_listens_170 (by decide) ?_
                replace hf := zb1_s hf
                obtain ⟨v49, h48, hf⟩ := hf
                refine zr_callS [.int v14, .int 0, .int 99] (cX12_in_ok h48) zvs_X12_in zl_898 zl_897 rfl (Nat.le_of_ble_eq_true rfl) (Nat.le_of_ble_eq_true rfl) (Nat.le_of_ble_eq_true rfl) (Nat.le_of_ble_eq_true rfl) dX12_listens_172 rfl ?_
                replace hf := zb1_s hf
                obtain ⟨s50, hg, hf⟩ := hf
                have hj51 : zz K cX12_listens (8, RX12, none, 4, 0, 0, none, mo) 0 0 197 [(0, .ref x0), (1, .int x1), (2, .int x2), (3, .int x3), (4, .int x4_1)] [.int s50, .int v46, .int ((100 * x4_1) + s44), .ref v40] m38 := by
                  refine zr_iadd dX12_listens_197 ?_
                  replace hf := zb1_s hf
                  obtain ⟨m52, h53, hf⟩ := hf
                  refine zr_iast h53 dX12_listens_198 ?_
                  refine zr_iinc (j := 4) (x4_1 + 1) [(4, .int (x4_1 + 1)), (0, .ref x0), (1, .int x1), (2, .int x2), (3, .int x3)] dX12_listens_199 rfl rfl (Nat.le_of_ble_eq_true rfl) rfl ?_
                  refine zr_goto 3 dX12_listens_202 (by decide) ?_
                  exact zr_lv [1, 2, 3, 4, 0] rfl (ih4 (x4_1 + 1) m52 hf)
                clear hf
                have hf := hg
                clear hg
                refine zr_if_eq 196 dX12_listens_175 (by decide) (fun hc => ?_) (fun hc => ?_)
                · rw [if_pos hc] at hf
                  refine zr_iconst 0 dX12_listens_196 (by decide) ?_
                  cases hf
                  exact zr_lv [0, 1, 2, 3, 4] rfl hj51
                · rw [if_neg hc] at hf
                  refine zr_iload 7 dX12_listens_178 rfl ?_
                  refine zr_iload 5 dX12_listens_180 rfl ?_
                  refine zr_icmp_eq 196 dX12_listens_182 (by decide) (fun hc => ?_) (fun hc => ?_)
                  · rw [if_pos hc] at hf
                    refine zr_iconst 0 dX12_listens_196 (by decide) ?_
                    cases hf
                    exact zr_lv [0, 1, 2, 3, 4] rfl hj51
                  · rw [if_neg hc] at hf
                    refine zr_iload 7 dX12_listens_185 rfl ?_
                    refine zr_iload 6 dX12_listens_187 rfl ?_
                    refine zr_icmp_eq 196 dX12_listens_189 (by decide) (fun hc => ?_) (fun hc => ?_)
                    · rw [if_pos hc] at hf
                      refine zr_iconst 0 dX12_listens_196 (by decide) ?_
                      cases hf
                      exact zr_lv [0, 1, 2, 3, 4] rfl hj51
                    · rw [if_neg hc] at hf
                      refine zr_iconst 1 dX12_listens_192 (by decide) ?_
                      refine zr_goto 197 dX12_listens_193 (by decide) ?_
                      cases hf
                      exact zr_lv [0, 1, 2, 3, 4] rfl hj51
              clear hf
              have hf := hg
              clear hg
              refine zr_if_eq 163 dX12_listens_155 (by decide) (fun hc => ?_) (fun hc => ?_)
              · rw [if_pos hc] at hf
                refine zr_iconst 0 dX12_listens_163 (by decide) ?_
                cases hf
                exact zr_lv [0, 1, 2, 3, 4, 5, 6, 7] rfl hj45
              · rw [if_neg hc] at hf
                refine zr_iload 7 dX12_listens_158 rfl ?_
                refine zr_goto 164 dX12_listens_160 (by decide) ?_
                cases hf
                exact zr_lv [0, 1, 2, 3, 4, 5, 6, 7] rfl hj45
            clear hf
            have hf := hg
            clear hg
            have hb37 : ∀ (_ : Unit), fX12_listens_b135 = some s35 → zz K cX12_listens (8, RX12, none, 4, 0, 0, none, mo) 0 0 135 [(0, .ref x0), (1, .int x1), (2, .int x2), (3, .int x3), (4, .int x4_1), (5, .int v10), (6, .int v12), (7, .int v14)] [.int v31, .int ((100 * x4_1) + s29), .ref v25] m23 := by
              intro _ hf
              unfold fX12_listens_b135 at hf
              refine zr_iconst 0 dX12_listens_135 (by decide) ?_
              cases hf
              exact zr_lv [0, 1, 2, 3, 4, 5, 6, 7] rfl hj36
            refine zr_if_eq 135 dX12_listens_121 (by decide) (fun hc => ?_) (fun hc => ?_)
            · rw [if_pos hc] at hf
              exact zr_lv [0, 1, 2, 3, 4, 5, 6, 7] rfl (hb37 () hf)
            · rw [if_neg hc] at hf
              refine zr_iload 6 dX12_listens_124 rfl ?_
              refine zr_iload 5 dX12_listens_126 rfl ?_
              refine zr_icmp_eq 135 dX12_listens_128 (by decide) (fun hc => ?_) (fun hc => ?_)
              · rw [if_pos hc] at hf
                exact zr_lv [0, 1, 2, 3, 4, 5, 6, 7] rfl (hb37 () hf)
              · rw [if_neg hc] at hf
                refine zr_iconst 1 dX12_listens_131 (by decide) ?_
                refine zr_goto 136 dX12_listens_132 (by decide) ?_
                cases hf
                exact zr_lv [0, 1, 2, 3, 4, 5, 6, 7] rfl hj36
          clear hf
          have hf := hg
          clear hg
          refine zr_if_eq 109 dX12_listens_101 (by decide) (fun hc => ?_) (fun hc => ?_)
          · rw [if_pos hc] at hf
            refine zr_iconst 0 dX12_listens_109 (by decide) ?_
            cases hf
            exact zr_lv [0, 1, 2, 3, 4, 5, 6, 7] rfl hj30
          · rw [if_neg hc] at hf
            refine zr_iload 6 dX12_listens_104 rfl ?_
            refine zr_goto 110 dX12_listens_106 (by decide) ?_
            cases hf
            exact zr_lv [0, 1, 2, 3, 4, 5, 6, 7] rfl hj30
        clear hf
        have hf := hg
        clear hg
        refine zr_icmp_gt 81 dX12_listens_74 (by decide) (fun hc => ?_) (fun hc => ?_)
        · rw [if_pos hc] at hf
          refine zr_iconst 0 dX12_listens_81 (by decide) ?_
          cases hf
          exact zr_lv [3, 4, 5, 6, 7, 2, 1, 0] rfl hj22
        · rw [if_neg hc] at hf
          refine zr_iconst 1 dX12_listens_77 (by decide) ?_
          refine zr_goto 82 dX12_listens_78 (by decide) ?_
          cases hf
          exact zr_lv [3, 4, 5, 6, 7, 2, 1, 0] rfl hj22
  exact zr_lv [1, 2, 3, 4, 0] rfl (hL54 _ 0 μ hf)
