theorem zl_1048 : Cond.code yX12_wayOf cX12_wayOf 4 (some .int) ∈ zt := zt_at 1673 (by decide +kernel)
theorem zvs_X12_wayOf : zvS yX12_wayOf cX12_wayOf 4 (some .int) 3 := ⟨zl_1048, zl_893, ⟨by decide +kernel, by decide +kernel, by decide +kernel⟩, by decide⟩
theorem zl_1049 : Cond.methodLink RX12 291 yX12_wayOf ∈ zt := zt_at 1670 (by decide +kernel)
theorem zl_1050 : Cond.instanceMethod yX12_wayOf ∈ zt := zt_at 1672 (by decide +kernel)
theorem zl_1051 : Cond.selects RX12 yX12_wayOf yX12_wayOf ∈ zt := zt_at 74 (by decide +kernel)
theorem zl_1052 : Cond.code yX12_range cX12_range 1 (some .int) ∈ zt := zt_at 1679 (by decide +kernel)
theorem zvs_X12_range : zvS yX12_range cX12_range 1 (some .int) 1 := ⟨zl_1052, zl_893, ⟨by decide +kernel, by decide +kernel, by decide +kernel⟩, by decide⟩
theorem zl_1053 : Cond.methodLink RX12 295 yX12_range ∈ zt := zt_at 1677 (by decide +kernel)
theorem zl_1054 : Cond.static yX12_range ∈ zt := zt_at 1678 (by decide +kernel)
theorem dX12_comes_0 : decode cX12_comes 0 = .ok (.aload_n 0, 1) := by decide +kernel
theorem dX12_comes_1 : decode cX12_comes 1 = .ok (.iload_n 1, 1) := by decide +kernel
theorem dX12_comes_2 : decode cX12_comes 2 = .ok (.iload 5, 2) := by decide +kernel
theorem dX12_comes_4 : decode cX12_comes 4 = .ok (.iload 6, 2) := by decide +kernel
theorem dX12_comes_6 : decode cX12_comes 6 = .ok (.invokevirtual 291, 3) := by decide +kernel
theorem dX12_comes_9 : decode cX12_comes 9 = .ok (.istore 7, 2) := by decide +kernel
theorem dX12_comes_11 : decode cX12_comes 11 = .ok (.iload 7, 2) := by decide +kernel
theorem dX12_comes_13 : decode cX12_comes 13 = .ok (.iload_n 3, 1) := by decide +kernel
theorem dX12_comes_14 : decode cX12_comes 14 = .ok (.invokestatic 295, 3) := by decide +kernel
theorem dX12_comes_17 : decode cX12_comes 17 = .ok (.if_icmp .gt 14, 3) := by decide +kernel
theorem dX12_comes_20 : decode cX12_comes 20 = .ok (.aload_n 0, 1) := by decide +kernel
theorem dX12_comes_21 : decode cX12_comes 21 = .ok (.iload 6, 2) := by decide +kernel
theorem dX12_comes_23 : decode cX12_comes 23 = .ok (.iload 4, 2) := by decide +kernel
theorem dX12_comes_25 : decode cX12_comes 25 = .ok (.invokevirtual 285, 3) := by decide +kernel
theorem dX12_comes_28 : decode cX12_comes 28 = .ok (.ifCond .eq 5, 3) := by decide +kernel
theorem dX12_comes_31 : decode cX12_comes 31 = .ok (.iconst (-1), 1) := by decide +kernel
theorem dX12_comes_32 : decode cX12_comes 32 = .ok (.ireturn, 1) := by decide +kernel
theorem dX12_comes_33 : decode cX12_comes 33 = .ok (.iload 4, 2) := by decide +kernel
theorem dX12_comes_35 : decode cX12_comes 35 = .ok (.iload 7, 2) := by decide +kernel
theorem dX12_comes_37 : decode cX12_comes 37 = .ok (.iadd, 1) := by decide +kernel
theorem dX12_comes_38 : decode cX12_comes 38 = .ok (.aload_n 0, 1) := by decide +kernel
theorem dX12_comes_39 : decode cX12_comes 39 = .ok (.iload 6, 2) := by decide +kernel
theorem dX12_comes_41 : decode cX12_comes 41 = .ok (.iload 4, 2) := by decide +kernel
theorem dX12_comes_43 : decode cX12_comes 43 = .ok (.invokevirtual 288, 3) := by decide +kernel
theorem dX12_comes_46 : decode cX12_comes 46 = .ok (.ifCond .eq 14, 3) := by decide +kernel
theorem dX12_comes_49 : decode cX12_comes 49 = .ok (.aload_n 0, 1) := by decide +kernel
theorem dX12_comes_50 : decode cX12_comes 50 = .ok (.bipush 11, 2) := by decide +kernel
theorem dX12_comes_52 : decode cX12_comes 52 = .ok (.iload_n 2, 1) := by decide +kernel
theorem dX12_comes_53 : decode cX12_comes 53 = .ok (.iadd, 1) := by decide +kernel
theorem dX12_comes_54 : decode cX12_comes 54 = .ok (.invokevirtual 269, 3) := by decide +kernel
theorem dX12_comes_57 : decode cX12_comes 57 = .ok (.goto 4, 3) := by decide +kernel
theorem dX12_comes_60 : decode cX12_comes 60 = .ok (.iconst 0, 1) := by decide +kernel
theorem dX12_comes_61 : decode cX12_comes 61 = .ok (.iadd, 1) := by decide +kernel
theorem dX12_comes_62 : decode cX12_comes 62 = .ok (.ireturn, 1) := by decide +kernel
noncomputable def fX12_comes (μ : zM) (x0 : Nat) (x1 : Int32) (x2 : Int32) (x3 : Int32) (x4 : Int32) (x5 : Int32) (x6 : Int32) : Option (Int32) := zgd (zm_ck μ 12 x0) <|
  zb1 (fX12_wayOf μ x0 x1 x5 x6) fun v2 =>
  zb1 (fX12_range μ x3) fun v4 =>
  if v4 < v2 then (
  some (-1))
  else (
  zb1 (fX12_isStill μ x0 x6 x4) fun v6 =>
  if v6 = 0 then (
  zb1 (fX12_judges μ x0 x6 x4) fun v8 =>
  zb1 (if v8 = 0 then (
  some 0)
  else (
  zb1 (fX12_of μ x0 (11 + x2)) fun v12 =>
  some v12) : Option (Int32)) fun (s9 : Int32) =>
  some ((x4 + v2) + s9))
  else (
  some (-1)))
theorem fX12_comes_ck {μ : zM} {x0 : Nat} {x1 : Int32} {x2 : Int32} {x3 : Int32} {x4 : Int32} {x5 : Int32} {x6 : Int32} {z : Int32} (h : fX12_comes μ x0 x1 x2 x3 x4 x5 x6 = some z) : zm_ck μ 12 x0 = true := (zgd_s h).1
set_option maxHeartbeats 4000000 in
set_option maxRecDepth 100000 in
theorem cX12_comes_ok {μ : zM} {x0 : Nat} {x1 : Int32} {x2 : Int32} {x3 : Int32} {x4 : Int32} {x5 : Int32} {x6 : Int32} {r : Int32} (hf : fX12_comes μ x0 x1 x2 x3 x4 x5 x6 = some r) : zC yX12_comes cX12_comes 8 (some .int) 3 0 0 [.ref x0, .int x1, .int x2, .int x3, .int x4, .int x5, .int x6] μ (some (.int r)) μ := by
  replace hf := (zgd_s hf).2
  refine zC.of (by decide) (Nat.le_of_ble_eq_true rfl) (fun K hin => ?_)
  clear hin
  show zz K cX12_comes (8, RX12, some .int, 3, 0, 0, some (.int r), μ) 0 0 0 [(0, .ref x0), (1, .int x1), (2, .int x2), (3, .int x3), (4, .int x4), (5, .int x5), (6, .int x6)] [] μ
  refine zr_aload_n 0 dX12_comes_0 rfl ?_
  refine zr_iload_n 1 dX12_comes_1 rfl ?_
  refine zr_iload 5 dX12_comes_2 rfl ?_
  refine zr_iload 6 dX12_comes_4 rfl ?_
  replace hf := zb1_s hf
  obtain ⟨v2, h1, hf⟩ := hf
  refine zr_callV (ci := 12) [.int x1, .int x5, .int x6] (cX12_wayOf_ok h1) zvs_X12_wayOf zl_1050 zl_1051 (fX12_wayOf_ck h1) rfl rfl zl_1049 rfl (Nat.le_of_ble_eq_true rfl) (Nat.le_of_ble_eq_true rfl) (Nat.le_of_ble_eq_true rfl) (Nat.le_of_ble_eq_true rfl) dX12_comes_6 rfl ?_
  refine zr_istore [(7, .int v2), (0, .ref x0), (1, .int x1), (2, .int x2), (3, .int x3), (4, .int x4), (5, .int x5), (6, .int x6)] dX12_comes_9 (Nat.le_of_ble_eq_true rfl) rfl ?_
  refine zr_iload 0 dX12_comes_11 rfl ?_
  refine zr_iload_n 4 dX12_comes_13 rfl ?_
  replace hf := zb1_s hf
  obtain ⟨v4, h3, hf⟩ := hf
  refine zr_callS [.int x3] (cX12_range_ok h3) zvs_X12_range zl_1054 zl_1053 rfl (Nat.le_of_ble_eq_true rfl) (Nat.le_of_ble_eq_true rfl) (Nat.le_of_ble_eq_true rfl) (Nat.le_of_ble_eq_true rfl) dX12_comes_14 rfl ?_
  refine zr_icmp_gt 31 dX12_comes_17 (by decide) (fun hc => ?_) (fun hc => ?_)
  · rw [if_pos hc] at hf
    refine zr_iconst (-1) dX12_comes_31 (by decide) ?_
    cases hf
    exact zr_iret dX12_comes_32
  · rw [if_neg hc] at hf
    refine zr_aload_n 1 dX12_comes_20 rfl ?_
    refine zr_iload 7 dX12_comes_21 rfl ?_
    refine zr_iload 5 dX12_comes_23 rfl ?_
    replace hf := zb1_s hf
    obtain ⟨v6, h5, hf⟩ := hf
    refine zr_callV (ci := 12) [.int x6, .int x4] (cX12_isStill_ok h5) zvs_X12_isStill zl_1042 zl_1043 (fX12_isStill_ck h5) rfl rfl zl_1041 rfl (Nat.le_of_ble_eq_true rfl) (Nat.le_of_ble_eq_true rfl) (Nat.le_of_ble_eq_true rfl) (Nat.le_of_ble_eq_true rfl) dX12_comes_25 rfl ?_
    refine zr_if_eq 33 dX12_comes_28 (by decide) (fun hc => ?_) (fun hc => ?_)
    · rw [if_pos hc] at hf
      refine zr_iload 5 dX12_comes_33 rfl ?_
      refine zr_iload 0 dX12_comes_35 rfl ?_
      refine zr_iadd dX12_comes_37 ?_
      refine zr_aload_n 1 dX12_comes_38 rfl ?_
      refine zr_iload 7 dX12_comes_39 rfl ?_
      refine zr_iload 5 dX12_comes_41 rfl ?_
      replace hf := zb1_s hf
      obtain ⟨v8, h7, hf⟩ := hf
      refine zr_callV (ci := 12) [.int x6, .int x4] (cX12_judges_ok h7) zvs_X12_judges zl_1046 zl_1047 (fX12_judges_ck h7) rfl rfl zl_1045 rfl (Nat.le_of_ble_eq_true rfl) (Nat.le_of_ble_eq_true rfl) (Nat.le_of_ble_eq_true rfl) (Nat.le_of_ble_eq_true rfl) dX12_comes_43 rfl ?_
      replace hf := zb1_s hf
      obtain ⟨s9, hg, hf⟩ := hf
      have hj10 : zz K cX12_comes (8, RX12, some .int, 3, 0, 0, some (.int r), μ) 0 0 61 [] [.int s9, .int (x4 + v2)] μ := by
        refine zr_iadd dX12_comes_61 ?_
        cases hf
        exact zr_iret dX12_comes_62
      clear hf
      have hf := hg
      clear hg
      refine zr_if_eq 60 dX12_comes_46 (by decide) (fun hc => ?_) (fun hc => ?_)
      · rw [if_pos hc] at hf
        refine zr_iconst 0 dX12_comes_60 (by decide) ?_
        cases hf
        exact zr_lv [] rfl hj10
      · rw [if_neg hc] at hf
        refine zr_aload_n 1 dX12_comes_49 rfl ?_
        refine zr_bipush 11 dX12_comes_50 (by decide) ?_
        refine zr_iload_n 3 dX12_comes_52 rfl ?_
        refine zr_iadd dX12_comes_53 ?_
        replace hf := zb1_s hf
        obtain ⟨v12, h11, hf⟩ := hf
        refine zr_callV (ci := 12) [.int (11 + x2)] (cX12_of_ok h11) zvs_X12_of zl_1029 zl_1030 (fX12_of_ck h11) rfl rfl zl_1028 rfl (Nat.le_of_ble_eq_true rfl) (Nat.le_of_ble_eq_true rfl) (Nat.le_of_ble_eq_true rfl) (Nat.le_of_ble_eq_true rfl) dX12_comes_54 rfl ?_
        refine zr_goto 61 dX12_comes_57 (by decide) ?_
        cases hf
        exact zr_lv [] rfl hj10
    · rw [if_neg hc] at hf
      refine zr_iconst (-1) dX12_comes_31 (by decide) ?_
      cases hf
      exact zr_iret dX12_comes_32
theorem zl_1055 : Cond.code yX12_hand cX12_hand 2 (some .boolean) ∈ zt := zt_at 1646 (by decide +kernel)
theorem zvs_X12_hand : zvS yX12_hand cX12_hand 2 (some .boolean) 1 := ⟨zl_1055, zl_893, ⟨by decide +kernel, by decide +kernel, by decide +kernel⟩, by decide⟩
theorem zl_1056 : Cond.methodLink RX12 298 yX12_hand ∈ zt := zt_at 1643 (by decide +kernel)
theorem zl_1057 : Cond.instanceMethod yX12_hand ∈ zt := zt_at 1645 (by decide +kernel)
theorem zl_1058 : Cond.selects RX12 yX12_hand yX12_hand ∈ zt := zt_at 69 (by decide +kernel)
theorem zl_1059 : Cond.code yX12_isPerson cX12_isPerson 2 (some .boolean) ∈ zt := zt_at 1654 (by decide +kernel)
theorem zvs_X12_isPerson : zvS yX12_isPerson cX12_isPerson 2 (some .boolean) 1 := ⟨zl_1059, zl_893, ⟨by decide +kernel, by decide +kernel, by decide +kernel⟩, by decide⟩
theorem zl_1060 : Cond.methodLink RX12 301 yX12_isPerson ∈ zt := zt_at 1651 (by decide +kernel)
theorem zl_1061 : Cond.instanceMethod yX12_isPerson ∈ zt := zt_at 1653 (by decide +kernel)
theorem zl_1062 : Cond.selects RX12 yX12_isPerson yX12_isPerson ∈ zt := zt_at 71 (by decide +kernel)
theorem dX12_valley_0 : decode cX12_valley 0 = .ok (.aload_n 0, 1) := by decide +kernel
theorem dX12_valley_1 : decode cX12_valley 1 = .ok (.iconst 0, 1) := by decide +kernel
theorem dX12_valley_2 : decode cX12_valley 2 = .ok (.putfield 93, 3) := by decide +kernel
theorem dX12_valley_5 : decode cX12_valley 5 = .ok (.aload_n 0, 1) := by decide +kernel
theorem dX12_valley_6 : decode cX12_valley 6 = .ok (.iload_n 1, 1) := by decide +kernel
theorem dX12_valley_7 : decode cX12_valley 7 = .ok (.invokevirtual 298, 3) := by decide +kernel
theorem dX12_valley_10 : decode cX12_valley 10 = .ok (.ifCond .ne 5, 3) := by decide +kernel
theorem dX12_valley_13 : decode cX12_valley 13 = .ok (.iconst (-1), 1) := by decide +kernel
theorem dX12_valley_14 : decode cX12_valley 14 = .ok (.ireturn, 1) := by decide +kernel
theorem dX12_valley_15 : decode cX12_valley 15 = .ok (.iload_n 2, 1) := by decide +kernel
theorem dX12_valley_16 : decode cX12_valley 16 = .ok (.bipush 10, 2) := by decide +kernel
theorem dX12_valley_18 : decode cX12_valley 18 = .ok (.irem, 1) := by decide +kernel
theorem dX12_valley_19 : decode cX12_valley 19 = .ok (.istore_n 3, 1) := by decide +kernel
theorem dX12_valley_20 : decode cX12_valley 20 = .ok (.iload_n 2, 1) := by decide +kernel
theorem dX12_valley_21 : decode cX12_valley 21 = .ok (.bipush 10, 2) := by decide +kernel
theorem dX12_valley_23 : decode cX12_valley 23 = .ok (.idiv, 1) := by decide +kernel
theorem dX12_valley_24 : decode cX12_valley 24 = .ok (.istore 4, 2) := by decide +kernel
theorem dX12_valley_26 : decode cX12_valley 26 = .ok (.iload_n 2, 1) := by decide +kernel
theorem dX12_valley_27 : decode cX12_valley 27 = .ok (.bipush 10, 2) := by decide +kernel
theorem dX12_valley_29 : decode cX12_valley 29 = .ok (.bipush 39, 2) := by decide +kernel
theorem dX12_valley_31 : decode cX12_valley 31 = .ok (.invokestatic 101, 3) := by decide +kernel
theorem dX12_valley_34 : decode cX12_valley 34 = .ok (.ifCond .eq 29, 3) := by decide +kernel
theorem dX12_valley_37 : decode cX12_valley 37 = .ok (.iload_n 3, 1) := by decide +kernel
theorem dX12_valley_38 : decode cX12_valley 38 = .ok (.bipush 8, 2) := by decide +kernel
theorem dX12_valley_40 : decode cX12_valley 40 = .ok (.if_icmp .ge 21, 3) := by decide +kernel
theorem dX12_valley_43 : decode cX12_valley 43 = .ok (.aload_n 0, 1) := by decide +kernel
theorem dX12_valley_44 : decode cX12_valley 44 = .ok (.iconst 3, 1) := by decide +kernel
theorem dX12_valley_45 : decode cX12_valley 45 = .ok (.bipush 8, 2) := by decide +kernel
theorem dX12_valley_47 : decode cX12_valley 47 = .ok (.iload 4, 2) := by decide +kernel
theorem dX12_valley_49 : decode cX12_valley 49 = .ok (.iconst 1, 1) := by decide +kernel
theorem dX12_valley_50 : decode cX12_valley 50 = .ok (.isub, 1) := by decide +kernel
theorem dX12_valley_51 : decode cX12_valley 51 = .ok (.imul, 1) := by decide +kernel
theorem dX12_valley_52 : decode cX12_valley 52 = .ok (.iadd, 1) := by decide +kernel
theorem dX12_valley_53 : decode cX12_valley 53 = .ok (.iload_n 3, 1) := by decide +kernel
theorem dX12_valley_54 : decode cX12_valley 54 = .ok (.iadd, 1) := by decide +kernel
theorem dX12_valley_55 : decode cX12_valley 55 = .ok (.invokevirtual 269, 3) := by decide +kernel
theorem dX12_valley_58 : decode cX12_valley 58 = .ok (.goto 4, 3) := by decide +kernel
theorem dX12_valley_61 : decode cX12_valley 61 = .ok (.iconst (-1), 1) := by decide +kernel
theorem dX12_valley_62 : decode cX12_valley 62 = .ok (.ireturn, 1) := by decide +kernel
theorem dX12_valley_63 : decode cX12_valley 63 = .ok (.iload_n 2, 1) := by decide +kernel
theorem dX12_valley_64 : decode cX12_valley 64 = .ok (.bipush 40, 2) := by decide +kernel
theorem dX12_valley_66 : decode cX12_valley 66 = .ok (.bipush 69, 2) := by decide +kernel
theorem dX12_valley_68 : decode cX12_valley 68 = .ok (.invokestatic 101, 3) := by decide +kernel
theorem dX12_valley_71 : decode cX12_valley 71 = .ok (.ifCond .eq 32, 3) := by decide +kernel
theorem dX12_valley_74 : decode cX12_valley 74 = .ok (.aload_n 0, 1) := by decide +kernel
theorem dX12_valley_75 : decode cX12_valley 75 = .ok (.iload_n 3, 1) := by decide +kernel
theorem dX12_valley_76 : decode cX12_valley 76 = .ok (.invokevirtual 301, 3) := by decide +kernel
theorem dX12_valley_79 : decode cX12_valley 79 = .ok (.ifCond .eq 22, 3) := by decide +kernel
theorem dX12_valley_82 : decode cX12_valley 82 = .ok (.aload_n 0, 1) := by decide +kernel
theorem dX12_valley_83 : decode cX12_valley 83 = .ok (.bipush 27, 2) := by decide +kernel
theorem dX12_valley_85 : decode cX12_valley 85 = .ok (.bipush 6, 2) := by decide +kernel
theorem dX12_valley_87 : decode cX12_valley 87 = .ok (.iload 4, 2) := by decide +kernel
theorem dX12_valley_89 : decode cX12_valley 89 = .ok (.iconst 4, 1) := by decide +kernel
theorem dX12_valley_90 : decode cX12_valley 90 = .ok (.isub, 1) := by decide +kernel
theorem dX12_valley_91 : decode cX12_valley 91 = .ok (.imul, 1) := by decide +kernel
theorem dX12_valley_92 : decode cX12_valley 92 = .ok (.iadd, 1) := by decide +kernel
theorem dX12_valley_93 : decode cX12_valley 93 = .ok (.iload_n 3, 1) := by decide +kernel
theorem dX12_valley_94 : decode cX12_valley 94 = .ok (.iadd, 1) := by decide +kernel
theorem dX12_valley_95 : decode cX12_valley 95 = .ok (.invokevirtual 269, 3) := by decide +kernel
theorem dX12_valley_98 : decode cX12_valley 98 = .ok (.goto 4, 3) := by decide +kernel
theorem dX12_valley_101 : decode cX12_valley 101 = .ok (.iconst (-1), 1) := by decide +kernel
theorem dX12_valley_102 : decode cX12_valley 102 = .ok (.ireturn, 1) := by decide +kernel
theorem dX12_valley_103 : decode cX12_valley 103 = .ok (.iload_n 2, 1) := by decide +kernel
theorem dX12_valley_104 : decode cX12_valley 104 = .ok (.bipush 70, 2) := by decide +kernel
theorem dX12_valley_106 : decode cX12_valley 106 = .ok (.bipush 99, 2) := by decide +kernel
theorem dX12_valley_108 : decode cX12_valley 108 = .ok (.invokestatic 101, 3) := by decide +kernel
theorem dX12_valley_111 : decode cX12_valley 111 = .ok (.ifCond .eq 33, 3) := by decide +kernel
theorem dX12_valley_114 : decode cX12_valley 114 = .ok (.iload_n 3, 1) := by decide +kernel
theorem dX12_valley_115 : decode cX12_valley 115 = .ok (.aload_n 0, 1) := by decide +kernel
theorem dX12_valley_116 : decode cX12_valley 116 = .ok (.iconst 2, 1) := by decide +kernel
theorem dX12_valley_117 : decode cX12_valley 117 = .ok (.invokevirtual 269, 3) := by decide +kernel
theorem dX12_valley_120 : decode cX12_valley 120 = .ok (.if_icmp .ge 22, 3) := by decide +kernel
theorem dX12_valley_123 : decode cX12_valley 123 = .ok (.aload_n 0, 1) := by decide +kernel
theorem dX12_valley_124 : decode cX12_valley 124 = .ok (.bipush 45, 2) := by decide +kernel
theorem dX12_valley_126 : decode cX12_valley 126 = .ok (.iconst 4, 1) := by decide +kernel
theorem dX12_valley_127 : decode cX12_valley 127 = .ok (.iload 4, 2) := by decide +kernel
theorem dX12_valley_129 : decode cX12_valley 129 = .ok (.bipush 7, 2) := by decide +kernel
theorem dX12_valley_131 : decode cX12_valley 131 = .ok (.isub, 1) := by decide +kernel
theorem dX12_valley_132 : decode cX12_valley 132 = .ok (.imul, 1) := by decide +kernel
theorem dX12_valley_133 : decode cX12_valley 133 = .ok (.iadd, 1) := by decide +kernel
theorem dX12_valley_134 : decode cX12_valley 134 = .ok (.iload_n 3, 1) := by decide +kernel
theorem dX12_valley_135 : decode cX12_valley 135 = .ok (.iadd, 1) := by decide +kernel
theorem dX12_valley_136 : decode cX12_valley 136 = .ok (.invokevirtual 269, 3) := by decide +kernel
theorem dX12_valley_139 : decode cX12_valley 139 = .ok (.goto 4, 3) := by decide +kernel
theorem dX12_valley_142 : decode cX12_valley 142 = .ok (.iconst (-1), 1) := by decide +kernel
theorem dX12_valley_143 : decode cX12_valley 143 = .ok (.ireturn, 1) := by decide +kernel
theorem dX12_valley_144 : decode cX12_valley 144 = .ok (.iload_n 2, 1) := by decide +kernel
theorem dX12_valley_145 : decode cX12_valley 145 = .ok (.iconst 0, 1) := by decide +kernel
theorem dX12_valley_146 : decode cX12_valley 146 = .ok (.iconst 2, 1) := by decide +kernel
theorem dX12_valley_147 : decode cX12_valley 147 = .ok (.invokestatic 101, 3) := by decide +kernel
theorem dX12_valley_150 : decode cX12_valley 150 = .ok (.ifCond .eq 11, 3) := by decide +kernel
theorem dX12_valley_153 : decode cX12_valley 153 = .ok (.aload_n 0, 1) := by decide +kernel
theorem dX12_valley_154 : decode cX12_valley 154 = .ok (.iload_n 2, 1) := by decide +kernel
theorem dX12_valley_155 : decode cX12_valley 155 = .ok (.invokevirtual 269, 3) := by decide +kernel
theorem dX12_valley_158 : decode cX12_valley 158 = .ok (.goto 4, 3) := by decide +kernel
theorem dX12_valley_161 : decode cX12_valley 161 = .ok (.iconst (-1), 1) := by decide +kernel
theorem dX12_valley_162 : decode cX12_valley 162 = .ok (.ireturn, 1) := by decide +kernel
noncomputable def fX12_valley (μ : zM) (x0 : Nat) (x1 : Int32) (x2 : Int32) : Option (Int32 × zM) := zgd (zm_ck μ 12 x0) <|
  zb1 (zm_p μ 12 x0 0 (.int 0)) fun m1 =>
  zb2 (fX12_hand m1 x0 x1) fun v5 m4 =>
  if v5 = 0 then (
  some ((-1), m4))
  else (
  zb1 (fX12_in m4 x2 10 39) fun v7 =>
  if v7 = 0 then (
  zb1 (fX12_in m4 x2 40 69) fun v9 =>
  if v9 = 0 then (
  zb1 (fX12_in m4 x2 70 99) fun v11 =>
  if v11 = 0 then (
  zb1 (fX12_in m4 x2 0 2) fun v13 =>
  zb1 (if v13 = 0 then (
  some (-1))
  else (
  zb1 (fX12_of m4 x0 x2) fun v17 =>
  some v17) : Option (Int32)) fun (s14 : Int32) =>
  some (s14, m4))
  else (
  zb1 (fX12_of m4 x0 2) fun v19 =>
  zb1 (if v19 ≤ (x2 - x2 / 10 * 10) then (
  some (-1))
  else (
  zb1 (fX12_of m4 x0 ((45 + (4 * ((x2 / 10) - 7))) + (x2 - x2 / 10 * 10))) fun v23 =>
  some v23) : Option (Int32)) fun (s20 : Int32) =>
  some (s20, m4)))
  else (
  zb1 (fX12_isPerson m4 x0 (x2 - x2 / 10 * 10)) fun v25 =>
  zb1 (if v25 = 0 then (
  some (-1))
  else (
  zb1 (fX12_of m4 x0 ((27 + (6 * ((x2 / 10) - 4))) + (x2 - x2 / 10 * 10))) fun v29 =>
  some v29) : Option (Int32)) fun (s26 : Int32) =>
  some (s26, m4)))
  else (
  zb1 (if 8 ≤ (x2 - x2 / 10 * 10) then (
  some (-1))
  else (
  zb1 (fX12_of m4 x0 ((3 + (8 * ((x2 / 10) - 1))) + (x2 - x2 / 10 * 10))) fun v33 =>
  some v33) : Option (Int32)) fun (s30 : Int32) =>
  some (s30, m4)))
theorem fX12_valley_ck {μ : zM} {x0 : Nat} {x1 : Int32} {x2 : Int32} {z : Int32 × zM} (h : fX12_valley μ x0 x1 x2 = some z) : zm_ck μ 12 x0 = true := (zgd_s h).1
set_option maxHeartbeats 4000000 in
set_option maxRecDepth 100000 in
theorem cX12_valley_ok {μ : zM} {x0 : Nat} {x1 : Int32} {x2 : Int32} {r : Int32} {mo : zM} (hf : fX12_valley μ x0 x1 x2 = some (r, mo)) : zC yX12_valley cX12_valley 5 (some .int) 3 0 0 [.ref x0, .int x1, .int x2] μ (some (.int r)) mo := by
  replace hf := (zgd_s hf).2
  refine zC.of (by decide) (Nat.le_of_ble_eq_true rfl) (fun K hin => ?_)
  clear hin
  show zz K cX12_valley (5, RX12, some .int, 3, 0, 0, some (.int r), mo) 0 0 0 [(0, .ref x0), (1, .int x1), (2, .int x2)] [] μ
  refine zr_aload_n 0 dX12_valley_0 rfl ?_
  refine zr_iconst 0 dX12_valley_1 (by decide) ?_
  replace hf := zb1_s hf
  obtain ⟨m1, h2, hf⟩ := hf
  refine zr_put h2 zk12 (by decide) zl_899 rfl rfl rfl dX12_valley_2 ?_
  refine zr_aload_n 0 dX12_valley_5 rfl ?_
  refine zr_iload_n 1 dX12_valley_6 rfl ?_
  replace hf := zb2_s hf
  obtain ⟨v5, m4, h3, hf⟩ := hf
  refine zr_callV (ci := 12) [.int x1] (cX12_hand_ok h3) zvs_X12_hand zl_1057 zl_1058 (fX12_hand_ck h3) rfl rfl zl_1056 rfl (Nat.le_of_ble_eq_true rfl) (Nat.le_of_ble_eq_true rfl) (Nat.le_of_ble_eq_true rfl) (Nat.le_of_ble_eq_true rfl) dX12_valley_7 rfl ?_
  refine zr_if_ne 15 dX12_valley_10 (by decide) (fun hc => ?_) (fun hc => ?_)
  · rw [if_neg hc] at hf
    refine zr_iload_n 2 dX12_valley_15 rfl ?_
    refine zr_bipush 10 dX12_valley_16 (by decide) ?_
    refine zr_irem dX12_valley_18 (by decide) ?_
    refine zr_istore_n [(3, .int (x2 - x2 / 10 * 10)), (0, .ref x0), (1, .int x1), (2, .int x2)] dX12_valley_19 (Nat.le_of_ble_eq_true rfl) rfl ?_
    refine zr_iload_n 3 dX12_valley_20 rfl ?_
    refine zr_bipush 10 dX12_valley_21 (by decide) ?_
    refine zr_idiv dX12_valley_23 (by decide) ?_
    refine zr_istore [(4, .int (x2 / 10)), (3, .int (x2 - x2 / 10 * 10)), (0, .ref x0), (1, .int x1), (2, .int x2)] dX12_valley_24 (Nat.le_of_ble_eq_true rfl) rfl ?_
    refine zr_iload_n 4 dX12_valley_26 rfl ?_
    refine zr_bipush 10 dX12_valley_27 (by decide) ?_
    refine zr_bipush 39 dX12_valley_29 (by decide) ?_
    replace hf := zb1_s hf
    obtain ⟨v7, h6, hf⟩ := hf
    refine zr_callS [.int x2, .int 10, .int 39] (cX12_in_ok h6) zvs_X12_in zl_898 zl_897 rfl (Nat.le_of_ble_eq_true rfl) (Nat.le_of_ble_eq_true rfl) (Nat.le_of_ble_eq_true rfl) (Nat.le_of_ble_eq_true rfl) dX12_valley_31 rfl ?_
    refine zr_if_eq 63 dX12_valley_34 (by decide) (fun hc => ?_) (fun hc => ?_)
    · rw [if_pos hc] at hf
      refine zr_iload_n 4 dX12_valley_63 rfl ?_
      refine zr_bipush 40 dX12_valley_64 (by decide) ?_
      refine zr_bipush 69 dX12_valley_66 (by decide) ?_
      replace hf := zb1_s hf
      obtain ⟨v9, h8, hf⟩ := hf
      refine zr_callS [.int x2, .int 40, .int 69] (cX12_in_ok h8) zvs_X12_in zl_898 zl_897 rfl (Nat.le_of_ble_eq_true rfl) (Nat.le_of_ble_eq_true rfl) (Nat.le_of_ble_eq_true rfl) (Nat.le_of_ble_eq_true rfl) dX12_valley_68 rfl ?_
      refine zr_if_eq 103 dX12_valley_71 (by decide) (fun hc => ?_) (fun hc => ?_)
      · rw [if_pos hc] at hf
        refine zr_iload_n 4 dX12_valley_103 rfl ?_
        refine zr_bipush 70 dX12_valley_104 (by decide) ?_
        refine zr_bipush 99 dX12_valley_106 (by decide) ?_
        replace hf := zb1_s hf
        obtain ⟨v11, h10, hf⟩ := hf
        refine zr_callS [.int x2, .int 70, .int 99] (cX12_in_ok h10) zvs_X12_in zl_898 zl_897 rfl (Nat.le_of_ble_eq_true rfl) (Nat.le_of_ble_eq_true rfl) (Nat.le_of_ble_eq_true rfl) (Nat.le_of_ble_eq_true rfl) dX12_valley_108 rfl ?_
        refine zr_if_eq 144 dX12_valley_111 (by decide) (fun hc => ?_) (fun hc => ?_)
        · rw [if_pos hc] at hf
          refine zr_iload_n 4 dX12_valley_144 rfl ?_
          refine zr_iconst 0 dX12_valley_145 (by decide) ?_
          refine zr_iconst 2 dX12_valley_146 (by decide) ?_
          replace hf := zb1_s hf
          obtain ⟨v13, h12, hf⟩ := hf
          refine zr_callS [.int x2, .int 0, .int 2] (cX12_in_ok h12) zvs_X12_in zl_898 zl_897 rfl (Nat.le_of_ble_eq_true rfl) (Nat.le_of_ble_eq_true rfl) (Nat.le_of_ble_eq_true rfl) (Nat.le_of_ble_eq_true rfl) dX12_valley_147 rfl ?_
          replace hf := zb1_s hf
          obtain ⟨s14, hg, hf⟩ := hf
          have hj15 : zz K cX12_valley (5, RX12, some .int, 3, 0, 0, some (.int r), mo) 0 0 162 [] [.int s14] m4 := by
            cases hf
            exact zr_iret dX12_valley_162
          clear hf
          have hf := hg
          clear hg
          refine zr_if_eq 161 dX12_valley_150 (by decide) (fun hc => ?_) (fun hc => ?_)
          · rw [if_pos hc] at hf
            refine zr_iconst (-1) dX12_valley_161 (by decide) ?_
            cases hf
            exact zr_lv [] rfl hj15
          · rw [if_neg hc] at hf
            refine zr_aload_n 2 dX12_valley_153 rfl ?_
            refine zr_iload_n 4 dX12_valley_154 rfl ?_
            replace hf := zb1_s hf
            obtain ⟨v17, h16, hf⟩ := hf
            refine zr_callV (ci := 12) [.int x2] (cX12_of_ok h16) zvs_X12_of zl_1029 zl_1030 (fX12_of_ck h16) rfl rfl zl_1028 rfl (Nat.le_of_ble_eq_true rfl) (Nat.le_of_ble_eq_true rfl) (Nat.le_of_ble_eq_true rfl) (Nat.le_of_ble_eq_true rfl) dX12_valley_155 rfl ?_
            refine zr_goto 162 dX12_valley_158 (by decide) ?_
            cases hf
            exact zr_lv [] rfl hj15
        · rw [if_neg hc] at hf
          refine zr_iload_n 1 dX12_valley_114 rfl ?_
          refine zr_aload_n 2 dX12_valley_115 rfl ?_
          refine zr_iconst 2 dX12_valley_116 (by decide) ?_
          replace hf := zb1_s hf
          obtain ⟨v19, h18, hf⟩ := hf
          refine zr_callV (ci := 12) [.int 2] (cX12_of_ok h18) zvs_X12_of zl_1029 zl_1030 (fX12_of_ck h18) rfl rfl zl_1028 rfl (Nat.le_of_ble_eq_true rfl) (Nat.le_of_ble_eq_true rfl) (Nat.le_of_ble_eq_true rfl) (Nat.le_of_ble_eq_true rfl) dX12_valley_117 rfl ?_
          replace hf := zb1_s hf
          obtain ⟨s20, hg, hf⟩ := hf
          have hj21 : zz K cX12_valley (5, RX12, some .int, 3, 0, 0, some (.int r), mo) 0 0 143 [] [.int s20] m4 := by
            cases hf
            exact zr_iret dX12_valley_143
          clear hf
          have hf := hg
          clear hg
          refine zr_icmp_ge 142 dX12_valley_120 (by decide) (fun hc => ?_) (fun hc => ?_)
          · rw [if_pos hc] at hf
            refine zr_iconst (-1) dX12_valley_142 (by decide) ?_
            cases hf
            exact zr_lv [] rfl hj21
          · rw [if_neg hc] at hf
            refine zr_aload_n 2 dX12_valley_123 rfl ?_
            refine zr_bipush 45 dX12_valley_124 (by decide) ?_
            refine zr_iconst 4 dX12_valley_126 (by decide) ?_
            refine zr_iload 0 dX12_valley_127 rfl ?_
            refine zr_bipush 7 dX12_valley_129 (by decide) ?_
            refine zr_isub dX12_valley_131 ?_
            refine zr_imul dX12_valley_132 ?_
            refine zr_iadd dX12_valley_133 ?_
            refine zr_iload_n 1 dX12_valley_134 rfl ?_
            refine zr_iadd dX12_valley_135 ?_
            replace hf := zb1_s hf
            obtain ⟨v23, h22, hf⟩ := hf
            refine zr_callV (ci := 12) [.int ((45 + (4 * ((x2 / 10) - 7))) + (x2 - x2 / 10 * 10))] (cX12_of_ok h22) zvs_X12_of zl_1029 zl_1030 (fX12_of_ck h22) rfl rfl zl_1028 rfl (Nat.le_of_ble_eq_true rfl) (Nat.le_of_ble_eq_true rfl) (Nat.le_of_ble_eq_true rfl) (Nat.le_of_ble_eq_true rfl) dX12_valley_136 rfl ?_
            refine zr_goto 143 dX12_valley_139 (by decide) ?_
            cases hf
            exact zr_lv [] rfl hj21
      · rw [if_neg hc] at hf
        refine zr_aload_n 2 dX12_valley_74 rfl ?_
        refine zr_iload_n 1 dX12_valley_75 rfl ?_
        replace hf := zb1_s hf
        obtain ⟨v25, h24, hf⟩ := hf
        refine zr_callV (ci := 12) [.int (x2 - x2 / 10 * 10)] (cX12_isPerson_ok h24) zvs_X12_isPerson zl_1061 zl_1062 (fX12_isPerson_ck h24) rfl rfl zl_1060 rfl (Nat.le_of_ble_eq_true rfl) (Nat.le_of_ble_eq_true rfl) (Nat.le_of_ble_eq_true rfl) (Nat.le_of_ble_eq_true rfl) dX12_valley_76 rfl ?_
        replace hf := zb1_s hf
        obtain ⟨s26, hg, hf⟩ := hf
        have hj27 : zz K cX12_valley (5, RX12, some .int, 3, 0, 0, some (.int r), mo) 0 0 102 [] [.int s26] m4 := by
          cases hf
          exact zr_iret dX12_valley_102
        clear hf
        have hf := hg
        clear hg
        refine zr_if_eq 101 dX12_valley_79 (by decide) (fun hc => ?_) (fun hc => ?_)
        · rw [if_pos hc] at hf
          refine zr_iconst (-1) dX12_valley_101 (by decide) ?_
          cases hf
          exact zr_lv [] rfl hj27
        · rw [if_neg hc] at hf
          refine zr_aload_n 2 dX12_valley_82 rfl ?_
          refine zr_bipush 27 dX12_valley_83 (by decide) ?_
          refine zr_bipush 6 dX12_valley_85 (by decide) ?_
          refine zr_iload 0 dX12_valley_87 rfl ?_
          refine zr_iconst 4 dX12_valley_89 (by decide) ?_
          refine zr_isub dX12_valley_90 ?_
          refine zr_imul dX12_valley_91 ?_
          refine zr_iadd dX12_valley_92 ?_
          refine zr_iload_n 1 dX12_valley_93 rfl ?_
          refine zr_iadd dX12_valley_94 ?_
          replace hf := zb1_s hf
          obtain ⟨v29, h28, hf⟩ := hf
          refine zr_callV (ci := 12) [.int ((27 + (6 * ((x2 / 10) - 4))) + (x2 - x2 / 10 * 10))] (cX12_of_ok h28) zvs_X12_of zl_1029 zl_1030 (fX12_of_ck h28) rfl rfl zl_1028 rfl (Nat.le_of_ble_eq_true rfl) (Nat.le_of_ble_eq_true rfl) (Nat.le_of_ble_eq_true rfl) (Nat.le_of_ble_eq_true rfl) dX12_valley_95 rfl ?_
          refine zr_goto 102 dX12_valley_98 (by decide) ?_
          cases hf
          exact zr_lv [] rfl hj27
    · rw [if_neg hc] at hf
      refine zr_iload_n 1 dX12_valley_37 rfl ?_
      refine zr_bipush 8 dX12_valley_38 (by decide) ?_
      replace hf := zb1_s hf
      obtain ⟨s30, hg, hf⟩ := hf
      have hj31 : zz K cX12_valley (5, RX12, some .int, 3, 0, 0, some (.int r), mo) 0 0 62 [] [.int s30] m4 := by
        cases hf
        exact zr_iret dX12_valley_62
      clear hf
      have hf := hg
      clear hg
      refine zr_icmp_ge 61 dX12_valley_40 (by decide) (fun hc => ?_) (fun hc => ?_)
      · rw [if_pos hc] at hf
        refine zr_iconst (-1) dX12_valley_61 (by decide) ?_
        cases hf
        exact zr_lv [] rfl hj31
      · rw [if_neg hc] at hf
        refine zr_aload_n 2 dX12_valley_43 rfl ?_
        refine zr_iconst 3 dX12_valley_44 (by decide) ?_
        refine zr_bipush 8 dX12_valley_45 (by decide) ?_
        refine zr_iload 0 dX12_valley_47 rfl ?_
        refine zr_iconst 1 dX12_valley_49 (by decide) ?_
        refine zr_isub dX12_valley_50 ?_
        refine zr_imul dX12_valley_51 ?_
        refine zr_iadd dX12_valley_52 ?_
        refine zr_iload_n 1 dX12_valley_53 rfl ?_
        refine zr_iadd dX12_valley_54 ?_
        replace hf := zb1_s hf
        obtain ⟨v33, h32, hf⟩ := hf
        refine zr_callV (ci := 12) [.int ((3 + (8 * ((x2 / 10) - 1))) + (x2 - x2 / 10 * 10))] (cX12_of_ok h32) zvs_X12_of zl_1029 zl_1030 (fX12_of_ck h32) rfl rfl zl_1028 rfl (Nat.le_of_ble_eq_true rfl) (Nat.le_of_ble_eq_true rfl) (Nat.le_of_ble_eq_true rfl) (Nat.le_of_ble_eq_true rfl) dX12_valley_55 rfl ?_
        refine zr_goto 62 dX12_valley_58 (by decide) ?_
        cases hf
        exact zr_lv [] rfl hj31
  · rw [if_pos hc] at hf
    refine zr_iconst (-1) dX12_valley_13 (by decide) ?_
    cases hf
    exact zr_iret dX12_valley_14
theorem zl_1063 : Cond.code yX12_isPlace cX12_isPlace 2 (some .boolean) ∈ zt := zt_at 1662 (by decide +kernel)
theorem zvs_X12_isPlace : zvS yX12_isPlace cX12_isPlace 2 (some .boolean) 1 := ⟨zl_1063, zl_893, ⟨by decide +kernel, by decide +kernel, by decide +kernel⟩, by decide⟩
theorem zl_1064 : Cond.methodLink RX12 304 yX12_isPlace ∈ zt := zt_at 1659 (by decide +kernel)
theorem zl_1065 : Cond.instanceMethod yX12_isPlace ∈ zt := zt_at 1661 (by decide +kernel)
theorem zl_1066 : Cond.selects RX12 yX12_isPlace yX12_isPlace ∈ zt := zt_at 72 (by decide +kernel)
theorem zl_1067 : Cond.code yX12_isWord cX12_isWord 1 (some .boolean) ∈ zt := zt_at 1665 (by decide +kernel)
theorem zvs_X12_isWord : zvS yX12_isWord cX12_isWord 1 (some .boolean) 1 := ⟨zl_1067, zl_893, ⟨by decide +kernel, by decide +kernel, by decide +kernel⟩, by decide⟩
theorem zl_1068 : Cond.methodLink RX12 307 yX12_isWord ∈ zt := zt_at 1663 (by decide +kernel)
theorem zl_1069 : Cond.static yX12_isWord ∈ zt := zt_at 1664 (by decide +kernel)
theorem zl_1070 : Cond.code yX12_comes cX12_comes 8 (some .int) ∈ zt := zt_at 1669 (by decide +kernel)
theorem zvs_X12_comes : zvS yX12_comes cX12_comes 8 (some .int) 6 := ⟨zl_1070, zl_893, ⟨by decide +kernel, by decide +kernel, by decide +kernel⟩, by decide⟩
theorem zl_1071 : Cond.methodLink RX12 310 yX12_comes ∈ zt := zt_at 1666 (by decide +kernel)
theorem zl_1072 : Cond.instanceMethod yX12_comes ∈ zt := zt_at 1668 (by decide +kernel)
theorem zl_1073 : Cond.selects RX12 yX12_comes yX12_comes ∈ zt := zt_at 73 (by decide +kernel)
theorem dX12_heard_0 : decode cX12_heard 0 = .ok (.aload_n 0, 1) := by decide +kernel
theorem dX12_heard_1 : decode cX12_heard 1 = .ok (.iconst 0, 1) := by decide +kernel
theorem dX12_heard_2 : decode cX12_heard 2 = .ok (.putfield 93, 3) := by decide +kernel
theorem dX12_heard_5 : decode cX12_heard 5 = .ok (.aload_n 0, 1) := by decide +kernel
theorem dX12_heard_6 : decode cX12_heard 6 = .ok (.iload_n 1, 1) := by decide +kernel
theorem dX12_heard_7 : decode cX12_heard 7 = .ok (.invokevirtual 298, 3) := by decide +kernel
theorem dX12_heard_10 : decode cX12_heard 10 = .ok (.ifCond .eq 58, 3) := by decide +kernel
theorem dX12_heard_13 : decode cX12_heard 13 = .ok (.aload_n 0, 1) := by decide +kernel
theorem dX12_heard_14 : decode cX12_heard 14 = .ok (.iload_n 2, 1) := by decide +kernel
theorem dX12_heard_15 : decode cX12_heard 15 = .ok (.invokevirtual 304, 3) := by decide +kernel
theorem dX12_heard_18 : decode cX12_heard 18 = .ok (.ifCond .eq 50, 3) := by decide +kernel
theorem dX12_heard_21 : decode cX12_heard 21 = .ok (.iload_n 3, 1) := by decide +kernel
theorem dX12_heard_22 : decode cX12_heard 22 = .ok (.invokestatic 307, 3) := by decide +kernel
theorem dX12_heard_25 : decode cX12_heard 25 = .ok (.ifCond .eq 43, 3) := by decide +kernel
theorem dX12_heard_28 : decode cX12_heard 28 = .ok (.iload 4, 2) := by decide +kernel
theorem dX12_heard_30 : decode cX12_heard 30 = .ok (.iconst 0, 1) := by decide +kernel
theorem dX12_heard_31 : decode cX12_heard 31 = .ok (.iconst 2, 1) := by decide +kernel
theorem dX12_heard_32 : decode cX12_heard 32 = .ok (.invokestatic 101, 3) := by decide +kernel
theorem dX12_heard_35 : decode cX12_heard 35 = .ok (.ifCond .eq 33, 3) := by decide +kernel
theorem dX12_heard_38 : decode cX12_heard 38 = .ok (.iload 5, 2) := by decide +kernel
theorem dX12_heard_40 : decode cX12_heard 40 = .ok (.iconst 0, 1) := by decide +kernel
theorem dX12_heard_41 : decode cX12_heard 41 = .ok (.bipush 99, 2) := by decide +kernel
theorem dX12_heard_43 : decode cX12_heard 43 = .ok (.invokestatic 101, 3) := by decide +kernel
theorem dX12_heard_46 : decode cX12_heard 46 = .ok (.ifCond .eq 22, 3) := by decide +kernel
theorem dX12_heard_49 : decode cX12_heard 49 = .ok (.aload_n 0, 1) := by decide +kernel
theorem dX12_heard_50 : decode cX12_heard 50 = .ok (.iload 6, 2) := by decide +kernel
theorem dX12_heard_52 : decode cX12_heard 52 = .ok (.invokevirtual 304, 3) := by decide +kernel
theorem dX12_heard_55 : decode cX12_heard 55 = .ok (.ifCond .eq 13, 3) := by decide +kernel
theorem dX12_heard_58 : decode cX12_heard 58 = .ok (.iload 7, 2) := by decide +kernel
theorem dX12_heard_60 : decode cX12_heard 60 = .ok (.iconst 0, 1) := by decide +kernel
theorem dX12_heard_61 : decode cX12_heard 61 = .ok (.iconst 2, 1) := by decide +kernel
theorem dX12_heard_62 : decode cX12_heard 62 = .ok (.invokestatic 101, 3) := by decide +kernel
theorem dX12_heard_65 : decode cX12_heard 65 = .ok (.ifCond .ne 5, 3) := by decide +kernel
theorem dX12_heard_68 : decode cX12_heard 68 = .ok (.iconst (-1), 1) := by decide +kernel
theorem dX12_heard_69 : decode cX12_heard 69 = .ok (.ireturn, 1) := by decide +kernel
theorem dX12_heard_70 : decode cX12_heard 70 = .ok (.aload_n 0, 1) := by decide +kernel
theorem dX12_heard_71 : decode cX12_heard 71 = .ok (.iload_n 2, 1) := by decide +kernel
theorem dX12_heard_72 : decode cX12_heard 72 = .ok (.iload_n 3, 1) := by decide +kernel
theorem dX12_heard_73 : decode cX12_heard 73 = .ok (.iload 4, 2) := by decide +kernel
theorem dX12_heard_75 : decode cX12_heard 75 = .ok (.iload 5, 2) := by decide +kernel
theorem dX12_heard_77 : decode cX12_heard 77 = .ok (.iload 6, 2) := by decide +kernel
theorem dX12_heard_79 : decode cX12_heard 79 = .ok (.iload 7, 2) := by decide +kernel
theorem dX12_heard_81 : decode cX12_heard 81 = .ok (.invokevirtual 310, 3) := by decide +kernel
theorem dX12_heard_84 : decode cX12_heard 84 = .ok (.ireturn, 1) := by decide +kernel
noncomputable def fX12_heard (μ : zM) (x0 : Nat) (x1 : Int32) (x2 : Int32) (x3 : Int32) (x4 : Int32) (x5 : Int32) (x6 : Int32) (x7 : Int32) : Option (Int32 × zM) := zgd (zm_ck μ 12 x0) <|
  zb1 (zm_p μ 12 x0 0 (.int 0)) fun m1 =>
  zb2 (fX12_hand m1 x0 x1) fun v5 m4 =>
  if v5 = 0 then (
  some ((-1), m4))
  else (
  zb1 (fX12_isPlace m4 x0 x2) fun v7 =>
  if v7 = 0 then (
  some ((-1), m4))
  else (
  zb1 (fX12_isWord m4 x3) fun v9 =>
  if v9 = 0 then (
  some ((-1), m4))
  else (
  zb1 (fX12_in m4 x4 0 2) fun v11 =>
  if v11 = 0 then (
  some ((-1), m4))
  else (
  zb1 (fX12_in m4 x5 0 99) fun v13 =>
  if v13 = 0 then (
  some ((-1), m4))
  else (
  zb1 (fX12_isPlace m4 x0 x6) fun v15 =>
  if v15 = 0 then (
  some ((-1), m4))
  else (
  zb1 (fX12_in m4 x7 0 2) fun v17 =>
  if v17 = 0 then (
  some ((-1), m4))
  else (
  zb1 (fX12_comes m4 x0 x2 x3 x4 x5 x6 x7) fun v19 =>
  some (v19, m4))))))))
theorem fX12_heard_ck {μ : zM} {x0 : Nat} {x1 : Int32} {x2 : Int32} {x3 : Int32} {x4 : Int32} {x5 : Int32} {x6 : Int32} {x7 : Int32} {z : Int32 × zM} (h : fX12_heard μ x0 x1 x2 x3 x4 x5 x6 x7 = some z) : zm_ck μ 12 x0 = true := (zgd_s h).1
set_option maxHeartbeats 4000000 in
set_option maxRecDepth 100000 in
theorem cX12_heard_ok {μ : zM} {x0 : Nat} {x1 : Int32} {x2 : Int32} {x3 : Int32} {x4 : Int32} {x5 : Int32} {x6 : Int32} {x7 : Int32} {r : Int32} {mo : zM} (hf : fX12_heard μ x0 x1 x2 x3 x4 x5 x6 x7 = some (r, mo)) : zC yX12_heard cX12_heard 8 (some .int) 4 0 0 [.ref x0, .int x1, .int x2, .int x3, .int x4, .int x5, .int x6, .int x7] μ (some (.int r)) mo := by
  replace hf := (zgd_s hf).2
  refine zC.of (by decide) (Nat.le_of_ble_eq_true rfl) (fun K hin => ?_)
  clear hin
  show zz K cX12_heard (8, RX12, some .int, 4, 0, 0, some (.int r), mo) 0 0 0 [(0, .ref x0), (1, .int x1), (2, .int x2), (3, .int x3), (4, .int x4), (5, .int x5), (6, .int x6), (7, .int x7)] [] μ
  refine zr_aload_n 0 dX12_heard_0 rfl ?_
  refine zr_iconst 0 dX12_heard_1 (by decide) ?_
  replace hf := zb1_s hf
  obtain ⟨m1, h2, hf⟩ := hf
  refine zr_put h2 zk12 (by decide) zl_899 rfl rfl rfl dX12_heard_2 ?_
  refine zr_aload_n 0 dX12_heard_5 rfl ?_
  refine zr_iload_n 1 dX12_heard_6 rfl ?_
  replace hf := zb2_s hf
  obtain ⟨v5, m4, h3, hf⟩ := hf
  refine zr_callV (ci := 12) [.int x1] (cX12_hand_ok h3) zvs_X12_hand zl_1057 zl_1058 (fX12_hand_ck h3) rfl rfl zl_1056 rfl (Nat.le_of_ble_eq_true rfl) (Nat.le_of_ble_eq_true rfl) (Nat.le_of_ble_eq_true rfl) (Nat.le_of_ble_eq_true rfl) dX12_heard_7 rfl ?_
  refine zr_if_eq 68 dX12_heard_10 (by decide) (fun hc => ?_) (fun hc => ?_)
  · rw [if_pos hc] at hf
    refine zr_iconst (-1) dX12_heard_68 (by decide) ?_
    cases hf
    exact zr_iret dX12_heard_69
  · rw [if_neg hc] at hf
    refine zr_aload_n 0 dX12_heard_13 rfl ?_
    refine zr_iload_n 2 dX12_heard_14 rfl ?_
    replace hf := zb1_s hf
    obtain ⟨v7, h6, hf⟩ := hf
    refine zr_callV (ci := 12) [.int x2] (cX12_isPlace_ok h6) zvs_X12_isPlace zl_1065 zl_1066 (fX12_isPlace_ck h6) rfl rfl zl_1064 rfl (Nat.le_of_ble_eq_true rfl) (Nat.le_of_ble_eq_true rfl) (Nat.le_of_ble_eq_true rfl) (Nat.le_of_ble_eq_true rfl) dX12_heard_15 rfl ?_
    refine zr_if_eq 68 dX12_heard_18 (by decide) (fun hc => ?_) (fun hc => ?_)
    · rw [if_pos hc] at hf
      refine zr_iconst (-1) dX12_heard_68 (by decide) ?_
      cases hf
      exact zr_iret dX12_heard_69
    · rw [if_neg hc] at hf
      refine zr_iload_n 3 dX12_heard_21 rfl ?_
      replace hf := zb1_s hf
      obtain ⟨v9, h8, hf⟩ := hf
      refine zr_callS [.int x3] (cX12_isWord_ok h8) zvs_X12_isWord zl_1069 zl_1068 rfl (Nat.le_of_ble_eq_true rfl) (Nat.le_of_ble_eq_true rfl) (Nat.le_of_ble_eq_true rfl) (Nat.le_of_ble_eq_true rfl) dX12_heard_22 rfl ?_
      refine zr_if_eq 68 dX12_heard_25 (by decide) (fun hc => ?_) (fun hc => ?_)
      · rw [if_pos hc] at hf
        refine zr_iconst (-1) dX12_heard_68 (by decide) ?_
        cases hf
        exact zr_iret dX12_heard_69
      · rw [if_neg hc] at hf
        refine zr_iload 4 dX12_heard_28 rfl ?_
        refine zr_iconst 0 dX12_heard_30 (by decide) ?_
        refine zr_iconst 2 dX12_heard_31 (by decide) ?_
        replace hf := zb1_s hf
        obtain ⟨v11, h10, hf⟩ := hf
        refine zr_callS [.int x4, .int 0, .int 2] (cX12_in_ok h10) zvs_X12_in zl_898 zl_897 rfl (Nat.le_of_ble_eq_true rfl) (Nat.le_of_ble_eq_true rfl) (Nat.le_of_ble_eq_true rfl) (Nat.le_of_ble_eq_true rfl) dX12_heard_32 rfl ?_
        refine zr_if_eq 68 dX12_heard_35 (by decide) (fun hc => ?_) (fun hc => ?_)
        · rw [if_pos hc] at hf
          refine zr_iconst (-1) dX12_heard_68 (by decide) ?_
          cases hf
          exact zr_iret dX12_heard_69
        · rw [if_neg hc] at hf
          refine zr_iload 5 dX12_heard_38 rfl ?_
          refine zr_iconst 0 dX12_heard_40 (by decide) ?_
          refine zr_bipush 99 dX12_heard_41 (by decide) ?_
          replace hf := zb1_s hf
          obtain ⟨v13, h12, hf⟩ := hf
          refine zr_callS [.int x5, .int 0, .int 99] (cX12_in_ok h12) zvs_X12_in zl_898 zl_897 rfl (Nat.le_of_ble_eq_true rfl) (Nat.le_of_ble_eq_true rfl) (Nat.le_of_ble_eq_true rfl) (Nat.le_of_ble_eq_true rfl) dX12_heard_43 rfl ?_
          refine zr_if_eq 68 dX12_heard_46 (by decide) (fun hc => ?_) (fun hc => ?_)
          · rw [if_pos hc] at hf
            refine zr_iconst (-1) dX12_heard_68 (by decide) ?_
            cases hf
            exact zr_iret dX12_heard_69
          · rw [if_neg hc] at hf
            refine zr_aload_n 0 dX12_heard_49 rfl ?_
            refine zr_iload 6 dX12_heard_50 rfl ?_
            replace hf := zb1_s hf
            obtain ⟨v15, h14, hf⟩ := hf
            refine zr_callV (ci := 12) [.int x6] (cX12_isPlace_ok h14) zvs_X12_isPlace zl_1065 zl_1066 (fX12_isPlace_ck h14) rfl rfl zl_1064 rfl (Nat.le_of_ble_eq_true rfl) (Nat.le_of_ble_eq_true rfl) (Nat.le_of_ble_eq_true rfl) (Nat.le_of_ble_eq_true rfl) dX12_heard_52 rfl ?_
            refine zr_if_eq 68 dX12_heard_55 (by decide) (fun hc => ?_) (fun hc => ?_)
            · rw [if_pos hc] at hf
              refine zr_iconst (-1) dX12_heard_68 (by decide) ?_
              cases hf
              exact zr_iret dX12_heard_69
            · rw [if_neg hc] at hf
              refine zr_iload 7 dX12_heard_58 rfl ?_
              refine zr_iconst 0 dX12_heard_60 (by decide) ?_
              refine zr_iconst 2 dX12_heard_61 (by decide) ?_
              replace hf := zb1_s hf
              obtain ⟨v17, h16, hf⟩ := hf
              refine zr_callS [.int x7, .int 0, .int 2] (cX12_in_ok h16) zvs_X12_in zl_898 zl_897 rfl (Nat.le_of_ble_eq_true rfl) (Nat.le_of_ble_eq_true rfl) (Nat.le_of_ble_eq_true rfl) (Nat.le_of_ble_eq_true rfl) dX12_heard_62 rfl ?_
              refine zr_if_ne 70 dX12_heard_65 (by decide) (fun hc => ?_) (fun hc => ?_)
              · rw [if_neg hc] at hf
                refine zr_aload_n 0 dX12_heard_70 rfl ?_
                refine zr_iload_n 2 dX12_heard_71 rfl ?_
                refine zr_iload_n 3 dX12_heard_72 rfl ?_
                refine zr_iload 4 dX12_heard_73 rfl ?_
                refine zr_iload 5 dX12_heard_75 rfl ?_
                refine zr_iload 6 dX12_heard_77 rfl ?_
                refine zr_iload 7 dX12_heard_79 rfl ?_
                replace hf := zb1_s hf
                obtain ⟨v19, h18, hf⟩ := hf
                refine zr_callV (ci := 12) [.int x2, .int x3, .int x4, .int x5, .int x6, .int x7] (cX12_comes_ok h18) zvs_X12_comes zl_1072 zl_1073 (fX12_comes_ck h18) rfl rfl zl_1071 rfl (Nat.le_of_ble_eq_true rfl) (Nat.le_of_ble_eq_true rfl) (Nat.le_of_ble_eq_true rfl) (Nat.le_of_ble_eq_true rfl) dX12_heard_81 rfl ?_
                cases hf
                exact zr_iret dX12_heard_84
              · rw [if_pos hc] at hf
                refine zr_iconst (-1) dX12_heard_68 (by decide) ?_
                cases hf
                exact zr_iret dX12_heard_69
theorem zl_1074 : Cond.code yX12_given cX12_given 4 (some .int) ∈ zt := zt_at 1699 (by decide +kernel)
theorem zvs_X12_given : zvS yX12_given cX12_given 4 (some .int) 3 := ⟨zl_1074, zl_893, ⟨by decide +kernel, by decide +kernel, by decide +kernel⟩, by decide⟩
theorem zl_1075 : Cond.methodLink RX12 314 yX12_given ∈ zt := zt_at 1696 (by decide +kernel)
theorem zl_1076 : Cond.instanceMethod yX12_given ∈ zt := zt_at 1698 (by decide +kernel)
theorem zl_1077 : Cond.selects RX12 yX12_given yX12_given ∈ zt := zt_at 78 (by decide +kernel)
theorem dX12_gives_0 : decode cX12_gives 0 = .ok (.aload_n 0, 1) := by decide +kernel
theorem dX12_gives_1 : decode cX12_gives 1 = .ok (.iconst 0, 1) := by decide +kernel
theorem dX12_gives_2 : decode cX12_gives 2 = .ok (.putfield 93, 3) := by decide +kernel
theorem dX12_gives_5 : decode cX12_gives 5 = .ok (.aload_n 0, 1) := by decide +kernel
theorem dX12_gives_6 : decode cX12_gives 6 = .ok (.iload_n 1, 1) := by decide +kernel
theorem dX12_gives_7 : decode cX12_gives 7 = .ok (.invokevirtual 298, 3) := by decide +kernel
theorem dX12_gives_10 : decode cX12_gives 10 = .ok (.ifCond .eq 41, 3) := by decide +kernel
theorem dX12_gives_13 : decode cX12_gives 13 = .ok (.iload_n 2, 1) := by decide +kernel
theorem dX12_gives_14 : decode cX12_gives 14 = .ok (.invokestatic 307, 3) := by decide +kernel
theorem dX12_gives_17 : decode cX12_gives 17 = .ok (.ifCond .eq 34, 3) := by decide +kernel
theorem dX12_gives_20 : decode cX12_gives 20 = .ok (.iload_n 3, 1) := by decide +kernel
theorem dX12_gives_21 : decode cX12_gives 21 = .ok (.iconst 0, 1) := by decide +kernel
theorem dX12_gives_22 : decode cX12_gives 22 = .ok (.bipush 99, 2) := by decide +kernel
theorem dX12_gives_24 : decode cX12_gives 24 = .ok (.invokestatic 101, 3) := by decide +kernel
theorem dX12_gives_27 : decode cX12_gives 27 = .ok (.ifCond .eq 24, 3) := by decide +kernel
theorem dX12_gives_30 : decode cX12_gives 30 = .ok (.iload 4, 2) := by decide +kernel
theorem dX12_gives_32 : decode cX12_gives 32 = .ok (.iconst 1, 1) := by decide +kernel
theorem dX12_gives_33 : decode cX12_gives 33 = .ok (.iconst 2, 1) := by decide +kernel
theorem dX12_gives_34 : decode cX12_gives 34 = .ok (.invokestatic 101, 3) := by decide +kernel
theorem dX12_gives_37 : decode cX12_gives 37 = .ok (.ifCond .eq 14, 3) := by decide +kernel
theorem dX12_gives_40 : decode cX12_gives 40 = .ok (.aload_n 0, 1) := by decide +kernel
theorem dX12_gives_41 : decode cX12_gives 41 = .ok (.iload_n 2, 1) := by decide +kernel
theorem dX12_gives_42 : decode cX12_gives 42 = .ok (.iload_n 3, 1) := by decide +kernel
theorem dX12_gives_43 : decode cX12_gives 43 = .ok (.iload 4, 2) := by decide +kernel
theorem dX12_gives_45 : decode cX12_gives 45 = .ok (.invokevirtual 314, 3) := by decide +kernel
theorem dX12_gives_48 : decode cX12_gives 48 = .ok (.goto 4, 3) := by decide +kernel
theorem dX12_gives_51 : decode cX12_gives 51 = .ok (.iconst (-1), 1) := by decide +kernel
theorem dX12_gives_52 : decode cX12_gives 52 = .ok (.ireturn, 1) := by decide +kernel
noncomputable def fX12_gives (μ : zM) (x0 : Nat) (x1 : Int32) (x2 : Int32) (x3 : Int32) (x4 : Int32) : Option (Int32 × zM) := zgd (zm_ck μ 12 x0) <|
  zb1 (zm_p μ 12 x0 0 (.int 0)) fun m1 =>
  zb2 (fX12_hand m1 x0 x1) fun v5 m4 =>
  zb1 (if v5 = 0 then (
  some (-1))
  else (
  zb1 (fX12_isWord m4 x2) fun v9 =>
  if v9 = 0 then (
  some (-1))
  else (
  zb1 (fX12_in m4 x3 0 99) fun v11 =>
  if v11 = 0 then (
  some (-1))
  else (
  zb1 (fX12_in m4 x4 1 2) fun v13 =>
  if v13 = 0 then (
  some (-1))
  else (
  zb1 (fX12_given m4 x0 x2 x3 x4) fun v15 =>
  some v15)))) : Option (Int32)) fun (s6 : Int32) =>
  some (s6, m4)
theorem fX12_gives_ck {μ : zM} {x0 : Nat} {x1 : Int32} {x2 : Int32} {x3 : Int32} {x4 : Int32} {z : Int32 × zM} (h : fX12_gives μ x0 x1 x2 x3 x4 = some z) : zm_ck μ 12 x0 = true := (zgd_s h).1
set_option maxHeartbeats 4000000 in
set_option maxRecDepth 100000 in
theorem cX12_gives_ok {μ : zM} {x0 : Nat} {x1 : Int32} {x2 : Int32} {x3 : Int32} {x4 : Int32} {r : Int32} {mo : zM} (hf : fX12_gives μ x0 x1 x2 x3 x4 = some (r, mo)) : zC yX12_gives cX12_gives 5 (some .int) 4 0 0 [.ref x0, .int x1, .int x2, .int x3, .int x4] μ (some (.int r)) mo := by
  replace hf := (zgd_s hf).2
  refine zC.of (by decide) (Nat.le_of_ble_eq_true rfl) (fun K hin => ?_)
  clear hin
  show zz K cX12_gives (5, RX12, some .int, 4, 0, 0, some (.int r), mo) 0 0 0 [(0, .ref x0), (1, .int x1), (2, .int x2), (3, .int x3), (4, .int x4)] [] μ
  refine zr_aload_n 0 dX12_gives_0 rfl ?_
  refine zr_iconst 0 dX12_gives_1 (by decide) ?_
  replace hf := zb1_s hf
  obtain ⟨m1, h2, hf⟩ := hf
  refine zr_put h2 zk12 (by decide) zl_899 rfl rfl rfl dX12_gives_2 ?_
  refine zr_aload_n 0 dX12_gives_5 rfl ?_
  refine zr_iload_n 1 dX12_gives_6 rfl ?_
  replace hf := zb2_s hf
  obtain ⟨v5, m4, h3, hf⟩ := hf
  refine zr_callV (ci := 12) [.int x1] (cX12_hand_ok h3) zvs_X12_hand zl_1057 zl_1058 (fX12_hand_ck h3) rfl rfl zl_1056 rfl (Nat.le_of_ble_eq_true rfl) (Nat.le_of_ble_eq_true rfl) (Nat.le_of_ble_eq_true rfl) (Nat.le_of_ble_eq_true rfl) dX12_gives_7 rfl ?_
  replace hf := zb1_s hf
  obtain ⟨s6, hg, hf⟩ := hf
  have hj7 : zz K cX12_gives (5, RX12, some .int, 4, 0, 0, some (.int r), mo) 0 0 52 [] [.int s6] m4 := by
    cases hf
    exact zr_iret dX12_gives_52
  clear hf
  have hf := hg
  clear hg
  refine zr_if_eq 51 dX12_gives_10 (by decide) (fun hc => ?_) (fun hc => ?_)
  · rw [if_pos hc] at hf
    refine zr_iconst (-1) dX12_gives_51 (by decide) ?_
    cases hf
    exact zr_lv [] rfl hj7
  · rw [if_neg hc] at hf
    refine zr_iload_n 2 dX12_gives_13 rfl ?_
    replace hf := zb1_s hf
    obtain ⟨v9, h8, hf⟩ := hf
    refine zr_callS [.int x2] (cX12_isWord_ok h8) zvs_X12_isWord zl_1069 zl_1068 rfl (Nat.le_of_ble_eq_true rfl) (Nat.le_of_ble_eq_true rfl) (Nat.le_of_ble_eq_true rfl) (Nat.le_of_ble_eq_true rfl) dX12_gives_14 rfl ?_
    refine zr_if_eq 51 dX12_gives_17 (by decide) (fun hc => ?_) (fun hc => ?_)
    · rw [if_pos hc] at hf
      refine zr_iconst (-1) dX12_gives_51 (by decide) ?_
      cases hf
      exact zr_lv [] rfl hj7
    · rw [if_neg hc] at hf
      refine zr_iload_n 3 dX12_gives_20 rfl ?_
      refine zr_iconst 0 dX12_gives_21 (by decide) ?_
      refine zr_bipush 99 dX12_gives_22 (by decide) ?_
      replace hf := zb1_s hf
      obtain ⟨v11, h10, hf⟩ := hf
      refine zr_callS [.int x3, .int 0, .int 99] (cX12_in_ok h10) zvs_X12_in zl_898 zl_897 rfl (Nat.le_of_ble_eq_true rfl) (Nat.le_of_ble_eq_true rfl) (Nat.le_of_ble_eq_true rfl) (Nat.le_of_ble_eq_true rfl) dX12_gives_24 rfl ?_
      refine zr_if_eq 51 dX12_gives_27 (by decide) (fun hc => ?_) (fun hc => ?_)
      · rw [if_pos hc] at hf
        refine zr_iconst (-1) dX12_gives_51 (by decide) ?_
        cases hf
        exact zr_lv [] rfl hj7
      · rw [if_neg hc] at hf
        refine zr_iload 4 dX12_gives_30 rfl ?_
        refine zr_iconst 1 dX12_gives_32 (by decide) ?_
        refine zr_iconst 2 dX12_gives_33 (by decide) ?_
        replace hf := zb1_s hf
        obtain ⟨v13, h12, hf⟩ := hf
        refine zr_callS [.int x4, .int 1, .int 2] (cX12_in_ok h12) zvs_X12_in zl_898 zl_897 rfl (Nat.le_of_ble_eq_true rfl) (Nat.le_of_ble_eq_true rfl) (Nat.le_of_ble_eq_true rfl) (Nat.le_of_ble_eq_true rfl) dX12_gives_34 rfl ?_
        refine zr_if_eq 51 dX12_gives_37 (by decide) (fun hc => ?_) (fun hc => ?_)
        · rw [if_pos hc] at hf
          refine zr_iconst (-1) dX12_gives_51 (by decide) ?_
          cases hf
          exact zr_lv [] rfl hj7
        · rw [if_neg hc] at hf
          refine zr_aload_n 0 dX12_gives_40 rfl ?_
          refine zr_iload_n 2 dX12_gives_41 rfl ?_
          refine zr_iload_n 3 dX12_gives_42 rfl ?_
          refine zr_iload 4 dX12_gives_43 rfl ?_
          replace hf := zb1_s hf
          obtain ⟨v15, h14, hf⟩ := hf
          refine zr_callV (ci := 12) [.int x2, .int x3, .int x4] (cX12_given_ok h14) zvs_X12_given zl_1076 zl_1077 (fX12_given_ck h14) rfl rfl zl_1075 rfl (Nat.le_of_ble_eq_true rfl) (Nat.le_of_ble_eq_true rfl) (Nat.le_of_ble_eq_true rfl) (Nat.le_of_ble_eq_true rfl) dX12_gives_45 rfl ?_
          refine zr_goto 52 dX12_gives_48 (by decide) ?_
          cases hf
          exact zr_lv [] rfl hj7
theorem zl_1078 : Cond.fieldLink RX12 317 "TwoEchoesModel" "day" "I" ∈ zt := zt_at 1367 (by decide +kernel)
theorem dX12_deeds_0 : decode cX12_deeds 0 = .ok (.aload_n 0, 1) := by decide +kernel
theorem dX12_deeds_1 : decode cX12_deeds 1 = .ok (.getfield 29, 3) := by decide +kernel
theorem dX12_deeds_4 : decode cX12_deeds 4 = .ok (.bipush 121, 2) := by decide +kernel
theorem dX12_deeds_6 : decode cX12_deeds 6 = .ok (.aload_n 0, 1) := by decide +kernel
theorem dX12_deeds_7 : decode cX12_deeds 7 = .ok (.getfield 317, 3) := by decide +kernel
theorem dX12_deeds_10 : decode cX12_deeds 10 = .ok (.imul, 1) := by decide +kernel
theorem dX12_deeds_11 : decode cX12_deeds 11 = .ok (.iaload, 1) := by decide +kernel
theorem dX12_deeds_12 : decode cX12_deeds 12 = .ok (.ireturn, 1) := by decide +kernel
noncomputable def fX12_deeds (μ : zM) (x0 : Nat) : Option (Int32) := zgd (zm_ck μ 12 x0) <|
  zb1 (zm_gR μ 12 x0 7) fun v1 =>
  zb1 (zm_gI μ 12 x0 26) fun v3 =>
  zb1 (zm_aI μ 0 v1 (121 * v3)) fun v5 =>
  some v5
theorem fX12_deeds_ck {μ : zM} {x0 : Nat} {z : Int32} (h : fX12_deeds μ x0 = some z) : zm_ck μ 12 x0 = true := (zgd_s h).1
set_option maxHeartbeats 4000000 in
set_option maxRecDepth 100000 in
theorem cX12_deeds_ok {μ : zM} {x0 : Nat} {r : Int32} (hf : fX12_deeds μ x0 = some r) : zC yX12_deeds cX12_deeds 1 (some .int) 0 0 0 [.ref x0] μ (some (.int r)) μ := by
  replace hf := (zgd_s hf).2
  refine zC.of (by decide) (Nat.le_of_ble_eq_true rfl) (fun K hin => ?_)
  clear hin
  show zz K cX12_deeds (1, RX12, some .int, 0, 0, 0, some (.int r), μ) 0 0 0 [(0, .ref x0)] [] μ
  refine zr_aload_n 0 dX12_deeds_0 rfl ?_
  replace hf := zb1_s hf
  obtain ⟨v1, h2, hf⟩ := hf
  refine zr_get (zm_gR_g h2) zk12 (by decide) zl_870 dX12_deeds_1 ?_
  refine zr_bipush 121 dX12_deeds_4 (by decide) ?_
  refine zr_aload_n 0 dX12_deeds_6 rfl ?_
  replace hf := zb1_s hf
  obtain ⟨v3, h4, hf⟩ := hf
  refine zr_get (zm_gI_g h4) zk12 (by decide) zl_1078 dX12_deeds_7 ?_
  refine zr_imul dX12_deeds_10 ?_
  replace hf := zb1_s hf
  obtain ⟨v5, h6, hf⟩ := hf
  refine zr_iald h6 dX12_deeds_11 ?_
  cases hf
  exact zr_iret dX12_deeds_12
theorem dX12_deedOf_0 : decode cX12_deedOf 0 = .ok (.aload_n 0, 1) := by decide +kernel
theorem dX12_deedOf_1 : decode cX12_deedOf 1 = .ok (.getfield 29, 3) := by decide +kernel
theorem dX12_deedOf_4 : decode cX12_deedOf 4 = .ok (.bipush 121, 2) := by decide +kernel
theorem dX12_deedOf_6 : decode cX12_deedOf 6 = .ok (.aload_n 0, 1) := by decide +kernel
theorem dX12_deedOf_7 : decode cX12_deedOf 7 = .ok (.getfield 317, 3) := by decide +kernel
theorem dX12_deedOf_10 : decode cX12_deedOf 10 = .ok (.imul, 1) := by decide +kernel
theorem dX12_deedOf_11 : decode cX12_deedOf 11 = .ok (.iconst 1, 1) := by decide +kernel
theorem dX12_deedOf_12 : decode cX12_deedOf 12 = .ok (.iadd, 1) := by decide +kernel
theorem dX12_deedOf_13 : decode cX12_deedOf 13 = .ok (.iconst 3, 1) := by decide +kernel
theorem dX12_deedOf_14 : decode cX12_deedOf 14 = .ok (.iload_n 1, 1) := by decide +kernel
theorem dX12_deedOf_15 : decode cX12_deedOf 15 = .ok (.imul, 1) := by decide +kernel
theorem dX12_deedOf_16 : decode cX12_deedOf 16 = .ok (.iadd, 1) := by decide +kernel
theorem dX12_deedOf_17 : decode cX12_deedOf 17 = .ok (.iload_n 2, 1) := by decide +kernel
theorem dX12_deedOf_18 : decode cX12_deedOf 18 = .ok (.iadd, 1) := by decide +kernel
theorem dX12_deedOf_19 : decode cX12_deedOf 19 = .ok (.iaload, 1) := by decide +kernel
theorem dX12_deedOf_20 : decode cX12_deedOf 20 = .ok (.ireturn, 1) := by decide +kernel
noncomputable def fX12_deedOf (μ : zM) (x0 : Nat) (x1 : Int32) (x2 : Int32) : Option (Int32) := zgd (zm_ck μ 12 x0) <|
  zb1 (zm_gR μ 12 x0 7) fun v1 =>
  zb1 (zm_gI μ 12 x0 26) fun v3 =>
  zb1 (zm_aI μ 0 v1 ((((121 * v3) + 1) + (3 * x1)) + x2)) fun v5 =>
  some v5
theorem fX12_deedOf_ck {μ : zM} {x0 : Nat} {x1 : Int32} {x2 : Int32} {z : Int32} (h : fX12_deedOf μ x0 x1 x2 = some z) : zm_ck μ 12 x0 = true := (zgd_s h).1
set_option maxHeartbeats 4000000 in
set_option maxRecDepth 100000 in
theorem cX12_deedOf_ok {μ : zM} {x0 : Nat} {x1 : Int32} {x2 : Int32} {r : Int32} (hf : fX12_deedOf μ x0 x1 x2 = some r) : zC yX12_deedOf cX12_deedOf 3 (some .int) 0 0 0 [.ref x0, .int x1, .int x2] μ (some (.int r)) μ := by
  replace hf := (zgd_s hf).2
  refine zC.of (by decide) (Nat.le_of_ble_eq_true rfl) (fun K hin => ?_)
  clear hin
  show zz K cX12_deedOf (3, RX12, some .int, 0, 0, 0, some (.int r), μ) 0 0 0 [(0, .ref x0), (1, .int x1), (2, .int x2)] [] μ
  refine zr_aload_n 0 dX12_deedOf_0 rfl ?_
  replace hf := zb1_s hf
  obtain ⟨v1, h2, hf⟩ := hf
  refine zr_get (zm_gR_g h2) zk12 (by decide) zl_870 dX12_deedOf_1 ?_
  refine zr_bipush 121 dX12_deedOf_4 (by decide) ?_
  refine zr_aload_n 0 dX12_deedOf_6 rfl ?_
  replace hf := zb1_s hf
  obtain ⟨v3, h4, hf⟩ := hf
  refine zr_get (zm_gI_g h4) zk12 (by decide) zl_1078 dX12_deedOf_7 ?_
  refine zr_imul dX12_deedOf_10 ?_
  refine zr_iconst 1 dX12_deedOf_11 (by decide) ?_
  refine zr_iadd dX12_deedOf_12 ?_
  refine zr_iconst 3 dX12_deedOf_13 (by decide) ?_
  refine zr_iload_n 1 dX12_deedOf_14 rfl ?_
  refine zr_imul dX12_deedOf_15 ?_
  refine zr_iadd dX12_deedOf_16 ?_
  refine zr_iload_n 2 dX12_deedOf_17 rfl ?_
  refine zr_iadd dX12_deedOf_18 ?_
  replace hf := zb1_s hf
  obtain ⟨v5, h6, hf⟩ := hf
  refine zr_iald h6 dX12_deedOf_19 ?_
  cases hf
  exact zr_iret dX12_deedOf_20
theorem dX12_hasDay_0 : decode cX12_hasDay 0 = .ok (.aload_n 0, 1) := by decide +kernel
theorem dX12_hasDay_1 : decode cX12_hasDay 1 = .ok (.iload_n 1, 1) := by decide +kernel
theorem dX12_hasDay_2 : decode cX12_hasDay 2 = .ok (.putfield 317, 3) := by decide +kernel
theorem dX12_hasDay_5 : decode cX12_hasDay 5 = .ok (.aload_n 0, 1) := by decide +kernel
theorem dX12_hasDay_6 : decode cX12_hasDay 6 = .ok (.iconst 1, 1) := by decide +kernel
theorem dX12_hasDay_7 : decode cX12_hasDay 7 = .ok (.iload_n 1, 1) := by decide +kernel
theorem dX12_hasDay_8 : decode cX12_hasDay 8 = .ok (.invokevirtual 256, 3) := by decide +kernel
theorem dX12_hasDay_11 : decode cX12_hasDay 11 = .ok (.ireturn, 1) := by decide +kernel
noncomputable def fX12_hasDay (μ : zM) (x0 : Nat) (x1 : Int32) : Option (Int32 × zM) := zgd (zm_ck μ 12 x0) <|
  zb1 (zm_p μ 12 x0 26 (.int x1)) fun m1 =>
  zb1 (fX12_is m1 x0 1 x1) fun v4 =>
  zb1 (zbz v4) fun v5 =>
  some (v5, m1)
theorem fX12_hasDay_ck {μ : zM} {x0 : Nat} {x1 : Int32} {z : Int32 × zM} (h : fX12_hasDay μ x0 x1 = some z) : zm_ck μ 12 x0 = true := (zgd_s h).1
set_option maxHeartbeats 4000000 in
set_option maxRecDepth 100000 in
theorem cX12_hasDay_ok {μ : zM} {x0 : Nat} {x1 : Int32} {r : Int32} {mo : zM} (hf : fX12_hasDay μ x0 x1 = some (r, mo)) : zC yX12_hasDay cX12_hasDay 2 (some .boolean) 2 0 0 [.ref x0, .int x1] μ (some (.int r)) mo := by
  replace hf := (zgd_s hf).2
  refine zC.of (by decide) (Nat.le_of_ble_eq_true rfl) (fun K hin => ?_)
  clear hin
  show zz K cX12_hasDay (2, RX12, some .boolean, 2, 0, 0, some (.int r), mo) 0 0 0 [(0, .ref x0), (1, .int x1)] [] μ
  refine zr_aload_n 0 dX12_hasDay_0 rfl ?_
  refine zr_iload_n 1 dX12_hasDay_1 rfl ?_
  replace hf := zb1_s hf
  obtain ⟨m1, h2, hf⟩ := hf
  refine zr_put h2 zk12 (by decide) zl_1078 rfl rfl rfl dX12_hasDay_2 ?_
  refine zr_aload_n 0 dX12_hasDay_5 rfl ?_
  refine zr_iconst 1 dX12_hasDay_6 (by decide) ?_
  refine zr_iload_n 1 dX12_hasDay_7 rfl ?_
  replace hf := zb1_s hf
  obtain ⟨v4, h3, hf⟩ := hf
  refine zr_callV (ci := 12) [.int 1, .int x1] (cX12_is_ok h3) zvs_X12_is zl_1024 zl_1025 (fX12_is_ck h3) rfl rfl zl_1023 rfl (Nat.le_of_ble_eq_true rfl) (Nat.le_of_ble_eq_true rfl) (Nat.le_of_ble_eq_true rfl) (Nat.le_of_ble_eq_true rfl) dX12_hasDay_8 rfl ?_
  replace hf := zb1_s hf
  obtain ⟨v5, hn6, hf⟩ := hf
  replace hn6 := zbz_s hn6
  obtain ⟨hn6, rfl⟩ := hn6
  cases hf
  exact zr_zret hn6 dX12_hasDay_11
theorem zl_1079 : Cond.code yX12_hasDay cX12_hasDay 2 (some .boolean) ∈ zt := zt_at 1707 (by decide +kernel)
theorem zvs_X12_hasDay : zvS yX12_hasDay cX12_hasDay 2 (some .boolean) 1 := ⟨zl_1079, zl_893, ⟨by decide +kernel, by decide +kernel, by decide +kernel⟩, by decide⟩
theorem zl_1080 : Cond.methodLink RX12 320 yX12_hasDay ∈ zt := zt_at 1704 (by decide +kernel)
theorem zl_1081 : Cond.instanceMethod yX12_hasDay ∈ zt := zt_at 1706 (by decide +kernel)
theorem zl_1082 : Cond.selects RX12 yX12_hasDay yX12_hasDay ∈ zt := zt_at 79 (by decide +kernel)
theorem zl_1083 : Cond.code yX12_deeds cX12_deeds 1 (some .int) ∈ zt := zt_at 1711 (by decide +kernel)
theorem zvs_X12_deeds : zvS yX12_deeds cX12_deeds 1 (some .int) 0 := ⟨zl_1083, zl_893, ⟨by decide +kernel, by decide +kernel, by decide +kernel⟩, by decide⟩
theorem zl_1084 : Cond.methodLink RX12 323 yX12_deeds ∈ zt := zt_at 1708 (by decide +kernel)
theorem zl_1085 : Cond.instanceMethod yX12_deeds ∈ zt := zt_at 1710 (by decide +kernel)
theorem zl_1086 : Cond.selects RX12 yX12_deeds yX12_deeds ∈ zt := zt_at 80 (by decide +kernel)
theorem zl_1087 : Cond.code yX12_deedOf cX12_deedOf 3 (some .int) ∈ zt := zt_at 1715 (by decide +kernel)
theorem zvs_X12_deedOf : zvS yX12_deedOf cX12_deedOf 3 (some .int) 2 := ⟨zl_1087, zl_893, ⟨by decide +kernel, by decide +kernel, by decide +kernel⟩, by decide⟩
theorem zl_1088 : Cond.methodLink RX12 326 yX12_deedOf ∈ zt := zt_at 1712 (by decide +kernel)
theorem zl_1089 : Cond.instanceMethod yX12_deedOf ∈ zt := zt_at 1714 (by decide +kernel)
theorem zl_1090 : Cond.selects RX12 yX12_deedOf yX12_deedOf ∈ zt := zt_at 81 (by decide +kernel)
theorem dX12_deed_0 : decode cX12_deed 0 = .ok (.aload_n 0, 1) := by decide +kernel
theorem dX12_deed_1 : decode cX12_deed 1 = .ok (.iconst 0, 1) := by decide +kernel
theorem dX12_deed_2 : decode cX12_deed 2 = .ok (.putfield 93, 3) := by decide +kernel
theorem dX12_deed_5 : decode cX12_deed 5 = .ok (.aload_n 0, 1) := by decide +kernel
theorem dX12_deed_6 : decode cX12_deed 6 = .ok (.iload_n 1, 1) := by decide +kernel
theorem dX12_deed_7 : decode cX12_deed 7 = .ok (.invokevirtual 320, 3) := by decide +kernel
theorem dX12_deed_10 : decode cX12_deed 10 = .ok (.ifCond .ne 6, 3) := by decide +kernel
theorem dX12_deed_13 : decode cX12_deed 13 = .ok (.bipush (-2), 2) := by decide +kernel
theorem dX12_deed_15 : decode cX12_deed 15 = .ok (.ireturn, 1) := by decide +kernel
theorem dX12_deed_16 : decode cX12_deed 16 = .ok (.iload_n 2, 1) := by decide +kernel
theorem dX12_deed_17 : decode cX12_deed 17 = .ok (.iconst (-1), 1) := by decide +kernel
theorem dX12_deed_18 : decode cX12_deed 18 = .ok (.if_icmp .ne 17, 3) := by decide +kernel
theorem dX12_deed_21 : decode cX12_deed 21 = .ok (.iload_n 3, 1) := by decide +kernel
theorem dX12_deed_22 : decode cX12_deed 22 = .ok (.ifCond .ne 10, 3) := by decide +kernel
theorem dX12_deed_25 : decode cX12_deed 25 = .ok (.aload_n 0, 1) := by decide +kernel
theorem dX12_deed_26 : decode cX12_deed 26 = .ok (.invokevirtual 323, 3) := by decide +kernel
theorem dX12_deed_29 : decode cX12_deed 29 = .ok (.goto 5, 3) := by decide +kernel
theorem dX12_deed_32 : decode cX12_deed 32 = .ok (.bipush (-2), 2) := by decide +kernel
theorem dX12_deed_34 : decode cX12_deed 34 = .ok (.ireturn, 1) := by decide +kernel
theorem dX12_deed_35 : decode cX12_deed 35 = .ok (.iload_n 2, 1) := by decide +kernel
theorem dX12_deed_36 : decode cX12_deed 36 = .ok (.iconst 0, 1) := by decide +kernel
theorem dX12_deed_37 : decode cX12_deed 37 = .ok (.aload_n 0, 1) := by decide +kernel
theorem dX12_deed_38 : decode cX12_deed 38 = .ok (.invokevirtual 323, 3) := by decide +kernel
theorem dX12_deed_41 : decode cX12_deed 41 = .ok (.iconst 1, 1) := by decide +kernel
theorem dX12_deed_42 : decode cX12_deed 42 = .ok (.isub, 1) := by decide +kernel
theorem dX12_deed_43 : decode cX12_deed 43 = .ok (.invokestatic 101, 3) := by decide +kernel
theorem dX12_deed_46 : decode cX12_deed 46 = .ok (.ifCond .eq 21, 3) := by decide +kernel
theorem dX12_deed_49 : decode cX12_deed 49 = .ok (.iload_n 3, 1) := by decide +kernel
theorem dX12_deed_50 : decode cX12_deed 50 = .ok (.iconst 0, 1) := by decide +kernel
theorem dX12_deed_51 : decode cX12_deed 51 = .ok (.iconst 2, 1) := by decide +kernel
theorem dX12_deed_52 : decode cX12_deed 52 = .ok (.invokestatic 101, 3) := by decide +kernel
theorem dX12_deed_55 : decode cX12_deed 55 = .ok (.ifCond .eq 12, 3) := by decide +kernel
theorem dX12_deed_58 : decode cX12_deed 58 = .ok (.aload_n 0, 1) := by decide +kernel
theorem dX12_deed_59 : decode cX12_deed 59 = .ok (.iload_n 2, 1) := by decide +kernel
theorem dX12_deed_60 : decode cX12_deed 60 = .ok (.iload_n 3, 1) := by decide +kernel
theorem dX12_deed_61 : decode cX12_deed 61 = .ok (.invokevirtual 326, 3) := by decide +kernel
theorem dX12_deed_64 : decode cX12_deed 64 = .ok (.goto 5, 3) := by decide +kernel
theorem dX12_deed_67 : decode cX12_deed 67 = .ok (.bipush (-2), 2) := by decide +kernel
theorem dX12_deed_69 : decode cX12_deed 69 = .ok (.ireturn, 1) := by decide +kernel
noncomputable def fX12_deed (μ : zM) (x0 : Nat) (x1 : Int32) (x2 : Int32) (x3 : Int32) : Option (Int32 × zM) := zgd (zm_ck μ 12 x0) <|
  zb1 (zm_p μ 12 x0 0 (.int 0)) fun m1 =>
  zb2 (fX12_hasDay m1 x0 x1) fun v5 m4 =>
  if v5 = 0 then (
  some ((-2), m4))
  else (
  if x2 = (-1) then (
  zb1 (if x3 = 0 then (
  zb1 (fX12_deeds m4 x0) fun v19 =>
  some v19)
  else (
  some (-2)) : Option (Int32)) fun (s16 : Int32) =>
  some (s16, m4))
  else (
  zb1 (fX12_deeds m4 x0) fun v7 =>
  zb1 (fX12_in m4 x2 0 (v7 - 1)) fun v9 =>
  zb1 (if v9 = 0 then (
  some (-2))
  else (
  zb1 (fX12_in m4 x3 0 2) fun v13 =>
  if v13 = 0 then (
  some (-2))
  else (
  zb1 (fX12_deedOf m4 x0 x2 x3) fun v15 =>
  some v15)) : Option (Int32)) fun (s10 : Int32) =>
  some (s10, m4)))
theorem fX12_deed_ck {μ : zM} {x0 : Nat} {x1 : Int32} {x2 : Int32} {x3 : Int32} {z : Int32 × zM} (h : fX12_deed μ x0 x1 x2 x3 = some z) : zm_ck μ 12 x0 = true := (zgd_s h).1
set_option maxHeartbeats 4000000 in
set_option maxRecDepth 100000 in
theorem cX12_deed_ok {μ : zM} {x0 : Nat} {x1 : Int32} {x2 : Int32} {x3 : Int32} {r : Int32} {mo : zM} (hf : fX12_deed μ x0 x1 x2 x3 = some (r, mo)) : zC yX12_deed cX12_deed 4 (some .int) 3 0 0 [.ref x0, .int x1, .int x2, .int x3] μ (some (.int r)) mo := by
  replace hf := (zgd_s hf).2
  refine zC.of (by decide) (Nat.le_of_ble_eq_true rfl) (fun K hin => ?_)
  clear hin
  show zz K cX12_deed (4, RX12, some .int, 3, 0, 0, some (.int r), mo) 0 0 0 [(0, .ref x0), (1, .int x1), (2, .int x2), (3, .int x3)] [] μ
  refine zr_aload_n 0 dX12_deed_0 rfl ?_
  refine zr_iconst 0 dX12_deed_1 (by decide) ?_
  replace hf := zb1_s hf
  obtain ⟨m1, h2, hf⟩ := hf
  refine zr_put h2 zk12 (by decide) zl_899 rfl rfl rfl dX12_deed_2 ?_
  refine zr_aload_n 0 dX12_deed_5 rfl ?_
  refine zr_iload_n 1 dX12_deed_6 rfl ?_
  replace hf := zb2_s hf
  obtain ⟨v5, m4, h3, hf⟩ := hf
  refine zr_callV (ci := 12) [.int x1] (cX12_hasDay_ok h3) zvs_X12_hasDay zl_1081 zl_1082 (fX12_hasDay_ck h3) rfl rfl zl_1080 rfl (Nat.le_of_ble_eq_true rfl) (Nat.le_of_ble_eq_true rfl) (Nat.le_of_ble_eq_true rfl) (Nat.le_of_ble_eq_true rfl) dX12_deed_7 rfl ?_
  refine zr_if_ne 16 dX12_deed_10 (by decide) (fun hc => ?_) (fun hc => ?_)
  · rw [if_neg hc] at hf
    refine zr_iload_n 2 dX12_deed_16 rfl ?_
    refine zr_iconst (-1) dX12_deed_17 (by decide) ?_
    refine zr_icmp_ne 35 dX12_deed_18 (by decide) (fun hc => ?_) (fun hc => ?_)
    · rw [if_neg hc] at hf
      refine zr_iload_n 2 dX12_deed_35 rfl ?_
      refine zr_iconst 0 dX12_deed_36 (by decide) ?_
      refine zr_aload_n 0 dX12_deed_37 rfl ?_
      replace hf := zb1_s hf
      obtain ⟨v7, h6, hf⟩ := hf
      refine zr_callV (ci := 12) [] (cX12_deeds_ok h6) zvs_X12_deeds zl_1085 zl_1086 (fX12_deeds_ck h6) rfl rfl zl_1084 rfl (Nat.le_of_ble_eq_true rfl) (Nat.le_of_ble_eq_true rfl) (Nat.le_of_ble_eq_true rfl) (Nat.le_of_ble_eq_true rfl) dX12_deed_38 rfl ?_
      refine zr_iconst 1 dX12_deed_41 (by decide) ?_
      refine zr_isub dX12_deed_42 ?_
      replace hf := zb1_s hf
      obtain ⟨v9, h8, hf⟩ := hf
      refine zr_callS [.int x2, .int 0, .int (v7 - 1)] (cX12_in_ok h8) zvs_X12_in zl_898 zl_897 rfl (Nat.le_of_ble_eq_true rfl) (Nat.le_of_ble_eq_true rfl) (Nat.le_of_ble_eq_true rfl) (Nat.le_of_ble_eq_true rfl) dX12_deed_43 rfl ?_
      replace hf := zb1_s hf
      obtain ⟨s10, hg, hf⟩ := hf
      have hj11 : zz K cX12_deed (4, RX12, some .int, 3, 0, 0, some (.int r), mo) 0 0 69 [] [.int s10] m4 := by
        cases hf
        exact zr_iret dX12_deed_69
      clear hf
      have hf := hg
      clear hg
      refine zr_if_eq 67 dX12_deed_46 (by decide) (fun hc => ?_) (fun hc => ?_)
      · rw [if_pos hc] at hf
        refine zr_bipush (-2) dX12_deed_67 (by decide) ?_
        cases hf
        exact zr_lv [] rfl hj11
      · rw [if_neg hc] at hf
        refine zr_iload_n 3 dX12_deed_49 rfl ?_
        refine zr_iconst 0 dX12_deed_50 (by decide) ?_
        refine zr_iconst 2 dX12_deed_51 (by decide) ?_
        replace hf := zb1_s hf
        obtain ⟨v13, h12, hf⟩ := hf
        refine zr_callS [.int x3, .int 0, .int 2] (cX12_in_ok h12) zvs_X12_in zl_898 zl_897 rfl (Nat.le_of_ble_eq_true rfl) (Nat.le_of_ble_eq_true rfl) (Nat.le_of_ble_eq_true rfl) (Nat.le_of_ble_eq_true rfl) dX12_deed_52 rfl ?_
        refine zr_if_eq 67 dX12_deed_55 (by decide) (fun hc => ?_) (fun hc => ?_)
        · rw [if_pos hc] at hf
          refine zr_bipush (-2) dX12_deed_67 (by decide) ?_
          cases hf
          exact zr_lv [] rfl hj11
        · rw [if_neg hc] at hf
          refine zr_aload_n 0 dX12_deed_58 rfl ?_
          refine zr_iload_n 2 dX12_deed_59 rfl ?_
          refine zr_iload_n 3 dX12_deed_60 rfl ?_
          replace hf := zb1_s hf
          obtain ⟨v15, h14, hf⟩ := hf
          refine zr_callV (ci := 12) [.int x2, .int x3] (cX12_deedOf_ok h14) zvs_X12_deedOf zl_1089 zl_1090 (fX12_deedOf_ck h14) rfl rfl zl_1088 rfl (Nat.le_of_ble_eq_true rfl) (Nat.le_of_ble_eq_true rfl) (Nat.le_of_ble_eq_true rfl) (Nat.le_of_ble_eq_true rfl) dX12_deed_61 rfl ?_
          refine zr_goto 69 dX12_deed_64 (by decide) ?_
          cases hf
          exact zr_lv [] rfl hj11
    · rw [if_pos hc] at hf
      refine zr_iload_n 3 dX12_deed_21 rfl ?_
      replace hf := zb1_s hf
      obtain ⟨s16, hg, hf⟩ := hf
      have hj17 : zz K cX12_deed (4, RX12, some .int, 3, 0, 0, some (.int r), mo) 0 0 34 [] [.int s16] m4 := by
        cases hf
        exact zr_iret dX12_deed_34
      clear hf
      have hf := hg
      clear hg
      refine zr_if_ne 32 dX12_deed_22 (by decide) (fun hc => ?_) (fun hc => ?_)
      · rw [if_neg hc] at hf
        refine zr_bipush (-2) dX12_deed_32 (by decide) ?_
        cases hf
        exact zr_lv [] rfl hj17
      · rw [if_pos hc] at hf
        refine zr_aload_n 0 dX12_deed_25 rfl ?_
        replace hf := zb1_s hf
        obtain ⟨v19, h18, hf⟩ := hf
        refine zr_callV (ci := 12) [] (cX12_deeds_ok h18) zvs_X12_deeds zl_1085 zl_1086 (fX12_deeds_ck h18) rfl rfl zl_1084 rfl (Nat.le_of_ble_eq_true rfl) (Nat.le_of_ble_eq_true rfl) (Nat.le_of_ble_eq_true rfl) (Nat.le_of_ble_eq_true rfl) dX12_deed_26 rfl ?_
        refine zr_goto 34 dX12_deed_29 (by decide) ?_
        cases hf
        exact zr_lv [] rfl hj17
  · rw [if_pos hc] at hf
    refine zr_bipush (-2) dX12_deed_13 (by decide) ?_
    cases hf
    exact zr_iret dX12_deed_15
theorem zl_1091 : Cond.fieldLink RX12 329 "TwoEchoesModel" "said" "I" ∈ zt := zt_at 1370 (by decide +kernel)
theorem zl_1092 : Cond.fieldLink RX12 332 "TwoEchoesModel" "now" "I" ∈ zt := zt_at 1371 (by decide +kernel)
theorem dX12_begin_0 : decode cX12_begin 0 = .ok (.iconst 0, 1) := by decide +kernel
theorem dX12_begin_1 : decode cX12_begin 1 = .ok (.istore_n 1, 1) := by decide +kernel
theorem dX12_begin_2 : decode cX12_begin 2 = .ok (.iload_n 1, 1) := by decide +kernel
theorem dX12_begin_3 : decode cX12_begin 3 = .ok (.bipush 6, 2) := by decide +kernel
theorem dX12_begin_5 : decode cX12_begin 5 = .ok (.if_icmp .ge 38, 3) := by decide +kernel
theorem dX12_begin_8 : decode cX12_begin 8 = .ok (.aload_n 0, 1) := by decide +kernel
theorem dX12_begin_9 : decode cX12_begin 9 = .ok (.getfield 44, 3) := by decide +kernel
theorem dX12_begin_12 : decode cX12_begin 12 = .ok (.bipush 100, 2) := by decide +kernel
theorem dX12_begin_14 : decode cX12_begin 14 = .ok (.iload_n 1, 1) := by decide +kernel
theorem dX12_begin_15 : decode cX12_begin 15 = .ok (.imul, 1) := by decide +kernel
theorem dX12_begin_16 : decode cX12_begin 16 = .ok (.iload_n 1, 1) := by decide +kernel
theorem dX12_begin_17 : decode cX12_begin 17 = .ok (.aload_n 0, 1) := by decide +kernel
theorem dX12_begin_18 : decode cX12_begin 18 = .ok (.getfield 276, 3) := by decide +kernel
theorem dX12_begin_21 : decode cX12_begin 21 = .ok (.if_icmp .ge 14, 3) := by decide +kernel
theorem dX12_begin_24 : decode cX12_begin 24 = .ok (.aload_n 0, 1) := by decide +kernel
theorem dX12_begin_25 : decode cX12_begin 25 = .ok (.bipush 33, 2) := by decide +kernel
theorem dX12_begin_27 : decode cX12_begin 27 = .ok (.iload_n 1, 1) := by decide +kernel
theorem dX12_begin_28 : decode cX12_begin 28 = .ok (.iadd, 1) := by decide +kernel
theorem dX12_begin_29 : decode cX12_begin 29 = .ok (.invokevirtual 269, 3) := by decide +kernel
theorem dX12_begin_32 : decode cX12_begin 32 = .ok (.goto 4, 3) := by decide +kernel
theorem dX12_begin_35 : decode cX12_begin 35 = .ok (.iconst 0, 1) := by decide +kernel
theorem dX12_begin_36 : decode cX12_begin 36 = .ok (.iastore, 1) := by decide +kernel
theorem dX12_begin_37 : decode cX12_begin 37 = .ok (.iinc 1 1, 3) := by decide +kernel
theorem dX12_begin_40 : decode cX12_begin 40 = .ok (.goto (-38), 3) := by decide +kernel
theorem dX12_begin_43 : decode cX12_begin 43 = .ok (.aload_n 0, 1) := by decide +kernel
theorem dX12_begin_44 : decode cX12_begin 44 = .ok (.iconst 0, 1) := by decide +kernel
theorem dX12_begin_45 : decode cX12_begin 45 = .ok (.putfield 329, 3) := by decide +kernel
theorem dX12_begin_48 : decode cX12_begin 48 = .ok (.aload_n 0, 1) := by decide +kernel
theorem dX12_begin_49 : decode cX12_begin 49 = .ok (.iconst 0, 1) := by decide +kernel
theorem dX12_begin_50 : decode cX12_begin 50 = .ok (.putfield 332, 3) := by decide +kernel
theorem dX12_begin_53 : decode cX12_begin 53 = .ok (.return_, 1) := by decide +kernel
noncomputable def fX12_begin_l2 (x0 : Nat) (F3 : Int32 → zM → Option (zM)) (x1_1 : Int32) (m2 : zM) : Option (zM) :=
  if 6 ≤ x1_1 then (
  some m2)
  else (
  zb1 (zm_gR m2 12 x0 27) fun v7 =>
  zb1 (zm_gI m2 12 x0 25) fun v9 =>
  zb1 (if v9 ≤ x1_1 then (
  some 0)
  else (
  zb1 (fX12_of m2 x0 (33 + x1_1)) fun v16 =>
  some v16) : Option (Int32)) fun (s11 : Int32) =>
  zb1 (zm_sI m2 0 v7 (100 * x1_1) s11) fun m13 =>
  F3 (x1_1 + 1) m13)
noncomputable def fX12_begin (μ : zM) (x0 : Nat) : Option (zM) := zgd (zm_ck μ 12 x0) <|
  zb1 (zf2 (fX12_begin_l2 x0) zfu 0 μ : Option (zM)) fun (m5 : zM) =>
  zb1 (zm_p m5 12 x0 29 (.int 0)) fun m18 =>
  zb1 (zm_p m18 12 x0 30 (.int 0)) fun m20 =>
  some m20
theorem fX12_begin_ck {μ : zM} {x0 : Nat} {z : zM} (h : fX12_begin μ x0 = some z) : zm_ck μ 12 x0 = true := (zgd_s h).1
set_option maxHeartbeats 4000000 in
set_option maxRecDepth 100000 in
theorem cX12_begin_ok {μ : zM} {x0 : Nat} {mo : zM} (hf : fX12_begin μ x0 = some mo) : zC yX12_begin cX12_begin 2 (none) 1 0 0 [.ref x0] μ (none) mo := by
  replace hf := (zgd_s hf).2
  refine zC.of (by decide) (Nat.le_of_ble_eq_true rfl) (fun K hin => ?_)
  clear hin
  show zz K cX12_begin (2, RX12, none, 1, 0, 0, none, mo) 0 0 0 [(0, .ref x0)] [] μ
  refine zr_iconst 0 dX12_begin_0 (by decide) ?_
  refine zr_istore_n [(1, .int 0), (0, .ref x0)] dX12_begin_1 (Nat.le_of_ble_eq_true rfl) rfl ?_
  replace hf := zb1_s hf
  obtain ⟨m5, hg, hf⟩ := hf
  have hj6 : zz K cX12_begin (2, RX12, none, 1, 0, 0, none, mo) 0 0 43 [(0, .ref x0)] [] m5 := by
    refine zr_aload_n 0 dX12_begin_43 rfl ?_
    refine zr_iconst 0 dX12_begin_44 (by decide) ?_
    replace hf := zb1_s hf
    obtain ⟨m18, h19, hf⟩ := hf
    refine zr_put h19 zk12 (by decide) zl_1091 rfl rfl rfl dX12_begin_45 ?_
    refine zr_aload_n 0 dX12_begin_48 rfl ?_
    refine zr_iconst 0 dX12_begin_49 (by decide) ?_
    replace hf := zb1_s hf
    obtain ⟨m20, h21, hf⟩ := hf
    refine zr_put h21 zk12 (by decide) zl_1092 rfl rfl rfl dX12_begin_50 ?_
    cases hf
    exact zr_vret dX12_begin_53
  clear hf
  have hf := hg
  clear hg
  have hL17 : ∀ (n : Nat) (x1_1 : Int32) (m2 : zM), zf2 (fX12_begin_l2 x0) n x1_1 m2 = some m5 → zz K cX12_begin (2, RX12, none, 1, 0, 0, none, mo) 0 0 2 [(0, .ref x0), (1, .int x1_1)] [] m2 := by
    intro n
    induction n with
    | zero => intro x1_1 m2 hf; cases hf
    | succ n ih4 =>
      intro x1_1 m2 hf
      replace hf := zf2_s hf
      generalize zf2 (fX12_begin_l2 x0) n = F3 at hf ih4
      unfold fX12_begin_l2 at hf
      refine zr_iload_n 1 dX12_begin_2 rfl ?_
      refine zr_bipush 6 dX12_begin_3 (by decide) ?_
      refine zr_icmp_ge 43 dX12_begin_5 (by decide) (fun hc => ?_) (fun hc => ?_)
      · rw [if_pos hc] at hf
        cases hf
        exact zr_lv [0] rfl hj6
      · rw [if_neg hc] at hf
        refine zr_aload_n 0 dX12_begin_8 rfl ?_
        replace hf := zb1_s hf
        obtain ⟨v7, h8, hf⟩ := hf
        refine zr_get (zm_gR_g h8) zk12 (by decide) zl_875 dX12_begin_9 ?_
        refine zr_bipush 100 dX12_begin_12 (by decide) ?_
        refine zr_iload_n 1 dX12_begin_14 rfl ?_
        refine zr_imul dX12_begin_15 ?_
        refine zr_iload_n 1 dX12_begin_16 rfl ?_
        refine zr_aload_n 0 dX12_begin_17 rfl ?_
        replace hf := zb1_s hf
        obtain ⟨v9, h10, hf⟩ := hf
        refine zr_get (zm_gI_g h10) zk12 (by decide) zl_1032 dX12_begin_18 ?_
        replace hf := zb1_s hf
        obtain ⟨s11, hg, hf⟩ := hf
        have hj12 : zz K cX12_begin (2, RX12, none, 1, 0, 0, none, mo) 0 0 36 [(0, .ref x0), (1, .int x1_1)] [.int s11, .int (100 * x1_1), .ref v7] m2 := by
          replace hf := zb1_s hf
          obtain ⟨m13, h14, hf⟩ := hf
          refine zr_iast h14 dX12_begin_36 ?_
          refine zr_iinc (j := 1) (x1_1 + 1) [(1, .int (x1_1 + 1)), (0, .ref x0)] dX12_begin_37 rfl rfl (Nat.le_of_ble_eq_true rfl) rfl ?_
          refine zr_goto 2 dX12_begin_40 (by decide) ?_
          exact zr_lv [1, 0] rfl (ih4 (x1_1 + 1) m13 hf)
        clear hf
        have hf := hg
        clear hg
        refine zr_icmp_ge 35 dX12_begin_21 (by decide) (fun hc => ?_) (fun hc => ?_)
        · rw [if_pos hc] at hf
          refine zr_iconst 0 dX12_begin_35 (by decide) ?_
          cases hf
          exact zr_lv [0, 1] rfl hj12
        · rw [if_neg hc] at hf
          refine zr_aload_n 0 dX12_begin_24 rfl ?_
          refine zr_bipush 33 dX12_begin_25 (by decide) ?_
          refine zr_iload_n 1 dX12_begin_27 rfl ?_
          refine zr_iadd dX12_begin_28 ?_
          replace hf := zb1_s hf
          obtain ⟨v16, h15, hf⟩ := hf
          refine zr_callV (ci := 12) [.int (33 + x1_1)] (cX12_of_ok h15) zvs_X12_of zl_1029 zl_1030 (fX12_of_ck h15) rfl rfl zl_1028 rfl (Nat.le_of_ble_eq_true rfl) (Nat.le_of_ble_eq_true rfl) (Nat.le_of_ble_eq_true rfl) (Nat.le_of_ble_eq_true rfl) dX12_begin_29 rfl ?_
          refine zr_goto 36 dX12_begin_32 (by decide) ?_
          cases hf
          exact zr_lv [0, 1] rfl hj12
  exact zr_lv [1, 0] rfl (hL17 _ 0 μ hf)
theorem dX12_says_0 : decode cX12_says 0 = .ok (.aload_n 0, 1) := by decide +kernel
theorem dX12_says_1 : decode cX12_says 1 = .ok (.getfield 47, 3) := by decide +kernel
theorem dX12_says_4 : decode cX12_says 4 = .ok (.iconst 5, 1) := by decide +kernel
theorem dX12_says_5 : decode cX12_says 5 = .ok (.aload_n 0, 1) := by decide +kernel
theorem dX12_says_6 : decode cX12_says 6 = .ok (.getfield 329, 3) := by decide +kernel
theorem dX12_says_9 : decode cX12_says 9 = .ok (.imul, 1) := by decide +kernel
theorem dX12_says_10 : decode cX12_says 10 = .ok (.aload_n 0, 1) := by decide +kernel
theorem dX12_says_11 : decode cX12_says 11 = .ok (.getfield 44, 3) := by decide +kernel
theorem dX12_says_14 : decode cX12_says 14 = .ok (.bipush 100, 2) := by decide +kernel
theorem dX12_says_16 : decode cX12_says 16 = .ok (.iload_n 1, 1) := by decide +kernel
theorem dX12_says_17 : decode cX12_says 17 = .ok (.imul, 1) := by decide +kernel
theorem dX12_says_18 : decode cX12_says 18 = .ok (.aload_n 0, 1) := by decide +kernel
theorem dX12_says_19 : decode cX12_says 19 = .ok (.getfield 332, 3) := by decide +kernel
theorem dX12_says_22 : decode cX12_says 22 = .ok (.iadd, 1) := by decide +kernel
theorem dX12_says_23 : decode cX12_says 23 = .ok (.iaload, 1) := by decide +kernel
theorem dX12_says_24 : decode cX12_says 24 = .ok (.iastore, 1) := by decide +kernel
theorem dX12_says_25 : decode cX12_says 25 = .ok (.aload_n 0, 1) := by decide +kernel
theorem dX12_says_26 : decode cX12_says 26 = .ok (.getfield 47, 3) := by decide +kernel
theorem dX12_says_29 : decode cX12_says 29 = .ok (.iconst 5, 1) := by decide +kernel
theorem dX12_says_30 : decode cX12_says 30 = .ok (.aload_n 0, 1) := by decide +kernel
theorem dX12_says_31 : decode cX12_says 31 = .ok (.getfield 329, 3) := by decide +kernel
theorem dX12_says_34 : decode cX12_says 34 = .ok (.imul, 1) := by decide +kernel
theorem dX12_says_35 : decode cX12_says 35 = .ok (.iconst 1, 1) := by decide +kernel
theorem dX12_says_36 : decode cX12_says 36 = .ok (.iadd, 1) := by decide +kernel
theorem dX12_says_37 : decode cX12_says 37 = .ok (.iload_n 2, 1) := by decide +kernel
theorem dX12_says_38 : decode cX12_says 38 = .ok (.iastore, 1) := by decide +kernel
theorem dX12_says_39 : decode cX12_says 39 = .ok (.aload_n 0, 1) := by decide +kernel
theorem dX12_says_40 : decode cX12_says 40 = .ok (.getfield 47, 3) := by decide +kernel
theorem dX12_says_43 : decode cX12_says 43 = .ok (.iconst 5, 1) := by decide +kernel
theorem dX12_says_44 : decode cX12_says 44 = .ok (.aload_n 0, 1) := by decide +kernel
theorem dX12_says_45 : decode cX12_says 45 = .ok (.getfield 329, 3) := by decide +kernel
theorem dX12_says_48 : decode cX12_says 48 = .ok (.imul, 1) := by decide +kernel
theorem dX12_says_49 : decode cX12_says 49 = .ok (.iconst 2, 1) := by decide +kernel
theorem dX12_says_50 : decode cX12_says 50 = .ok (.iadd, 1) := by decide +kernel
theorem dX12_says_51 : decode cX12_says 51 = .ok (.iload_n 3, 1) := by decide +kernel
theorem dX12_says_52 : decode cX12_says 52 = .ok (.iastore, 1) := by decide +kernel
theorem dX12_says_53 : decode cX12_says 53 = .ok (.aload_n 0, 1) := by decide +kernel
theorem dX12_says_54 : decode cX12_says 54 = .ok (.getfield 47, 3) := by decide +kernel
theorem dX12_says_57 : decode cX12_says 57 = .ok (.iconst 5, 1) := by decide +kernel
theorem dX12_says_58 : decode cX12_says 58 = .ok (.aload_n 0, 1) := by decide +kernel
theorem dX12_says_59 : decode cX12_says 59 = .ok (.getfield 329, 3) := by decide +kernel
theorem dX12_says_62 : decode cX12_says 62 = .ok (.imul, 1) := by decide +kernel
theorem dX12_says_63 : decode cX12_says 63 = .ok (.iconst 3, 1) := by decide +kernel
theorem dX12_says_64 : decode cX12_says 64 = .ok (.iadd, 1) := by decide +kernel
theorem dX12_says_65 : decode cX12_says 65 = .ok (.aload_n 0, 1) := by decide +kernel
theorem dX12_says_66 : decode cX12_says 66 = .ok (.getfield 332, 3) := by decide +kernel
theorem dX12_says_69 : decode cX12_says 69 = .ok (.iastore, 1) := by decide +kernel
theorem dX12_says_70 : decode cX12_says 70 = .ok (.aload_n 0, 1) := by decide +kernel
theorem dX12_says_71 : decode cX12_says 71 = .ok (.getfield 47, 3) := by decide +kernel
theorem dX12_says_74 : decode cX12_says 74 = .ok (.iconst 5, 1) := by decide +kernel
theorem dX12_says_75 : decode cX12_says 75 = .ok (.aload_n 0, 1) := by decide +kernel
theorem dX12_says_76 : decode cX12_says 76 = .ok (.getfield 329, 3) := by decide +kernel
theorem dX12_says_79 : decode cX12_says 79 = .ok (.imul, 1) := by decide +kernel
theorem dX12_says_80 : decode cX12_says 80 = .ok (.iconst 4, 1) := by decide +kernel
theorem dX12_says_81 : decode cX12_says 81 = .ok (.iadd, 1) := by decide +kernel
theorem dX12_says_82 : decode cX12_says 82 = .ok (.iload_n 1, 1) := by decide +kernel
theorem dX12_says_83 : decode cX12_says 83 = .ok (.iastore, 1) := by decide +kernel
theorem dX12_says_84 : decode cX12_says 84 = .ok (.aload_n 0, 1) := by decide +kernel
theorem dX12_says_85 : decode cX12_says 85 = .ok (.dup, 1) := by decide +kernel
theorem dX12_says_86 : decode cX12_says 86 = .ok (.getfield 329, 3) := by decide +kernel
theorem dX12_says_89 : decode cX12_says 89 = .ok (.iconst 1, 1) := by decide +kernel
theorem dX12_says_90 : decode cX12_says 90 = .ok (.iadd, 1) := by decide +kernel
theorem dX12_says_91 : decode cX12_says 91 = .ok (.putfield 329, 3) := by decide +kernel
theorem dX12_says_94 : decode cX12_says 94 = .ok (.return_, 1) := by decide +kernel
noncomputable def fX12_says (μ : zM) (x0 : Nat) (x1 : Int32) (x2 : Int32) (x3 : Int32) : Option (zM) := zgd (zm_ck μ 12 x0) <|
  zb1 (zm_gR μ 12 x0 28) fun v1 =>
  zb1 (zm_gI μ 12 x0 29) fun v3 =>
  zb1 (zm_gR μ 12 x0 27) fun v5 =>
  zb1 (zm_gI μ 12 x0 30) fun v7 =>
  zb1 (zm_aI μ 0 v5 ((100 * x1) + v7)) fun v9 =>
  zb1 (zm_sI μ 0 v1 (5 * v3) v9) fun m11 =>
  zb1 (zm_gR m11 12 x0 28) fun v13 =>
  zb1 (zm_gI m11 12 x0 29) fun v15 =>
  zb1 (zm_sI m11 0 v13 ((5 * v15) + 1) x2) fun m17 =>
  zb1 (zm_gR m17 12 x0 28) fun v19 =>
  zb1 (zm_gI m17 12 x0 29) fun v21 =>
  zb1 (zm_sI m17 0 v19 ((5 * v21) + 2) x3) fun m23 =>
  zb1 (zm_gR m23 12 x0 28) fun v25 =>
  zb1 (zm_gI m23 12 x0 29) fun v27 =>
  zb1 (zm_gI m23 12 x0 30) fun v29 =>
  zb1 (zm_sI m23 0 v25 ((5 * v27) + 3) v29) fun m31 =>
  zb1 (zm_gR m31 12 x0 28) fun v33 =>
  zb1 (zm_gI m31 12 x0 29) fun v35 =>
  zb1 (zm_sI m31 0 v33 ((5 * v35) + 4) x1) fun m37 =>
  zb1 (zm_gI m37 12 x0 29) fun v39 =>
  zb1 (zm_p m37 12 x0 29 (.int (v39 + 1))) fun m41 =>
  some m41
theorem fX12_says_ck {μ : zM} {x0 : Nat} {x1 : Int32} {x2 : Int32} {x3 : Int32} {z : zM} (h : fX12_says μ x0 x1 x2 x3 = some z) : zm_ck μ 12 x0 = true := (zgd_s h).1
set_option maxHeartbeats 4000000 in
set_option maxRecDepth 100000 in
theorem cX12_says_ok {μ : zM} {x0 : Nat} {x1 : Int32} {x2 : Int32} {x3 : Int32} {mo : zM} (hf : fX12_says μ x0 x1 x2 x3 = some mo) : zC yX12_says cX12_says 4 (none) 0 0 0 [.ref x0, .int x1, .int x2, .int x3] μ (none) mo := by
  replace hf := (zgd_s hf).2
  refine zC.of (by decide) (Nat.le_of_ble_eq_true rfl) (fun K hin => ?_)
  clear hin
  show zz K cX12_says (4, RX12, none, 0, 0, 0, none, mo) 0 0 0 [(0, .ref x0), (1, .int x1), (2, .int x2), (3, .int x3)] [] μ
  refine zr_aload_n 0 dX12_says_0 rfl ?_
  replace hf := zb1_s hf
  obtain ⟨v1, h2, hf⟩ := hf
  refine zr_get (zm_gR_g h2) zk12 (by decide) zl_876 dX12_says_1 ?_
  refine zr_iconst 5 dX12_says_4 (by decide) ?_
  refine zr_aload_n 0 dX12_says_5 rfl ?_
  replace hf := zb1_s hf
  obtain ⟨v3, h4, hf⟩ := hf
  refine zr_get (zm_gI_g h4) zk12 (by decide) zl_1091 dX12_says_6 ?_
  refine zr_imul dX12_says_9 ?_
  refine zr_aload_n 0 dX12_says_10 rfl ?_
  replace hf := zb1_s hf
  obtain ⟨v5, h6, hf⟩ := hf
  refine zr_get (zm_gR_g h6) zk12 (by decide) zl_875 dX12_says_11 ?_
  refine zr_bipush 100 dX12_says_14 (by decide) ?_
  refine zr_iload_n 1 dX12_says_16 rfl ?_
  refine zr_imul dX12_says_17 ?_
  refine zr_aload_n 0 dX12_says_18 rfl ?_
  replace hf := zb1_s hf
  obtain ⟨v7, h8, hf⟩ := hf
  refine zr_get (zm_gI_g h8) zk12 (by decide) zl_1092 dX12_says_19 ?_
  refine zr_iadd dX12_says_22 ?_
  replace hf := zb1_s hf
  obtain ⟨v9, h10, hf⟩ := hf
  refine zr_iald h10 dX12_says_23 ?_
  replace hf := zb1_s hf
  obtain ⟨m11, h12, hf⟩ := hf
  refine zr_iast h12 dX12_says_24 ?_
  refine zr_aload_n 0 dX12_says_25 rfl ?_
  replace hf := zb1_s hf
  obtain ⟨v13, h14, hf⟩ := hf
  refine zr_get (zm_gR_g h14) zk12 (by decide) zl_876 dX12_says_26 ?_
  refine zr_iconst 5 dX12_says_29 (by decide) ?_
  refine zr_aload_n 0 dX12_says_30 rfl ?_
  replace hf := zb1_s hf
  obtain ⟨v15, h16, hf⟩ := hf
  refine zr_get (zm_gI_g h16) zk12 (by decide) zl_1091 dX12_says_31 ?_
  refine zr_imul dX12_says_34 ?_
  refine zr_iconst 1 dX12_says_35 (by decide) ?_
  refine zr_iadd dX12_says_36 ?_
  refine zr_iload_n 2 dX12_says_37 rfl ?_
  replace hf := zb1_s hf
  obtain ⟨m17, h18, hf⟩ := hf
  refine zr_iast h18 dX12_says_38 ?_
  refine zr_aload_n 0 dX12_says_39 rfl ?_
  replace hf := zb1_s hf
  obtain ⟨v19, h20, hf⟩ := hf
  refine zr_get (zm_gR_g h20) zk12 (by decide) zl_876 dX12_says_40 ?_
  refine zr_iconst 5 dX12_says_43 (by decide) ?_
  refine zr_aload_n 0 dX12_says_44 rfl ?_
  replace hf := zb1_s hf
  obtain ⟨v21, h22, hf⟩ := hf
  refine zr_get (zm_gI_g h22) zk12 (by decide) zl_1091 dX12_says_45 ?_
  refine zr_imul dX12_says_48 ?_
  refine zr_iconst 2 dX12_says_49 (by decide) ?_
  refine zr_iadd dX12_says_50 ?_
  refine zr_iload_n 3 dX12_says_51 rfl ?_
  replace hf := zb1_s hf
  obtain ⟨m23, h24, hf⟩ := hf
  refine zr_iast h24 dX12_says_52 ?_
  refine zr_aload_n 0 dX12_says_53 rfl ?_
  replace hf := zb1_s hf
  obtain ⟨v25, h26, hf⟩ := hf
  refine zr_get (zm_gR_g h26) zk12 (by decide) zl_876 dX12_says_54 ?_
  refine zr_iconst 5 dX12_says_57 (by decide) ?_
  refine zr_aload_n 0 dX12_says_58 rfl ?_
  replace hf := zb1_s hf
  obtain ⟨v27, h28, hf⟩ := hf
  refine zr_get (zm_gI_g h28) zk12 (by decide) zl_1091 dX12_says_59 ?_
  refine zr_imul dX12_says_62 ?_
  refine zr_iconst 3 dX12_says_63 (by decide) ?_
  refine zr_iadd dX12_says_64 ?_
  refine zr_aload_n 0 dX12_says_65 rfl ?_
  replace hf := zb1_s hf
  obtain ⟨v29, h30, hf⟩ := hf
  refine zr_get (zm_gI_g h30) zk12 (by decide) zl_1092 dX12_says_66 ?_
  replace hf := zb1_s hf
  obtain ⟨m31, h32, hf⟩ := hf
  refine zr_iast h32 dX12_says_69 ?_
  refine zr_aload_n 0 dX12_says_70 rfl ?_
  replace hf := zb1_s hf
  obtain ⟨v33, h34, hf⟩ := hf
  refine zr_get (zm_gR_g h34) zk12 (by decide) zl_876 dX12_says_71 ?_
  refine zr_iconst 5 dX12_says_74 (by decide) ?_
  refine zr_aload_n 0 dX12_says_75 rfl ?_
  replace hf := zb1_s hf
  obtain ⟨v35, h36, hf⟩ := hf
  refine zr_get (zm_gI_g h36) zk12 (by decide) zl_1091 dX12_says_76 ?_
  refine zr_imul dX12_says_79 ?_
  refine zr_iconst 4 dX12_says_80 (by decide) ?_
  refine zr_iadd dX12_says_81 ?_
  refine zr_iload_n 1 dX12_says_82 rfl ?_
  replace hf := zb1_s hf
  obtain ⟨m37, h38, hf⟩ := hf
  refine zr_iast h38 dX12_says_83 ?_
  refine zr_aload_n 0 dX12_says_84 rfl ?_
  refine zr_dup dX12_says_85 rfl ?_
  replace hf := zb1_s hf
  obtain ⟨v39, h40, hf⟩ := hf
  refine zr_get (zm_gI_g h40) zk12 (by decide) zl_1091 dX12_says_86 ?_
  refine zr_iconst 1 dX12_says_89 (by decide) ?_
  refine zr_iadd dX12_says_90 ?_
  replace hf := zb1_s hf
  obtain ⟨m41, h42, hf⟩ := hf
  refine zr_put h42 zk12 (by decide) zl_1091 rfl rfl rfl dX12_says_91 ?_
  cases hf
  exact zr_vret dX12_says_94
theorem dX12_passes_0 : decode cX12_passes 0 = .ok (.iconst 0, 1) := by decide +kernel
theorem dX12_passes_1 : decode cX12_passes 1 = .ok (.istore_n 3, 1) := by decide +kernel
theorem dX12_passes_2 : decode cX12_passes 2 = .ok (.iload_n 3, 1) := by decide +kernel
theorem dX12_passes_3 : decode cX12_passes 3 = .ok (.bipush 6, 2) := by decide +kernel
theorem dX12_passes_5 : decode cX12_passes 5 = .ok (.if_icmp .ge 50, 3) := by decide +kernel
theorem dX12_passes_8 : decode cX12_passes 8 = .ok (.aload_n 0, 1) := by decide +kernel
theorem dX12_passes_9 : decode cX12_passes 9 = .ok (.getfield 44, 3) := by decide +kernel
theorem dX12_passes_12 : decode cX12_passes 12 = .ok (.bipush 100, 2) := by decide +kernel
theorem dX12_passes_14 : decode cX12_passes 14 = .ok (.iload_n 3, 1) := by decide +kernel
theorem dX12_passes_15 : decode cX12_passes 15 = .ok (.imul, 1) := by decide +kernel
theorem dX12_passes_16 : decode cX12_passes 16 = .ok (.aload_n 0, 1) := by decide +kernel
theorem dX12_passes_17 : decode cX12_passes 17 = .ok (.getfield 332, 3) := by decide +kernel
theorem dX12_passes_20 : decode cX12_passes 20 = .ok (.iadd, 1) := by decide +kernel
theorem dX12_passes_21 : decode cX12_passes 21 = .ok (.iconst 1, 1) := by decide +kernel
theorem dX12_passes_22 : decode cX12_passes 22 = .ok (.iadd, 1) := by decide +kernel
theorem dX12_passes_23 : decode cX12_passes 23 = .ok (.aload_n 0, 1) := by decide +kernel
theorem dX12_passes_24 : decode cX12_passes 24 = .ok (.getfield 44, 3) := by decide +kernel
theorem dX12_passes_27 : decode cX12_passes 27 = .ok (.bipush 100, 2) := by decide +kernel
theorem dX12_passes_29 : decode cX12_passes 29 = .ok (.iload_n 3, 1) := by decide +kernel
theorem dX12_passes_30 : decode cX12_passes 30 = .ok (.imul, 1) := by decide +kernel
theorem dX12_passes_31 : decode cX12_passes 31 = .ok (.aload_n 0, 1) := by decide +kernel
theorem dX12_passes_32 : decode cX12_passes 32 = .ok (.getfield 332, 3) := by decide +kernel
theorem dX12_passes_35 : decode cX12_passes 35 = .ok (.iadd, 1) := by decide +kernel
theorem dX12_passes_36 : decode cX12_passes 36 = .ok (.iaload, 1) := by decide +kernel
theorem dX12_passes_37 : decode cX12_passes 37 = .ok (.iload_n 3, 1) := by decide +kernel
theorem dX12_passes_38 : decode cX12_passes 38 = .ok (.iload_n 1, 1) := by decide +kernel
theorem dX12_passes_39 : decode cX12_passes 39 = .ok (.if_icmp .ne 7, 3) := by decide +kernel
theorem dX12_passes_42 : decode cX12_passes 42 = .ok (.iload_n 2, 1) := by decide +kernel
theorem dX12_passes_43 : decode cX12_passes 43 = .ok (.goto 4, 3) := by decide +kernel
theorem dX12_passes_46 : decode cX12_passes 46 = .ok (.iconst 0, 1) := by decide +kernel
theorem dX12_passes_47 : decode cX12_passes 47 = .ok (.iadd, 1) := by decide +kernel
theorem dX12_passes_48 : decode cX12_passes 48 = .ok (.iastore, 1) := by decide +kernel
theorem dX12_passes_49 : decode cX12_passes 49 = .ok (.iinc 3 1, 3) := by decide +kernel
theorem dX12_passes_52 : decode cX12_passes 52 = .ok (.goto (-50), 3) := by decide +kernel
theorem dX12_passes_55 : decode cX12_passes 55 = .ok (.aload_n 0, 1) := by decide +kernel
theorem dX12_passes_56 : decode cX12_passes 56 = .ok (.dup, 1) := by decide +kernel
theorem dX12_passes_57 : decode cX12_passes 57 = .ok (.getfield 332, 3) := by decide +kernel
theorem dX12_passes_60 : decode cX12_passes 60 = .ok (.iconst 1, 1) := by decide +kernel
theorem dX12_passes_61 : decode cX12_passes 61 = .ok (.iadd, 1) := by decide +kernel
theorem dX12_passes_62 : decode cX12_passes 62 = .ok (.putfield 332, 3) := by decide +kernel
theorem dX12_passes_65 : decode cX12_passes 65 = .ok (.return_, 1) := by decide +kernel
noncomputable def fX12_passes_l2 (x0 : Nat) (x1 : Int32) (x2 : Int32) (F3 : Int32 → zM → Option (zM)) (x3_1 : Int32) (m2 : zM) : Option (zM) :=
  if 6 ≤ x3_1 then (
  some m2)
  else (
  zb1 (zm_gR m2 12 x0 27) fun v7 =>
  zb1 (zm_gI m2 12 x0 30) fun v9 =>
  zb1 (zm_gR m2 12 x0 27) fun v11 =>
  zb1 (zm_gI m2 12 x0 30) fun v13 =>
  zb1 (zm_aI m2 0 v11 ((100 * x3_1) + v13)) fun v15 =>
  zb1 (if x3_1 = x1 then (
  some x2)
  else (
  some 0) : Option (Int32)) fun (s17 : Int32) =>
  zb1 (zm_sI m2 0 v7 (((100 * x3_1) + v9) + 1) (v15 + s17)) fun m19 =>
  F3 (x3_1 + 1) m19)
noncomputable def fX12_passes (μ : zM) (x0 : Nat) (x1 : Int32) (x2 : Int32) : Option (zM) := zgd (zm_ck μ 12 x0) <|
  zb1 (zf2 (fX12_passes_l2 x0 x1 x2) zfu 0 μ : Option (zM)) fun (m5 : zM) =>
  zb1 (zm_gI m5 12 x0 30) fun v22 =>
  zb1 (zm_p m5 12 x0 30 (.int (v22 + 1))) fun m24 =>
  some m24
theorem fX12_passes_ck {μ : zM} {x0 : Nat} {x1 : Int32} {x2 : Int32} {z : zM} (h : fX12_passes μ x0 x1 x2 = some z) : zm_ck μ 12 x0 = true := (zgd_s h).1
set_option maxHeartbeats 4000000 in
set_option maxRecDepth 100000 in
theorem cX12_passes_ok {μ : zM} {x0 : Nat} {x1 : Int32} {x2 : Int32} {mo : zM} (hf : fX12_passes μ x0 x1 x2 = some mo) : zC yX12_passes cX12_passes 4 (none) 0 0 0 [.ref x0, .int x1, .int x2] μ (none) mo := by
  replace hf := (zgd_s hf).2
  refine zC.of (by decide) (Nat.le_of_ble_eq_true rfl) (fun K hin => ?_)
  clear hin
  show zz K cX12_passes (4, RX12, none, 0, 0, 0, none, mo) 0 0 0 [(0, .ref x0), (1, .int x1), (2, .int x2)] [] μ
  refine zr_iconst 0 dX12_passes_0 (by decide) ?_
  refine zr_istore_n [(3, .int 0), (0, .ref x0), (1, .int x1), (2, .int x2)] dX12_passes_1 (Nat.le_of_ble_eq_true rfl) rfl ?_
  replace hf := zb1_s hf
  obtain ⟨m5, hg, hf⟩ := hf
  have hj6 : zz K cX12_passes (4, RX12, none, 0, 0, 0, none, mo) 0 0 55 [(0, .ref x0)] [] m5 := by
    refine zr_aload_n 0 dX12_passes_55 rfl ?_
    refine zr_dup dX12_passes_56 rfl ?_
    replace hf := zb1_s hf
    obtain ⟨v22, h23, hf⟩ := hf
    refine zr_get (zm_gI_g h23) zk12 (by decide) zl_1092 dX12_passes_57 ?_
    refine zr_iconst 1 dX12_passes_60 (by decide) ?_
    refine zr_iadd dX12_passes_61 ?_
    replace hf := zb1_s hf
    obtain ⟨m24, h25, hf⟩ := hf
    refine zr_put h25 zk12 (by decide) zl_1092 rfl rfl rfl dX12_passes_62 ?_
    cases hf
    exact zr_vret dX12_passes_65
  clear hf
  have hf := hg
  clear hg
  have hL21 : ∀ (n : Nat) (x3_1 : Int32) (m2 : zM), zf2 (fX12_passes_l2 x0 x1 x2) n x3_1 m2 = some m5 → zz K cX12_passes (4, RX12, none, 0, 0, 0, none, mo) 0 0 2 [(0, .ref x0), (1, .int x1), (2, .int x2), (3, .int x3_1)] [] m2 := by
    intro n
    induction n with
    | zero => intro x3_1 m2 hf; cases hf
    | succ n ih4 =>
      intro x3_1 m2 hf
      replace hf := zf2_s hf
      generalize zf2 (fX12_passes_l2 x0 x1 x2) n = F3 at hf ih4
      unfold fX12_passes_l2 at hf
      refine zr_iload_n 3 dX12_passes_2 rfl ?_
      refine zr_bipush 6 dX12_passes_3 (by decide) ?_
      refine zr_icmp_ge 55 dX12_passes_5 (by decide) (fun hc => ?_) (fun hc => ?_)
      · rw [if_pos hc] at hf
        cases hf
        exact zr_lv [0] rfl hj6
      · rw [if_neg hc] at hf
        refine zr_aload_n 0 dX12_passes_8 rfl ?_
        replace hf := zb1_s hf
        obtain ⟨v7, h8, hf⟩ := hf
        refine zr_get (zm_gR_g h8) zk12 (by decide) zl_875 dX12_passes_9 ?_
        refine zr_bipush 100 dX12_passes_12 (by decide) ?_
        refine zr_iload_n 3 dX12_passes_14 rfl ?_
        refine zr_imul dX12_passes_15 ?_
        refine zr_aload_n 0 dX12_passes_16 rfl ?_
        replace hf := zb1_s hf
        obtain ⟨v9, h10, hf⟩ := hf
        refine zr_get (zm_gI_g h10) zk12 (by decide) zl_1092 dX12_passes_17 ?_
        refine zr_iadd dX12_passes_20 ?_
        refine zr_iconst 1 dX12_passes_21 (by decide) ?_
        refine zr_iadd dX12_passes_22 ?_
        refine zr_aload_n 0 dX12_passes_23 rfl ?_
        replace hf := zb1_s hf
        obtain ⟨v11, h12, hf⟩ := hf
        refine zr_get (zm_gR_g h12) zk12 (by decide) zl_875 dX12_passes_24 ?_
        refine zr_bipush 100 dX12_passes_27 (by decide) ?_
        refine zr_iload_n 3 dX12_passes_29 rfl ?_
        refine zr_imul dX12_passes_30 ?_
        refine zr_aload_n 0 dX12_passes_31 rfl ?_
        replace hf := zb1_s hf
        obtain ⟨v13, h14, hf⟩ := hf
        refine zr_get (zm_gI_g h14) zk12 (by decide) zl_1092 dX12_passes_32 ?_
        refine zr_iadd dX12_passes_35 ?_
        replace hf := zb1_s hf
        obtain ⟨v15, h16, hf⟩ := hf
        refine zr_iald h16 dX12_passes_36 ?_
        refine zr_iload_n 3 dX12_passes_37 rfl ?_
        refine zr_iload_n 1 dX12_passes_38 rfl ?_
        replace hf := zb1_s hf
        obtain ⟨s17, hg, hf⟩ := hf
        have hj18 : zz K cX12_passes (4, RX12, none, 0, 0, 0, none, mo) 0 0 47 [(0, .ref x0), (1, .int x1), (2, .int x2), (3, .int x3_1)] [.int s17, .int v15, .int (((100 * x3_1) + v9) + 1), .ref v7] m2 := by
          refine zr_iadd dX12_passes_47 ?_
          replace hf := zb1_s hf
          obtain ⟨m19, h20, hf⟩ := hf
          refine zr_iast h20 dX12_passes_48 ?_
          refine zr_iinc (j := 3) (x3_1 + 1) [(3, .int (x3_1 + 1)), (0, .ref x0), (1, .int x1), (2, .int x2)] dX12_passes_49 rfl rfl (Nat.le_of_ble_eq_true rfl) rfl ?_
          refine zr_goto 2 dX12_passes_52 (by decide) ?_
          exact zr_lv [1, 2, 3, 0] rfl (ih4 (x3_1 + 1) m19 hf)
        clear hf
        have hf := hg
        clear hg
        refine zr_icmp_ne 46 dX12_passes_39 (by decide) (fun hc => ?_) (fun hc => ?_)
        · rw [if_neg hc] at hf
          refine zr_iconst 0 dX12_passes_46 (by decide) ?_
          cases hf
          exact zr_lv [0, 1, 2, 3] rfl hj18
        · rw [if_pos hc] at hf
          refine zr_iload_n 2 dX12_passes_42 rfl ?_
          refine zr_goto 47 dX12_passes_43 (by decide) ?_
          cases hf
          exact zr_lv [0, 1, 2, 3] rfl hj18
  exact zr_lv [1, 2, 3, 0] rfl (hL21 _ 0 μ hf)
theorem zl_1093 : Cond.code yX12_passes cX12_passes 4 (none) ∈ zt := zt_at 1743 (by decide +kernel)
theorem zvs_X12_passes : zvS yX12_passes cX12_passes 4 (none) 2 := ⟨zl_1093, zl_893, ⟨by decide +kernel, by decide +kernel, by decide +kernel⟩, by decide⟩
theorem zl_1094 : Cond.methodLink RX12 335 yX12_passes ∈ zt := zt_at 1740 (by decide +kernel)
theorem zl_1095 : Cond.instanceMethod yX12_passes ∈ zt := zt_at 1742 (by decide +kernel)
theorem zl_1096 : Cond.selects RX12 yX12_passes yX12_passes ∈ zt := zt_at 87 (by decide +kernel)
theorem dX12_waits_0 : decode cX12_waits 0 = .ok (.aload_n 0, 1) := by decide +kernel
theorem dX12_waits_1 : decode cX12_waits 1 = .ok (.getfield 332, 3) := by decide +kernel
theorem dX12_waits_4 : decode cX12_waits 4 = .ok (.iload_n 1, 1) := by decide +kernel
theorem dX12_waits_5 : decode cX12_waits 5 = .ok (.iadd, 1) := by decide +kernel
theorem dX12_waits_6 : decode cX12_waits 6 = .ok (.bipush 99, 2) := by decide +kernel
theorem dX12_waits_8 : decode cX12_waits 8 = .ok (.if_icmp .le 5, 3) := by decide +kernel
theorem dX12_waits_11 : decode cX12_waits 11 = .ok (.iconst 0, 1) := by decide +kernel
theorem dX12_waits_12 : decode cX12_waits 12 = .ok (.ireturn, 1) := by decide +kernel
theorem dX12_waits_13 : decode cX12_waits 13 = .ok (.iconst 0, 1) := by decide +kernel
theorem dX12_waits_14 : decode cX12_waits 14 = .ok (.istore_n 2, 1) := by decide +kernel
theorem dX12_waits_15 : decode cX12_waits 15 = .ok (.iload_n 2, 1) := by decide +kernel
theorem dX12_waits_16 : decode cX12_waits 16 = .ok (.iload_n 1, 1) := by decide +kernel
theorem dX12_waits_17 : decode cX12_waits 17 = .ok (.if_icmp .ge 15, 3) := by decide +kernel
theorem dX12_waits_20 : decode cX12_waits 20 = .ok (.aload_n 0, 1) := by decide +kernel
theorem dX12_waits_21 : decode cX12_waits 21 = .ok (.iconst (-1), 1) := by decide +kernel
theorem dX12_waits_22 : decode cX12_waits 22 = .ok (.iconst 0, 1) := by decide +kernel
theorem dX12_waits_23 : decode cX12_waits 23 = .ok (.invokevirtual 335, 3) := by decide +kernel
theorem dX12_waits_26 : decode cX12_waits 26 = .ok (.iinc 2 1, 3) := by decide +kernel
theorem dX12_waits_29 : decode cX12_waits 29 = .ok (.goto (-14), 3) := by decide +kernel
theorem dX12_waits_32 : decode cX12_waits 32 = .ok (.iconst 1, 1) := by decide +kernel
theorem dX12_waits_33 : decode cX12_waits 33 = .ok (.ireturn, 1) := by decide +kernel
noncomputable def fX12_waits_l15 (x1 : Int32) (x0 : Nat) (F5 : Int32 → zM → Option (zM)) (x2_3 : Int32) (m4 : zM) : Option (zM) :=
  if x1 ≤ x2_3 then (
  some m4)
  else (
  zb1 (fX12_passes m4 x0 (-1) 0) fun m10 =>
  F5 (x2_3 + 1) m10)
noncomputable def fX12_waits (μ : zM) (x0 : Nat) (x1 : Int32) : Option (Int32 × zM) := zgd (zm_ck μ 12 x0) <|
  zb1 (zm_gI μ 12 x0 30) fun v1 =>
  if (v1 + x1) ≤ 99 then (
  zb1 (zf2 (fX12_waits_l15 x1 x0) zfu 0 μ : Option (zM)) fun (m7 : zM) =>
  some (1, m7))
  else (
  some (0, μ))
theorem fX12_waits_ck {μ : zM} {x0 : Nat} {x1 : Int32} {z : Int32 × zM} (h : fX12_waits μ x0 x1 = some z) : zm_ck μ 12 x0 = true := (zgd_s h).1
set_option maxHeartbeats 4000000 in
set_option maxRecDepth 100000 in
theorem cX12_waits_ok {μ : zM} {x0 : Nat} {x1 : Int32} {r : Int32} {mo : zM} (hf : fX12_waits μ x0 x1 = some (r, mo)) : zC yX12_waits cX12_waits 3 (some .boolean) 1 0 0 [.ref x0, .int x1] μ (some (.int r)) mo := by
  replace hf := (zgd_s hf).2
  refine zC.of (by decide) (Nat.le_of_ble_eq_true rfl) (fun K hin => ?_)
  clear hin
  show zz K cX12_waits (3, RX12, some .boolean, 1, 0, 0, some (.int r), mo) 0 0 0 [(0, .ref x0), (1, .int x1)] [] μ
  refine zr_aload_n 0 dX12_waits_0 rfl ?_
  replace hf := zb1_s hf
  obtain ⟨v1, h2, hf⟩ := hf
  refine zr_get (zm_gI_g h2) zk12 (by decide) zl_1092 dX12_waits_1 ?_
  refine zr_iload_n 1 dX12_waits_4 rfl ?_
  refine zr_iadd dX12_waits_5 ?_
  refine zr_bipush 99 dX12_waits_6 (by decide) ?_
  refine zr_icmp_le 13 dX12_waits_8 (by decide) (fun hc => ?_) (fun hc => ?_)
  · rw [if_pos hc] at hf
    refine zr_iconst 0 dX12_waits_13 (by decide) ?_
    refine zr_istore_n [(2, .int 0), (0, .ref x0), (1, .int x1)] dX12_waits_14 (Nat.le_of_ble_eq_true rfl) rfl ?_
    replace hf := zb1_s hf
    obtain ⟨m7, hg, hf⟩ := hf
    have hj8 : zz K cX12_waits (3, RX12, some .boolean, 1, 0, 0, some (.int r), mo) 0 0 32 [] [] m7 := by
      refine zr_iconst 1 dX12_waits_32 (by decide) ?_
      cases hf
      exact zr_zret rfl dX12_waits_33
    clear hf
    have hf := hg
    clear hg
    have hL11 : ∀ (n : Nat) (x2_3 : Int32) (m4 : zM), zf2 (fX12_waits_l15 x1 x0) n x2_3 m4 = some m7 → zz K cX12_waits (3, RX12, some .boolean, 1, 0, 0, some (.int r), mo) 0 0 15 [(0, .ref x0), (1, .int x1), (2, .int x2_3)] [] m4 := by
      intro n
      induction n with
      | zero => intro x2_3 m4 hf; cases hf
      | succ n ih6 =>
        intro x2_3 m4 hf
        replace hf := zf2_s hf
        generalize zf2 (fX12_waits_l15 x1 x0) n = F5 at hf ih6
        unfold fX12_waits_l15 at hf
        refine zr_iload_n 2 dX12_waits_15 rfl ?_
        refine zr_iload_n 1 dX12_waits_16 rfl ?_
        refine zr_icmp_ge 32 dX12_waits_17 (by decide) (fun hc => ?_) (fun hc => ?_)
        · rw [if_pos hc] at hf
          cases hf
          exact zr_lv [] rfl hj8
        · rw [if_neg hc] at hf
          refine zr_aload_n 0 dX12_waits_20 rfl ?_
          refine zr_iconst (-1) dX12_waits_21 (by decide) ?_
          refine zr_iconst 0 dX12_waits_22 (by decide) ?_
          replace hf := zb1_s hf
          obtain ⟨m10, h9, hf⟩ := hf
          refine zr_callV (ci := 12) [.int (-1), .int 0] (cX12_passes_ok h9) zvs_X12_passes zl_1095 zl_1096 (fX12_passes_ck h9) rfl rfl zl_1094 rfl (Nat.le_of_ble_eq_true rfl) (Nat.le_of_ble_eq_true rfl) (Nat.le_of_ble_eq_true rfl) (Nat.le_of_ble_eq_true rfl) dX12_waits_23 rfl ?_
          refine zr_iinc (j := 2) (x2_3 + 1) [(2, .int (x2_3 + 1)), (0, .ref x0), (1, .int x1)] dX12_waits_26 rfl rfl (Nat.le_of_ble_eq_true rfl) rfl ?_
          refine zr_goto 15 dX12_waits_29 (by decide) ?_
          exact zr_lv [1, 2, 0] rfl (ih6 (x2_3 + 1) m10 hf)
    exact zr_lv [1, 2, 0] rfl (hL11 _ 0 μ hf)
  · rw [if_neg hc] at hf
    refine zr_iconst 0 dX12_waits_11 (by decide) ?_
    cases hf
    exact zr_zret rfl dX12_waits_12
theorem dX12_walks_0 : decode cX12_walks 0 = .ok (.aload_n 0, 1) := by decide +kernel
theorem dX12_walks_1 : decode cX12_walks 1 = .ok (.iload_n 2, 1) := by decide +kernel
theorem dX12_walks_2 : decode cX12_walks 2 = .ok (.invokevirtual 304, 3) := by decide +kernel
theorem dX12_walks_5 : decode cX12_walks 5 = .ok (.ifCond .ne 5, 3) := by decide +kernel
theorem dX12_walks_8 : decode cX12_walks 8 = .ok (.iconst 0, 1) := by decide +kernel
theorem dX12_walks_9 : decode cX12_walks 9 = .ok (.ireturn, 1) := by decide +kernel
theorem dX12_walks_10 : decode cX12_walks 10 = .ok (.aload_n 0, 1) := by decide +kernel
theorem dX12_walks_11 : decode cX12_walks 11 = .ok (.getfield 44, 3) := by decide +kernel
theorem dX12_walks_14 : decode cX12_walks 14 = .ok (.bipush 100, 2) := by decide +kernel
theorem dX12_walks_16 : decode cX12_walks 16 = .ok (.iload_n 1, 1) := by decide +kernel
theorem dX12_walks_17 : decode cX12_walks 17 = .ok (.imul, 1) := by decide +kernel
theorem dX12_walks_18 : decode cX12_walks 18 = .ok (.aload_n 0, 1) := by decide +kernel
theorem dX12_walks_19 : decode cX12_walks 19 = .ok (.getfield 332, 3) := by decide +kernel
theorem dX12_walks_22 : decode cX12_walks 22 = .ok (.iadd, 1) := by decide +kernel
theorem dX12_walks_23 : decode cX12_walks 23 = .ok (.iaload, 1) := by decide +kernel
theorem dX12_walks_24 : decode cX12_walks 24 = .ok (.istore_n 3, 1) := by decide +kernel
theorem dX12_walks_25 : decode cX12_walks 25 = .ok (.aload_n 0, 1) := by decide +kernel
theorem dX12_walks_26 : decode cX12_walks 26 = .ok (.getfield 332, 3) := by decide +kernel
theorem dX12_walks_29 : decode cX12_walks 29 = .ok (.iload_n 3, 1) := by decide +kernel
theorem dX12_walks_30 : decode cX12_walks 30 = .ok (.iload_n 2, 1) := by decide +kernel
theorem dX12_walks_31 : decode cX12_walks 31 = .ok (.invokestatic 282, 3) := by decide +kernel
theorem dX12_walks_34 : decode cX12_walks 34 = .ok (.iadd, 1) := by decide +kernel
theorem dX12_walks_35 : decode cX12_walks 35 = .ok (.bipush 99, 2) := by decide +kernel
theorem dX12_walks_37 : decode cX12_walks 37 = .ok (.if_icmp .le 5, 3) := by decide +kernel
theorem dX12_walks_40 : decode cX12_walks 40 = .ok (.iconst 0, 1) := by decide +kernel
theorem dX12_walks_41 : decode cX12_walks 41 = .ok (.ireturn, 1) := by decide +kernel
theorem dX12_walks_42 : decode cX12_walks 42 = .ok (.iload_n 3, 1) := by decide +kernel
theorem dX12_walks_43 : decode cX12_walks 43 = .ok (.iload_n 2, 1) := by decide +kernel
theorem dX12_walks_44 : decode cX12_walks 44 = .ok (.invokestatic 282, 3) := by decide +kernel
theorem dX12_walks_47 : decode cX12_walks 47 = .ok (.istore 4, 2) := by decide +kernel
theorem dX12_walks_49 : decode cX12_walks 49 = .ok (.iload 4, 2) := by decide +kernel
theorem dX12_walks_51 : decode cX12_walks 51 = .ok (.ifCond .le 24, 3) := by decide +kernel
theorem dX12_walks_54 : decode cX12_walks 54 = .ok (.aload_n 0, 1) := by decide +kernel
theorem dX12_walks_55 : decode cX12_walks 55 = .ok (.iload_n 1, 1) := by decide +kernel
theorem dX12_walks_56 : decode cX12_walks 56 = .ok (.iload_n 3, 1) := by decide +kernel
theorem dX12_walks_57 : decode cX12_walks 57 = .ok (.iload_n 2, 1) := by decide +kernel
theorem dX12_walks_58 : decode cX12_walks 58 = .ok (.if_icmp .ge 7, 3) := by decide +kernel
theorem dX12_walks_61 : decode cX12_walks 61 = .ok (.iconst 1, 1) := by decide +kernel
theorem dX12_walks_62 : decode cX12_walks 62 = .ok (.goto 4, 3) := by decide +kernel
theorem dX12_walks_65 : decode cX12_walks 65 = .ok (.iconst (-1), 1) := by decide +kernel
theorem dX12_walks_66 : decode cX12_walks 66 = .ok (.invokevirtual 335, 3) := by decide +kernel
theorem dX12_walks_69 : decode cX12_walks 69 = .ok (.iinc 4 (-1), 3) := by decide +kernel
theorem dX12_walks_72 : decode cX12_walks 72 = .ok (.goto (-23), 3) := by decide +kernel
theorem dX12_walks_75 : decode cX12_walks 75 = .ok (.iconst 1, 1) := by decide +kernel
theorem dX12_walks_76 : decode cX12_walks 76 = .ok (.ireturn, 1) := by decide +kernel
noncomputable def fX12_walks_l49 (x2 : Int32) (v7 : Int32) (x0 : Nat) (x1 : Int32) (F17 : Int32 → zM → Option (zM)) (x4_15 : Int32) (m16 : zM) : Option (zM) :=
  if x4_15 ≤ 0 then (
  some m16)
  else (
  zb1 (if x2 ≤ v7 then (
  some (-1))
  else (
  some 1) : Option (Int32)) fun (s21 : Int32) =>
  zb1 (fX12_passes m16 x0 x1 s21) fun m24 =>
  F17 (x4_15 + (-1)) m24)
noncomputable def fX12_walks (μ : zM) (x0 : Nat) (x1 : Int32) (x2 : Int32) : Option (Int32 × zM) := zgd (zm_ck μ 12 x0) <|
  zb1 (fX12_isPlace μ x0 x2) fun v2 =>
  if v2 = 0 then (
  some (0, μ))
  else (
  zb1 (zm_gR μ 12 x0 27) fun v3 =>
  zb1 (zm_gI μ 12 x0 30) fun v5 =>
  zb1 (zm_aI μ 0 v3 ((100 * x1) + v5)) fun v7 =>
  zb1 (zm_gI μ 12 x0 30) fun v9 =>
  zb1 (fX12_apart μ v7 x2) fun v12 =>
  if (v9 + v12) ≤ 99 then (
  zb1 (fX12_apart μ v7 x2) fun v14 =>
  zb1 (zf2 (fX12_walks_l49 x2 v7 x0 x1) zfu v14 μ : Option (zM)) fun (m19 : zM) =>
  some (1, m19))
  else (
  some (0, μ)))
theorem fX12_walks_ck {μ : zM} {x0 : Nat} {x1 : Int32} {x2 : Int32} {z : Int32 × zM} (h : fX12_walks μ x0 x1 x2 = some z) : zm_ck μ 12 x0 = true := (zgd_s h).1
set_option maxHeartbeats 4000000 in
set_option maxRecDepth 100000 in
theorem cX12_walks_ok {μ : zM} {x0 : Nat} {x1 : Int32} {x2 : Int32} {r : Int32} {mo : zM} (hf : fX12_walks μ x0 x1 x2 = some (r, mo)) : zC yX12_walks cX12_walks 5 (some .boolean) 2 0 0 [.ref x0, .int x1, .int x2] μ (some (.int r)) mo := by
  replace hf := (zgd_s hf).2
  refine zC.of (by decide) (Nat.le_of_ble_eq_true rfl) (fun K hin => ?_)
  clear hin
  show zz K cX12_walks (5, RX12, some .boolean, 2, 0, 0, some (.int r), mo) 0 0 0 [(0, .ref x0), (1, .int x1), (2, .int x2)] [] μ
  refine zr_aload_n 0 dX12_walks_0 rfl ?_
  refine zr_iload_n 2 dX12_walks_1 rfl ?_
  replace hf := zb1_s hf
  obtain ⟨v2, h1, hf⟩ := hf
  refine zr_callV (ci := 12) [.int x2] (cX12_isPlace_ok h1) zvs_X12_isPlace zl_1065 zl_1066 (fX12_isPlace_ck h1) rfl rfl zl_1064 rfl (Nat.le_of_ble_eq_true rfl) (Nat.le_of_ble_eq_true rfl) (Nat.le_of_ble_eq_true rfl) (Nat.le_of_ble_eq_true rfl) dX12_walks_2 rfl ?_
  refine zr_if_ne 10 dX12_walks_5 (by decide) (fun hc => ?_) (fun hc => ?_)
  · rw [if_neg hc] at hf
    refine zr_aload_n 0 dX12_walks_10 rfl ?_
    replace hf := zb1_s hf
    obtain ⟨v3, h4, hf⟩ := hf
    refine zr_get (zm_gR_g h4) zk12 (by decide) zl_875 dX12_walks_11 ?_
    refine zr_bipush 100 dX12_walks_14 (by decide) ?_
    refine zr_iload_n 1 dX12_walks_16 rfl ?_
    refine zr_imul dX12_walks_17 ?_
    refine zr_aload_n 0 dX12_walks_18 rfl ?_
    replace hf := zb1_s hf
    obtain ⟨v5, h6, hf⟩ := hf
    refine zr_get (zm_gI_g h6) zk12 (by decide) zl_1092 dX12_walks_19 ?_
    refine zr_iadd dX12_walks_22 ?_
    replace hf := zb1_s hf
    obtain ⟨v7, h8, hf⟩ := hf
    refine zr_iald h8 dX12_walks_23 ?_
    refine zr_istore_n [(3, .int v7), (0, .ref x0), (1, .int x1), (2, .int x2)] dX12_walks_24 (Nat.le_of_ble_eq_true rfl) rfl ?_
    refine zr_aload_n 1 dX12_walks_25 rfl ?_
    replace hf := zb1_s hf
    obtain ⟨v9, h10, hf⟩ := hf
    refine zr_get (zm_gI_g h10) zk12 (by decide) zl_1092 dX12_walks_26 ?_
    refine zr_iload_n 0 dX12_walks_29 rfl ?_
    refine zr_iload_n 3 dX12_walks_30 rfl ?_
    replace hf := zb1_s hf
    obtain ⟨v12, h11, hf⟩ := hf
    refine zr_callS [.int v7, .int x2] (cX12_apart_ok h11) zvs_X12_apart zl_1039 zl_1038 rfl (Nat.le_of_ble_eq_true rfl) (Nat.le_of_ble_eq_true rfl) (Nat.le_of_ble_eq_true rfl) (Nat.le_of_ble_eq_true rfl) dX12_walks_31 rfl ?_
    refine zr_iadd dX12_walks_34 ?_
    refine zr_bipush 99 dX12_walks_35 (by decide) ?_
    refine zr_icmp_le 42 dX12_walks_37 (by decide) (fun hc => ?_) (fun hc => ?_)
    · rw [if_pos hc] at hf
      refine zr_iload_n 0 dX12_walks_42 rfl ?_
      refine zr_iload_n 3 dX12_walks_43 rfl ?_
      replace hf := zb1_s hf
      obtain ⟨v14, h13, hf⟩ := hf
      refine zr_callS [.int v7, .int x2] (cX12_apart_ok h13) zvs_X12_apart zl_1039 zl_1038 rfl (Nat.le_of_ble_eq_true rfl) (Nat.le_of_ble_eq_true rfl) (Nat.le_of_ble_eq_true rfl) (Nat.le_of_ble_eq_true rfl) dX12_walks_44 rfl ?_
      refine zr_istore [(4, .int v14), (3, .int v7), (0, .ref x0), (1, .int x1), (2, .int x2)] dX12_walks_47 (Nat.le_of_ble_eq_true rfl) rfl ?_
      replace hf := zb1_s hf
      obtain ⟨m19, hg, hf⟩ := hf
      have hj20 : zz K cX12_walks (5, RX12, some .boolean, 2, 0, 0, some (.int r), mo) 0 0 75 [] [] m19 := by
        refine zr_iconst 1 dX12_walks_75 (by decide) ?_
        cases hf
        exact zr_zret rfl dX12_walks_76
      clear hf
      have hf := hg
      clear hg
      have hL25 : ∀ (n : Nat) (x4_15 : Int32) (m16 : zM), zf2 (fX12_walks_l49 x2 v7 x0 x1) n x4_15 m16 = some m19 → zz K cX12_walks (5, RX12, some .boolean, 2, 0, 0, some (.int r), mo) 0 0 49 [(0, .ref x0), (1, .int x1), (2, .int x2), (3, .int v7), (4, .int x4_15)] [] m16 := by
        intro n
        induction n with
        | zero => intro x4_15 m16 hf; cases hf
        | succ n ih18 =>
          intro x4_15 m16 hf
          replace hf := zf2_s hf
          generalize zf2 (fX12_walks_l49 x2 v7 x0 x1) n = F17 at hf ih18
          unfold fX12_walks_l49 at hf
          refine zr_iload 4 dX12_walks_49 rfl ?_
          refine zr_if_le 75 dX12_walks_51 (by decide) (fun hc => ?_) (fun hc => ?_)
          · rw [if_pos hc] at hf
            cases hf
            exact zr_lv [] rfl hj20
          · rw [if_neg hc] at hf
            refine zr_aload_n 0 dX12_walks_54 rfl ?_
            refine zr_iload_n 1 dX12_walks_55 rfl ?_
            refine zr_iload_n 3 dX12_walks_56 rfl ?_
            refine zr_iload_n 2 dX12_walks_57 rfl ?_
            replace hf := zb1_s hf
            obtain ⟨s21, hg, hf⟩ := hf
            have hj22 : zz K cX12_walks (5, RX12, some .boolean, 2, 0, 0, some (.int r), mo) 0 0 66 [(0, .ref x0), (1, .int x1), (2, .int x2), (3, .int v7), (4, .int x4_15)] [.int s21, .int x1, .ref x0] m16 := by
              replace hf := zb1_s hf
              obtain ⟨m24, h23, hf⟩ := hf
              refine zr_callV (ci := 12) [.int x1, .int s21] (cX12_passes_ok h23) zvs_X12_passes zl_1095 zl_1096 (fX12_passes_ck h23) rfl rfl zl_1094 rfl (Nat.le_of_ble_eq_true rfl) (Nat.le_of_ble_eq_true rfl) (Nat.le_of_ble_eq_true rfl) (Nat.le_of_ble_eq_true rfl) dX12_walks_66 rfl ?_
              refine zr_iinc (j := 4) (x4_15 + (-1)) [(4, .int (x4_15 + (-1))), (0, .ref x0), (1, .int x1), (2, .int x2), (3, .int v7)] dX12_walks_69 rfl rfl (Nat.le_of_ble_eq_true rfl) rfl ?_
              refine zr_goto 49 dX12_walks_72 (by decide) ?_
              exact zr_lv [1, 2, 3, 4, 0] rfl (ih18 (x4_15 + (-1)) m24 hf)
            clear hf
            have hf := hg
            clear hg
            refine zr_icmp_ge 65 dX12_walks_58 (by decide) (fun hc => ?_) (fun hc => ?_)
            · rw [if_pos hc] at hf
              refine zr_iconst (-1) dX12_walks_65 (by decide) ?_
              cases hf
              exact zr_lv [0, 1, 2, 3, 4] rfl hj22
            · rw [if_neg hc] at hf
              refine zr_iconst 1 dX12_walks_61 (by decide) ?_
              refine zr_goto 66 dX12_walks_62 (by decide) ?_
              cases hf
              exact zr_lv [0, 1, 2, 3, 4] rfl hj22
      exact zr_lv [2, 3, 4, 1, 0] rfl (hL25 _ v14 μ hf)
    · rw [if_neg hc] at hf
      refine zr_iconst 0 dX12_walks_40 (by decide) ?_
      cases hf
      exact zr_zret rfl dX12_walks_41
  · rw [if_pos hc] at hf
    refine zr_iconst 0 dX12_walks_8 (by decide) ?_
    cases hf
    exact zr_zret rfl dX12_walks_9
theorem zl_1097 : Cond.code yX12_says cX12_says 4 (none) ∈ zt := zt_at 1751 (by decide +kernel)
theorem zvs_X12_says : zvS yX12_says cX12_says 4 (none) 3 := ⟨zl_1097, zl_893, ⟨by decide +kernel, by decide +kernel, by decide +kernel⟩, by decide⟩
theorem zl_1098 : Cond.methodLink RX12 344 yX12_says ∈ zt := zt_at 1748 (by decide +kernel)
theorem zl_1099 : Cond.instanceMethod yX12_says ∈ zt := zt_at 1750 (by decide +kernel)
theorem zl_1100 : Cond.selects RX12 yX12_says yX12_says ∈ zt := zt_at 89 (by decide +kernel)
theorem zl_1101 : Cond.code yX12_walks cX12_walks 5 (some .boolean) ∈ zt := zt_at 1747 (by decide +kernel)
theorem zvs_X12_walks : zvS yX12_walks cX12_walks 5 (some .boolean) 2 := ⟨zl_1101, zl_893, ⟨by decide +kernel, by decide +kernel, by decide +kernel⟩, by decide⟩
theorem zl_1102 : Cond.methodLink RX12 341 yX12_walks ∈ zt := zt_at 1744 (by decide +kernel)
theorem zl_1103 : Cond.instanceMethod yX12_walks ∈ zt := zt_at 1746 (by decide +kernel)
theorem zl_1104 : Cond.selects RX12 yX12_walks yX12_walks ∈ zt := zt_at 88 (by decide +kernel)
theorem zl_1105 : Cond.code yX12_waits cX12_waits 3 (some .boolean) ∈ zt := zt_at 1739 (by decide +kernel)
theorem zvs_X12_waits : zvS yX12_waits cX12_waits 3 (some .boolean) 1 := ⟨zl_1105, zl_893, ⟨by decide +kernel, by decide +kernel, by decide +kernel⟩, by decide⟩
theorem zl_1106 : Cond.methodLink RX12 338 yX12_waits ∈ zt := zt_at 1736 (by decide +kernel)
theorem zl_1107 : Cond.instanceMethod yX12_waits ∈ zt := zt_at 1738 (by decide +kernel)
theorem zl_1108 : Cond.selects RX12 yX12_waits yX12_waits ∈ zt := zt_at 86 (by decide +kernel)
theorem dX12_does_0 : decode cX12_does 0 = .ok (.aload_n 0, 1) := by decide +kernel
theorem dX12_does_1 : decode cX12_does 1 = .ok (.iload_n 1, 1) := by decide +kernel
theorem dX12_does_2 : decode cX12_does 2 = .ok (.iconst 0, 1) := by decide +kernel
theorem dX12_does_3 : decode cX12_does 3 = .ok (.invokevirtual 326, 3) := by decide +kernel
theorem dX12_does_6 : decode cX12_does 6 = .ok (.istore_n 2, 1) := by decide +kernel
theorem dX12_does_7 : decode cX12_does 7 = .ok (.aload_n 0, 1) := by decide +kernel
theorem dX12_does_8 : decode cX12_does 8 = .ok (.iload_n 1, 1) := by decide +kernel
theorem dX12_does_9 : decode cX12_does 9 = .ok (.iconst 1, 1) := by decide +kernel
theorem dX12_does_10 : decode cX12_does 10 = .ok (.invokevirtual 326, 3) := by decide +kernel
theorem dX12_does_13 : decode cX12_does 13 = .ok (.istore_n 3, 1) := by decide +kernel
theorem dX12_does_14 : decode cX12_does 14 = .ok (.iload_n 2, 1) := by decide +kernel
theorem dX12_does_15 : decode cX12_does 15 = .ok (.iconst 4, 1) := by decide +kernel
theorem dX12_does_16 : decode cX12_does 16 = .ok (.if_icmp .ne 9, 3) := by decide +kernel
theorem dX12_does_19 : decode cX12_does 19 = .ok (.aload_n 0, 1) := by decide +kernel
theorem dX12_does_20 : decode cX12_does 20 = .ok (.iload_n 3, 1) := by decide +kernel
theorem dX12_does_21 : decode cX12_does 21 = .ok (.invokevirtual 338, 3) := by decide +kernel
theorem dX12_does_24 : decode cX12_does 24 = .ok (.ireturn, 1) := by decide +kernel
theorem dX12_does_25 : decode cX12_does 25 = .ok (.aload_n 0, 1) := by decide +kernel
theorem dX12_does_26 : decode cX12_does 26 = .ok (.iload_n 3, 1) := by decide +kernel
theorem dX12_does_27 : decode cX12_does 27 = .ok (.invokevirtual 301, 3) := by decide +kernel
theorem dX12_does_30 : decode cX12_does 30 = .ok (.ifCond .ne 5, 3) := by decide +kernel
theorem dX12_does_33 : decode cX12_does 33 = .ok (.iconst 0, 1) := by decide +kernel
theorem dX12_does_34 : decode cX12_does 34 = .ok (.ireturn, 1) := by decide +kernel
theorem dX12_does_35 : decode cX12_does 35 = .ok (.iload_n 2, 1) := by decide +kernel
theorem dX12_does_36 : decode cX12_does 36 = .ok (.iconst 3, 1) := by decide +kernel
theorem dX12_does_37 : decode cX12_does 37 = .ok (.if_icmp .ne 15, 3) := by decide +kernel
theorem dX12_does_40 : decode cX12_does 40 = .ok (.aload_n 0, 1) := by decide +kernel
theorem dX12_does_41 : decode cX12_does 41 = .ok (.iload_n 3, 1) := by decide +kernel
theorem dX12_does_42 : decode cX12_does 42 = .ok (.aload_n 0, 1) := by decide +kernel
theorem dX12_does_43 : decode cX12_does 43 = .ok (.iload_n 1, 1) := by decide +kernel
theorem dX12_does_44 : decode cX12_does 44 = .ok (.iconst 2, 1) := by decide +kernel
theorem dX12_does_45 : decode cX12_does 45 = .ok (.invokevirtual 326, 3) := by decide +kernel
theorem dX12_does_48 : decode cX12_does 48 = .ok (.invokevirtual 341, 3) := by decide +kernel
theorem dX12_does_51 : decode cX12_does 51 = .ok (.ireturn, 1) := by decide +kernel
theorem dX12_does_52 : decode cX12_does 52 = .ok (.aload_n 0, 1) := by decide +kernel
theorem dX12_does_53 : decode cX12_does 53 = .ok (.iload_n 3, 1) := by decide +kernel
theorem dX12_does_54 : decode cX12_does 54 = .ok (.aload_n 0, 1) := by decide +kernel
theorem dX12_does_55 : decode cX12_does 55 = .ok (.iload_n 1, 1) := by decide +kernel
theorem dX12_does_56 : decode cX12_does 56 = .ok (.iconst 2, 1) := by decide +kernel
theorem dX12_does_57 : decode cX12_does 57 = .ok (.invokevirtual 326, 3) := by decide +kernel
theorem dX12_does_60 : decode cX12_does 60 = .ok (.iload_n 2, 1) := by decide +kernel
theorem dX12_does_61 : decode cX12_does 61 = .ok (.invokevirtual 344, 3) := by decide +kernel
theorem dX12_does_64 : decode cX12_does 64 = .ok (.iconst 1, 1) := by decide +kernel
theorem dX12_does_65 : decode cX12_does 65 = .ok (.ireturn, 1) := by decide +kernel
noncomputable def fX12_does (μ : zM) (x0 : Nat) (x1 : Int32) : Option (Int32 × zM) := zgd (zm_ck μ 12 x0) <|
  zb1 (fX12_deedOf μ x0 x1 0) fun v2 =>
  zb1 (fX12_deedOf μ x0 x1 1) fun v4 =>
  if v2 = 4 then (
  zb2 (fX12_waits μ x0 v4) fun v20 m19 =>
  zb1 (zbz v20) fun v21 =>
  some (v21, m19))
  else (
  zb1 (fX12_isPerson μ x0 v4) fun v6 =>
  if v6 = 0 then (
  some (0, μ))
  else (
  if v2 = 3 then (
  zb1 (fX12_deedOf μ x0 x1 2) fun v12 =>
  zb2 (fX12_walks μ x0 v4 v12) fun v15 m14 =>
  zb1 (zbz v15) fun v16 =>
  some (v16, m14))
  else (
  zb1 (fX12_deedOf μ x0 x1 2) fun v8 =>
  zb1 (fX12_says μ x0 v4 v8 v2) fun m10 =>
  some (1, m10))))
theorem fX12_does_ck {μ : zM} {x0 : Nat} {x1 : Int32} {z : Int32 × zM} (h : fX12_does μ x0 x1 = some z) : zm_ck μ 12 x0 = true := (zgd_s h).1
set_option maxHeartbeats 4000000 in
set_option maxRecDepth 100000 in
theorem cX12_does_ok {μ : zM} {x0 : Nat} {x1 : Int32} {r : Int32} {mo : zM} (hf : fX12_does μ x0 x1 = some (r, mo)) : zC yX12_does cX12_does 4 (some .boolean) 3 0 0 [.ref x0, .int x1] μ (some (.int r)) mo := by
  replace hf := (zgd_s hf).2
  refine zC.of (by decide) (Nat.le_of_ble_eq_true rfl) (fun K hin => ?_)
  clear hin
  show zz K cX12_does (4, RX12, some .boolean, 3, 0, 0, some (.int r), mo) 0 0 0 [(0, .ref x0), (1, .int x1)] [] μ
  refine zr_aload_n 0 dX12_does_0 rfl ?_
  refine zr_iload_n 1 dX12_does_1 rfl ?_
  refine zr_iconst 0 dX12_does_2 (by decide) ?_
  replace hf := zb1_s hf
  obtain ⟨v2, h1, hf⟩ := hf
  refine zr_callV (ci := 12) [.int x1, .int 0] (cX12_deedOf_ok h1) zvs_X12_deedOf zl_1089 zl_1090 (fX12_deedOf_ck h1) rfl rfl zl_1088 rfl (Nat.le_of_ble_eq_true rfl) (Nat.le_of_ble_eq_true rfl) (Nat.le_of_ble_eq_true rfl) (Nat.le_of_ble_eq_true rfl) dX12_does_3 rfl ?_
  refine zr_istore_n [(2, .int v2), (0, .ref x0), (1, .int x1)] dX12_does_6 (Nat.le_of_ble_eq_true rfl) rfl ?_
  refine zr_aload_n 1 dX12_does_7 rfl ?_
  refine zr_iload_n 2 dX12_does_8 rfl ?_
  refine zr_iconst 1 dX12_does_9 (by decide) ?_
  replace hf := zb1_s hf
  obtain ⟨v4, h3, hf⟩ := hf
  refine zr_callV (ci := 12) [.int x1, .int 1] (cX12_deedOf_ok h3) zvs_X12_deedOf zl_1089 zl_1090 (fX12_deedOf_ck h3) rfl rfl zl_1088 rfl (Nat.le_of_ble_eq_true rfl) (Nat.le_of_ble_eq_true rfl) (Nat.le_of_ble_eq_true rfl) (Nat.le_of_ble_eq_true rfl) dX12_does_10 rfl ?_
  refine zr_istore_n [(3, .int v4), (2, .int v2), (0, .ref x0), (1, .int x1)] dX12_does_13 (Nat.le_of_ble_eq_true rfl) rfl ?_
  refine zr_iload_n 1 dX12_does_14 rfl ?_
  refine zr_iconst 4 dX12_does_15 (by decide) ?_
  refine zr_icmp_ne 25 dX12_does_16 (by decide) (fun hc => ?_) (fun hc => ?_)
  · rw [if_neg hc] at hf
    refine zr_aload_n 2 dX12_does_25 rfl ?_
    refine zr_iload_n 0 dX12_does_26 rfl ?_
    replace hf := zb1_s hf
    obtain ⟨v6, h5, hf⟩ := hf
    refine zr_callV (ci := 12) [.int v4] (cX12_isPerson_ok h5) zvs_X12_isPerson zl_1061 zl_1062 (fX12_isPerson_ck h5) rfl rfl zl_1060 rfl (Nat.le_of_ble_eq_true rfl) (Nat.le_of_ble_eq_true rfl) (Nat.le_of_ble_eq_true rfl) (Nat.le_of_ble_eq_true rfl) dX12_does_27 rfl ?_
    refine zr_if_ne 35 dX12_does_30 (by decide) (fun hc => ?_) (fun hc => ?_)
    · rw [if_neg hc] at hf
      refine zr_iload_n 1 dX12_does_35 rfl ?_
      refine zr_iconst 3 dX12_does_36 (by decide) ?_
      refine zr_icmp_ne 52 dX12_does_37 (by decide) (fun hc => ?_) (fun hc => ?_)
      · rw [if_neg hc] at hf
        refine zr_aload_n 2 dX12_does_52 rfl ?_
        refine zr_iload_n 0 dX12_does_53 rfl ?_
        refine zr_aload_n 2 dX12_does_54 rfl ?_
        refine zr_iload_n 3 dX12_does_55 rfl ?_
        refine zr_iconst 2 dX12_does_56 (by decide) ?_
        replace hf := zb1_s hf
        obtain ⟨v8, h7, hf⟩ := hf
        refine zr_callV (ci := 12) [.int x1, .int 2] (cX12_deedOf_ok h7) zvs_X12_deedOf zl_1089 zl_1090 (fX12_deedOf_ck h7) rfl rfl zl_1088 rfl (Nat.le_of_ble_eq_true rfl) (Nat.le_of_ble_eq_true rfl) (Nat.le_of_ble_eq_true rfl) (Nat.le_of_ble_eq_true rfl) dX12_does_57 rfl ?_
        refine zr_iload_n 1 dX12_does_60 rfl ?_
        replace hf := zb1_s hf
        obtain ⟨m10, h9, hf⟩ := hf
        refine zr_callV (ci := 12) [.int v4, .int v8, .int v2] (cX12_says_ok h9) zvs_X12_says zl_1099 zl_1100 (fX12_says_ck h9) rfl rfl zl_1098 rfl (Nat.le_of_ble_eq_true rfl) (Nat.le_of_ble_eq_true rfl) (Nat.le_of_ble_eq_true rfl) (Nat.le_of_ble_eq_true rfl) dX12_does_61 rfl ?_
        refine zr_iconst 1 dX12_does_64 (by decide) ?_
        cases hf
        exact zr_zret rfl dX12_does_65
      · rw [if_pos hc] at hf
        refine zr_aload_n 2 dX12_does_40 rfl ?_
        refine zr_iload_n 0 dX12_does_41 rfl ?_
        refine zr_aload_n 2 dX12_does_42 rfl ?_
        refine zr_iload_n 3 dX12_does_43 rfl ?_
        refine zr_iconst 2 dX12_does_44 (by decide) ?_
        replace hf := zb1_s hf
        obtain ⟨v12, h11, hf⟩ := hf
        refine zr_callV (ci := 12) [.int x1, .int 2] (cX12_deedOf_ok h11) zvs_X12_deedOf zl_1089 zl_1090 (fX12_deedOf_ck h11) rfl rfl zl_1088 rfl (Nat.le_of_ble_eq_true rfl) (Nat.le_of_ble_eq_true rfl) (Nat.le_of_ble_eq_true rfl) (Nat.le_of_ble_eq_true rfl) dX12_does_45 rfl ?_
        replace hf := zb2_s hf
        obtain ⟨v15, m14, h13, hf⟩ := hf
        refine zr_callV (ci := 12) [.int v4, .int v12] (cX12_walks_ok h13) zvs_X12_walks zl_1103 zl_1104 (fX12_walks_ck h13) rfl rfl zl_1102 rfl (Nat.le_of_ble_eq_true rfl) (Nat.le_of_ble_eq_true rfl) (Nat.le_of_ble_eq_true rfl) (Nat.le_of_ble_eq_true rfl) dX12_does_48 rfl ?_
        replace hf := zb1_s hf
        obtain ⟨v16, hn17, hf⟩ := hf
        replace hn17 := zbz_s hn17
        obtain ⟨hn17, rfl⟩ := hn17
        cases hf
        exact zr_zret hn17 dX12_does_51
    · rw [if_pos hc] at hf
      refine zr_iconst 0 dX12_does_33 (by decide) ?_
      cases hf
      exact zr_zret rfl dX12_does_34
  · rw [if_pos hc] at hf
    refine zr_aload_n 2 dX12_does_19 rfl ?_
    refine zr_iload_n 0 dX12_does_20 rfl ?_
    replace hf := zb2_s hf
    obtain ⟨v20, m19, h18, hf⟩ := hf
    refine zr_callV (ci := 12) [.int v4] (cX12_waits_ok h18) zvs_X12_waits zl_1107 zl_1108 (fX12_waits_ck h18) rfl rfl zl_1106 rfl (Nat.le_of_ble_eq_true rfl) (Nat.le_of_ble_eq_true rfl) (Nat.le_of_ble_eq_true rfl) (Nat.le_of_ble_eq_true rfl) dX12_does_21 rfl ?_
    replace hf := zb1_s hf
    obtain ⟨v21, hn22, hf⟩ := hf
    replace hn22 := zbz_s hn22
    obtain ⟨hn22, rfl⟩ := hn22
    cases hf
    exact zr_zret hn22 dX12_does_24
theorem zl_1109 : Cond.code yX12_begin cX12_begin 2 (none) ∈ zt := zt_at 1731 (by decide +kernel)
theorem zvs_X12_begin : zvS yX12_begin cX12_begin 2 (none) 0 := ⟨zl_1109, zl_893, ⟨by decide +kernel, by decide +kernel, by decide +kernel⟩, by decide⟩
theorem zl_1110 : Cond.methodLink RX12 347 yX12_begin ∈ zt := zt_at 1728 (by decide +kernel)
theorem zl_1111 : Cond.instanceMethod yX12_begin ∈ zt := zt_at 1730 (by decide +kernel)
theorem zl_1112 : Cond.selects RX12 yX12_begin yX12_begin ∈ zt := zt_at 84 (by decide +kernel)
theorem zl_1113 : Cond.code yX12_does cX12_does 4 (some .boolean) ∈ zt := zt_at 1735 (by decide +kernel)
theorem zvs_X12_does : zvS yX12_does cX12_does 4 (some .boolean) 1 := ⟨zl_1113, zl_893, ⟨by decide +kernel, by decide +kernel, by decide +kernel⟩, by decide⟩
theorem zl_1114 : Cond.methodLink RX12 350 yX12_does ∈ zt := zt_at 1732 (by decide +kernel)
theorem zl_1115 : Cond.instanceMethod yX12_does ∈ zt := zt_at 1734 (by decide +kernel)
theorem zl_1116 : Cond.selects RX12 yX12_does yX12_does ∈ zt := zt_at 85 (by decide +kernel)
theorem dX12_play_0 : decode cX12_play 0 = .ok (.aload_n 0, 1) := by decide +kernel
theorem dX12_play_1 : decode cX12_play 1 = .ok (.invokevirtual 347, 3) := by decide +kernel
theorem dX12_play_4 : decode cX12_play 4 = .ok (.iconst 0, 1) := by decide +kernel
theorem dX12_play_5 : decode cX12_play 5 = .ok (.istore_n 2, 1) := by decide +kernel
theorem dX12_play_6 : decode cX12_play 6 = .ok (.iload_n 2, 1) := by decide +kernel
theorem dX12_play_7 : decode cX12_play 7 = .ok (.iload_n 1, 1) := by decide +kernel
theorem dX12_play_8 : decode cX12_play 8 = .ok (.if_icmp .ge 17, 3) := by decide +kernel
theorem dX12_play_11 : decode cX12_play 11 = .ok (.aload_n 0, 1) := by decide +kernel
theorem dX12_play_12 : decode cX12_play 12 = .ok (.iload_n 2, 1) := by decide +kernel
theorem dX12_play_13 : decode cX12_play 13 = .ok (.invokevirtual 350, 3) := by decide +kernel
theorem dX12_play_16 : decode cX12_play 16 = .ok (.ifCond .eq 9, 3) := by decide +kernel
theorem dX12_play_19 : decode cX12_play 19 = .ok (.iinc 2 1, 3) := by decide +kernel
theorem dX12_play_22 : decode cX12_play 22 = .ok (.goto (-16), 3) := by decide +kernel
theorem dX12_play_25 : decode cX12_play 25 = .ok (.iload_n 2, 1) := by decide +kernel
theorem dX12_play_26 : decode cX12_play 26 = .ok (.ireturn, 1) := by decide +kernel
noncomputable def fX12_play_l6 (x1 : Int32) (x0 : Nat) (F5 : Int32 → zM → Option (Int32 × zM)) (x2_3 : Int32) (m4 : zM) : Option (Int32 × zM) :=
  if x1 ≤ x2_3 then (
  some (x2_3, m4))
  else (
  zb2 (fX12_does m4 x0 x2_3) fun v12 m11 =>
  if v12 = 0 then (
  some (x2_3, m11))
  else (
  F5 (x2_3 + 1) m11))
noncomputable def fX12_play (μ : zM) (x0 : Nat) (x1 : Int32) : Option (Int32 × zM) := zgd (zm_ck μ 12 x0) <|
  zb1 (fX12_begin μ x0) fun m2 =>
  zb2 (zf2 (fX12_play_l6 x1 x0) zfu 0 m2 : Option (Int32 × zM)) fun (x2_7 : Int32) (m8 : zM) =>
  some (x2_7, m8)
theorem fX12_play_ck {μ : zM} {x0 : Nat} {x1 : Int32} {z : Int32 × zM} (h : fX12_play μ x0 x1 = some z) : zm_ck μ 12 x0 = true := (zgd_s h).1
set_option maxHeartbeats 4000000 in
set_option maxRecDepth 100000 in
theorem cX12_play_ok {μ : zM} {x0 : Nat} {x1 : Int32} {r : Int32} {mo : zM} (hf : fX12_play μ x0 x1 = some (r, mo)) : zC yX12_play cX12_play 3 (some .int) 4 0 0 [.ref x0, .int x1] μ (some (.int r)) mo := by
  replace hf := (zgd_s hf).2
  refine zC.of (by decide) (Nat.le_of_ble_eq_true rfl) (fun K hin => ?_)
  clear hin
  show zz K cX12_play (3, RX12, some .int, 4, 0, 0, some (.int r), mo) 0 0 0 [(0, .ref x0), (1, .int x1)] [] μ
  refine zr_aload_n 0 dX12_play_0 rfl ?_
  replace hf := zb1_s hf
  obtain ⟨m2, h1, hf⟩ := hf
  refine zr_callV (ci := 12) [] (cX12_begin_ok h1) zvs_X12_begin zl_1111 zl_1112 (fX12_begin_ck h1) rfl rfl zl_1110 rfl (Nat.le_of_ble_eq_true rfl) (Nat.le_of_ble_eq_true rfl) (Nat.le_of_ble_eq_true rfl) (Nat.le_of_ble_eq_true rfl) dX12_play_1 rfl ?_
  refine zr_iconst 0 dX12_play_4 (by decide) ?_
  refine zr_istore_n [(2, .int 0), (0, .ref x0), (1, .int x1)] dX12_play_5 (Nat.le_of_ble_eq_true rfl) rfl ?_
  replace hf := zb2_s hf
  obtain ⟨x2_7, m8, hg, hf⟩ := hf
  have hj9 : zz K cX12_play (3, RX12, some .int, 4, 0, 0, some (.int r), mo) 0 0 25 [(2, .int x2_7)] [] m8 := by
    refine zr_iload_n 0 dX12_play_25 rfl ?_
    cases hf
    exact zr_iret dX12_play_26
  clear hf
  have hf := hg
  clear hg
  have hL13 : ∀ (n : Nat) (x2_3 : Int32) (m4 : zM), zf2 (fX12_play_l6 x1 x0) n x2_3 m4 = some (x2_7, m8) → zz K cX12_play (3, RX12, some .int, 4, 0, 0, some (.int r), mo) 0 0 6 [(0, .ref x0), (1, .int x1), (2, .int x2_3)] [] m4 := by
    intro n
    induction n with
    | zero => intro x2_3 m4 hf; cases hf
    | succ n ih6 =>
      intro x2_3 m4 hf
      replace hf := zf2_s hf
      generalize zf2 (fX12_play_l6 x1 x0) n = F5 at hf ih6
      unfold fX12_play_l6 at hf
      refine zr_iload_n 2 dX12_play_6 rfl ?_
      refine zr_iload_n 1 dX12_play_7 rfl ?_
      refine zr_icmp_ge 25 dX12_play_8 (by decide) (fun hc => ?_) (fun hc => ?_)
      · rw [if_pos hc] at hf
        cases hf
        exact zr_lv [2] rfl hj9
      · rw [if_neg hc] at hf
        refine zr_aload_n 0 dX12_play_11 rfl ?_
        refine zr_iload_n 2 dX12_play_12 rfl ?_
        replace hf := zb2_s hf
        obtain ⟨v12, m11, h10, hf⟩ := hf
        refine zr_callV (ci := 12) [.int x2_3] (cX12_does_ok h10) zvs_X12_does zl_1115 zl_1116 (fX12_does_ck h10) rfl rfl zl_1114 rfl (Nat.le_of_ble_eq_true rfl) (Nat.le_of_ble_eq_true rfl) (Nat.le_of_ble_eq_true rfl) (Nat.le_of_ble_eq_true rfl) dX12_play_13 rfl ?_
        refine zr_if_eq 25 dX12_play_16 (by decide) (fun hc => ?_) (fun hc => ?_)
        · rw [if_pos hc] at hf
          cases hf
          exact zr_lv [2] rfl hj9
        · rw [if_neg hc] at hf
          refine zr_iinc (j := 2) (x2_3 + 1) [(2, .int (x2_3 + 1)), (0, .ref x0), (1, .int x1)] dX12_play_19 rfl rfl (Nat.le_of_ble_eq_true rfl) rfl ?_
          refine zr_goto 6 dX12_play_22 (by decide) ?_
          exact zr_lv [1, 2, 0] rfl (ih6 (x2_3 + 1) m11 hf)
  exact zr_lv [1, 2, 0] rfl (hL13 _ 0 m2 hf)
theorem dX12_layAll_0 : decode cX12_layAll 0 = .ok (.aload_n 0, 1) := by decide +kernel
theorem dX12_layAll_1 : decode cX12_layAll 1 = .ok (.iload_n 2, 1) := by decide +kernel
theorem dX12_layAll_2 : decode cX12_layAll 2 = .ok (.invokevirtual 320, 3) := by decide +kernel
theorem dX12_layAll_5 : decode cX12_layAll 5 = .ok (.ifCond .eq 15, 3) := by decide +kernel
theorem dX12_layAll_8 : decode cX12_layAll 8 = .ok (.aload_n 0, 1) := by decide +kernel
theorem dX12_layAll_9 : decode cX12_layAll 9 = .ok (.iload_n 1, 1) := by decide +kernel
theorem dX12_layAll_10 : decode cX12_layAll 10 = .ok (.invokevirtual 298, 3) := by decide +kernel
theorem dX12_layAll_13 : decode cX12_layAll 13 = .ok (.ifCond .eq 7, 3) := by decide +kernel
theorem dX12_layAll_16 : decode cX12_layAll 16 = .ok (.iconst 1, 1) := by decide +kernel
theorem dX12_layAll_17 : decode cX12_layAll 17 = .ok (.goto 4, 3) := by decide +kernel
theorem dX12_layAll_20 : decode cX12_layAll 20 = .ok (.iconst 0, 1) := by decide +kernel
theorem dX12_layAll_21 : decode cX12_layAll 21 = .ok (.ireturn, 1) := by decide +kernel
noncomputable def fX12_layAll (μ : zM) (x0 : Nat) (x1 : Int32) (x2 : Int32) : Option (Int32 × zM) := zgd (zm_ck μ 12 x0) <|
  zb2 (fX12_hasDay μ x0 x2) fun v3 m2 =>
  zc2 (if v3 = 0 then (
  some (0, m2))
  else (
  zb2 (fX12_hand m2 x0 x1) fun v11 m10 =>
  if v11 = 0 then (
  some (0, m10))
  else (
  some (1, m10))) : Option (Int32 × zM)) fun (s4 : Int32) (m5 : zM) =>
  zb1 (zbz s4) fun v7 =>
  some (v7, m5)
theorem fX12_layAll_ck {μ : zM} {x0 : Nat} {x1 : Int32} {x2 : Int32} {z : Int32 × zM} (h : fX12_layAll μ x0 x1 x2 = some z) : zm_ck μ 12 x0 = true := (zgd_s h).1
set_option maxHeartbeats 4000000 in
set_option maxRecDepth 100000 in
theorem cX12_layAll_ok {μ : zM} {x0 : Nat} {x1 : Int32} {x2 : Int32} {r : Int32} {mo : zM} (hf : fX12_layAll μ x0 x1 x2 = some (r, mo)) : zC yX12_layAll cX12_layAll 3 (some .boolean) 3 0 0 [.ref x0, .int x1, .int x2] μ (some (.int r)) mo := by
  replace hf := (zgd_s hf).2
  refine zC.of (by decide) (Nat.le_of_ble_eq_true rfl) (fun K hin => ?_)
  clear hin
  show zz K cX12_layAll (3, RX12, some .boolean, 3, 0, 0, some (.int r), mo) 0 0 0 [(0, .ref x0), (1, .int x1), (2, .int x2)] [] μ
  refine zr_aload_n 0 dX12_layAll_0 rfl ?_
  refine zr_iload_n 2 dX12_layAll_1 rfl ?_
  replace hf := zb2_s hf
  obtain ⟨v3, m2, h1, hf⟩ := hf
  refine zr_callV (ci := 12) [.int x2] (cX12_hasDay_ok h1) zvs_X12_hasDay zl_1081 zl_1082 (fX12_hasDay_ck h1) rfl rfl zl_1080 rfl (Nat.le_of_ble_eq_true rfl) (Nat.le_of_ble_eq_true rfl) (Nat.le_of_ble_eq_true rfl) (Nat.le_of_ble_eq_true rfl) dX12_layAll_2 rfl ?_
  replace hf := zc2_s hf
  obtain ⟨s4, m5, hg, hf⟩ := hf
  have hj6 : zz K cX12_layAll (3, RX12, some .boolean, 3, 0, 0, some (.int r), mo) 0 0 21 [] [.int s4] m5 := by
    replace hf := zb1_s hf
    obtain ⟨v7, hn8, hf⟩ := hf
    replace hn8 := zbz_s hn8
    obtain ⟨hn8, rfl⟩ := hn8
    cases hf
    exact zr_zret hn8 dX12_layAll_21
  clear hf
  have hf := hg
  clear hg
  refine zr_if_eq 20 dX12_layAll_5 (by decide) (fun hc => ?_) (fun hc => ?_)
  · rw [if_pos hc] at hf
    refine zr_iconst 0 dX12_layAll_20 (by decide) ?_
    cases hf
    exact zr_lv [] rfl hj6
  · rw [if_neg hc] at hf
    refine zr_aload_n 0 dX12_layAll_8 rfl ?_
    refine zr_iload_n 1 dX12_layAll_9 rfl ?_
    replace hf := zb2_s hf
    obtain ⟨v11, m10, h9, hf⟩ := hf
    refine zr_callV (ci := 12) [.int x1] (cX12_hand_ok h9) zvs_X12_hand zl_1057 zl_1058 (fX12_hand_ck h9) rfl rfl zl_1056 rfl (Nat.le_of_ble_eq_true rfl) (Nat.le_of_ble_eq_true rfl) (Nat.le_of_ble_eq_true rfl) (Nat.le_of_ble_eq_true rfl) dX12_layAll_10 rfl ?_
    refine zr_if_eq 20 dX12_layAll_13 (by decide) (fun hc => ?_) (fun hc => ?_)
    · rw [if_pos hc] at hf
      refine zr_iconst 0 dX12_layAll_20 (by decide) ?_
      cases hf
      exact zr_lv [] rfl hj6
    · rw [if_neg hc] at hf
      refine zr_iconst 1 dX12_layAll_16 (by decide) ?_
      refine zr_goto 21 dX12_layAll_17 (by decide) ?_
      cases hf
      exact zr_lv [] rfl hj6
theorem zl_1117 : Cond.code yX12_layAll cX12_layAll 3 (some .boolean) ∈ zt := zt_at 1723 (by decide +kernel)
theorem zvs_X12_layAll : zvS yX12_layAll cX12_layAll 3 (some .boolean) 2 := ⟨zl_1117, zl_893, ⟨by decide +kernel, by decide +kernel, by decide +kernel⟩, by decide⟩
theorem zl_1118 : Cond.methodLink RX12 353 yX12_layAll ∈ zt := zt_at 1720 (by decide +kernel)
theorem zl_1119 : Cond.instanceMethod yX12_layAll ∈ zt := zt_at 1722 (by decide +kernel)
theorem zl_1120 : Cond.selects RX12 yX12_layAll yX12_layAll ∈ zt := zt_at 82 (by decide +kernel)
theorem zl_1121 : Cond.code yX12_play cX12_play 3 (some .int) ∈ zt := zt_at 1727 (by decide +kernel)
theorem zvs_X12_play : zvS yX12_play cX12_play 3 (some .int) 1 := ⟨zl_1121, zl_893, ⟨by decide +kernel, by decide +kernel, by decide +kernel⟩, by decide⟩
theorem zl_1122 : Cond.methodLink RX12 356 yX12_play ∈ zt := zt_at 1724 (by decide +kernel)
theorem zl_1123 : Cond.instanceMethod yX12_play ∈ zt := zt_at 1726 (by decide +kernel)
theorem zl_1124 : Cond.selects RX12 yX12_play yX12_play ∈ zt := zt_at 83 (by decide +kernel)
theorem dX12_stop_0 : decode cX12_stop 0 = .ok (.aload_n 0, 1) := by decide +kernel
theorem dX12_stop_1 : decode cX12_stop 1 = .ok (.iconst 0, 1) := by decide +kernel
theorem dX12_stop_2 : decode cX12_stop 2 = .ok (.putfield 93, 3) := by decide +kernel
theorem dX12_stop_5 : decode cX12_stop 5 = .ok (.aload_n 0, 1) := by decide +kernel
theorem dX12_stop_6 : decode cX12_stop 6 = .ok (.iload_n 1, 1) := by decide +kernel
theorem dX12_stop_7 : decode cX12_stop 7 = .ok (.iload_n 2, 1) := by decide +kernel
theorem dX12_stop_8 : decode cX12_stop 8 = .ok (.invokevirtual 353, 3) := by decide +kernel
theorem dX12_stop_11 : decode cX12_stop 11 = .ok (.ifCond .eq 14, 3) := by decide +kernel
theorem dX12_stop_14 : decode cX12_stop 14 = .ok (.aload_n 0, 1) := by decide +kernel
theorem dX12_stop_15 : decode cX12_stop 15 = .ok (.aload_n 0, 1) := by decide +kernel
theorem dX12_stop_16 : decode cX12_stop 16 = .ok (.invokevirtual 323, 3) := by decide +kernel
theorem dX12_stop_19 : decode cX12_stop 19 = .ok (.invokevirtual 356, 3) := by decide +kernel
theorem dX12_stop_22 : decode cX12_stop 22 = .ok (.goto 4, 3) := by decide +kernel
theorem dX12_stop_25 : decode cX12_stop 25 = .ok (.iconst (-1), 1) := by decide +kernel
theorem dX12_stop_26 : decode cX12_stop 26 = .ok (.ireturn, 1) := by decide +kernel
noncomputable def fX12_stop (μ : zM) (x0 : Nat) (x1 : Int32) (x2 : Int32) : Option (Int32 × zM) := zgd (zm_ck μ 12 x0) <|
  zb1 (zm_p μ 12 x0 0 (.int 0)) fun m1 =>
  zb2 (fX12_layAll m1 x0 x1 x2) fun v5 m4 =>
  zc2 (if v5 = 0 then (
  some ((-1), m4))
  else (
  zb1 (fX12_deeds m4 x0) fun v10 =>
  zb2 (fX12_play m4 x0 v10) fun v13 m12 =>
  some (v13, m12)) : Option (Int32 × zM)) fun (s6 : Int32) (m7 : zM) =>
  some (s6, m7)
theorem fX12_stop_ck {μ : zM} {x0 : Nat} {x1 : Int32} {x2 : Int32} {z : Int32 × zM} (h : fX12_stop μ x0 x1 x2 = some z) : zm_ck μ 12 x0 = true := (zgd_s h).1
set_option maxHeartbeats 4000000 in
set_option maxRecDepth 100000 in
theorem cX12_stop_ok {μ : zM} {x0 : Nat} {x1 : Int32} {x2 : Int32} {r : Int32} {mo : zM} (hf : fX12_stop μ x0 x1 x2 = some (r, mo)) : zC yX12_stop cX12_stop 3 (some .int) 5 0 0 [.ref x0, .int x1, .int x2] μ (some (.int r)) mo := by
  replace hf := (zgd_s hf).2
  refine zC.of (by decide) (Nat.le_of_ble_eq_true rfl) (fun K hin => ?_)
  clear hin
  show zz K cX12_stop (3, RX12, some .int, 5, 0, 0, some (.int r), mo) 0 0 0 [(0, .ref x0), (1, .int x1), (2, .int x2)] [] μ
  refine zr_aload_n 0 dX12_stop_0 rfl ?_
  refine zr_iconst 0 dX12_stop_1 (by decide) ?_
  replace hf := zb1_s hf
  obtain ⟨m1, h2, hf⟩ := hf
  refine zr_put h2 zk12 (by decide) zl_899 rfl rfl rfl dX12_stop_2 ?_
  refine zr_aload_n 0 dX12_stop_5 rfl ?_
  refine zr_iload_n 1 dX12_stop_6 rfl ?_
  refine zr_iload_n 2 dX12_stop_7 rfl ?_
  replace hf := zb2_s hf
  obtain ⟨v5, m4, h3, hf⟩ := hf
  refine zr_callV (ci := 12) [.int x1, .int x2] (cX12_layAll_ok h3) zvs_X12_layAll zl_1119 zl_1120 (fX12_layAll_ck h3) rfl rfl zl_1118 rfl (Nat.le_of_ble_eq_true rfl) (Nat.le_of_ble_eq_true rfl) (Nat.le_of_ble_eq_true rfl) (Nat.le_of_ble_eq_true rfl) dX12_stop_8 rfl ?_
  replace hf := zc2_s hf
  obtain ⟨s6, m7, hg, hf⟩ := hf
  have hj8 : zz K cX12_stop (3, RX12, some .int, 5, 0, 0, some (.int r), mo) 0 0 26 [] [.int s6] m7 := by
    cases hf
    exact zr_iret dX12_stop_26
  clear hf
  have hf := hg
  clear hg
  refine zr_if_eq 25 dX12_stop_11 (by decide) (fun hc => ?_) (fun hc => ?_)
  · rw [if_pos hc] at hf
    refine zr_iconst (-1) dX12_stop_25 (by decide) ?_
    cases hf
    exact zr_lv [] rfl hj8
  · rw [if_neg hc] at hf
    refine zr_aload_n 0 dX12_stop_14 rfl ?_
    refine zr_aload_n 0 dX12_stop_15 rfl ?_
    replace hf := zb1_s hf
    obtain ⟨v10, h9, hf⟩ := hf
    refine zr_callV (ci := 12) [] (cX12_deeds_ok h9) zvs_X12_deeds zl_1085 zl_1086 (fX12_deeds_ck h9) rfl rfl zl_1084 rfl (Nat.le_of_ble_eq_true rfl) (Nat.le_of_ble_eq_true rfl) (Nat.le_of_ble_eq_true rfl) (Nat.le_of_ble_eq_true rfl) dX12_stop_16 rfl ?_
    replace hf := zb2_s hf
    obtain ⟨v13, m12, h11, hf⟩ := hf
    refine zr_callV (ci := 12) [.int v10] (cX12_play_ok h11) zvs_X12_play zl_1123 zl_1124 (fX12_play_ck h11) rfl rfl zl_1122 rfl (Nat.le_of_ble_eq_true rfl) (Nat.le_of_ble_eq_true rfl) (Nat.le_of_ble_eq_true rfl) (Nat.le_of_ble_eq_true rfl) dX12_stop_19 rfl ?_
    refine zr_goto 26 dX12_stop_22 (by decide) ?_
    cases hf
    exact zr_lv [] rfl hj8
theorem dX12_hears_0 : decode cX12_hears 0 = .ok (.iconst 0, 1) := by decide +kernel
theorem dX12_hears_1 : decode cX12_hears 1 = .ok (.istore 4, 2) := by decide +kernel
theorem dX12_hears_3 : decode cX12_hears 3 = .ok (.aload_n 0, 1) := by decide +kernel
theorem dX12_hears_4 : decode cX12_hears 4 = .ok (.getfield 47, 3) := by decide +kernel
theorem dX12_hears_7 : decode cX12_hears 7 = .ok (.iconst 5, 1) := by decide +kernel
theorem dX12_hears_8 : decode cX12_hears 8 = .ok (.iload_n 3, 1) := by decide +kernel
theorem dX12_hears_9 : decode cX12_hears 9 = .ok (.imul, 1) := by decide +kernel
theorem dX12_hears_10 : decode cX12_hears 10 = .ok (.iconst 3, 1) := by decide +kernel
theorem dX12_hears_11 : decode cX12_hears 11 = .ok (.iadd, 1) := by decide +kernel
theorem dX12_hears_12 : decode cX12_hears 12 = .ok (.iaload, 1) := by decide +kernel
theorem dX12_hears_13 : decode cX12_hears 13 = .ok (.istore 5, 2) := by decide +kernel
theorem dX12_hears_15 : decode cX12_hears 15 = .ok (.aload_n 0, 1) := by decide +kernel
theorem dX12_hears_16 : decode cX12_hears 16 = .ok (.getfield 44, 3) := by decide +kernel
theorem dX12_hears_19 : decode cX12_hears 19 = .ok (.bipush 100, 2) := by decide +kernel
theorem dX12_hears_21 : decode cX12_hears 21 = .ok (.iload_n 1, 1) := by decide +kernel
theorem dX12_hears_22 : decode cX12_hears 22 = .ok (.imul, 1) := by decide +kernel
theorem dX12_hears_23 : decode cX12_hears 23 = .ok (.iload 5, 2) := by decide +kernel
theorem dX12_hears_25 : decode cX12_hears 25 = .ok (.iadd, 1) := by decide +kernel
theorem dX12_hears_26 : decode cX12_hears 26 = .ok (.iaload, 1) := by decide +kernel
theorem dX12_hears_27 : decode cX12_hears 27 = .ok (.istore 6, 2) := by decide +kernel
theorem dX12_hears_29 : decode cX12_hears 29 = .ok (.iconst 0, 1) := by decide +kernel
theorem dX12_hears_30 : decode cX12_hears 30 = .ok (.istore 7, 2) := by decide +kernel
theorem dX12_hears_32 : decode cX12_hears 32 = .ok (.iload 7, 2) := by decide +kernel
theorem dX12_hears_34 : decode cX12_hears 34 = .ok (.iconst 2, 1) := by decide +kernel
theorem dX12_hears_35 : decode cX12_hears 35 = .ok (.if_icmp .gt 139, 3) := by decide +kernel
theorem dX12_hears_38 : decode cX12_hears 38 = .ok (.iload 7, 2) := by decide +kernel
theorem dX12_hears_40 : decode cX12_hears 40 = .ok (.ifCond .ne 21, 3) := by decide +kernel
theorem dX12_hears_43 : decode cX12_hears 43 = .ok (.aload_n 0, 1) := by decide +kernel
theorem dX12_hears_44 : decode cX12_hears 44 = .ok (.getfield 47, 3) := by decide +kernel
theorem dX12_hears_47 : decode cX12_hears 47 = .ok (.iconst 5, 1) := by decide +kernel
theorem dX12_hears_48 : decode cX12_hears 48 = .ok (.iload_n 3, 1) := by decide +kernel
theorem dX12_hears_49 : decode cX12_hears 49 = .ok (.imul, 1) := by decide +kernel
theorem dX12_hears_50 : decode cX12_hears 50 = .ok (.iconst 4, 1) := by decide +kernel
theorem dX12_hears_51 : decode cX12_hears 51 = .ok (.iadd, 1) := by decide +kernel
theorem dX12_hears_52 : decode cX12_hears 52 = .ok (.iaload, 1) := by decide +kernel
theorem dX12_hears_53 : decode cX12_hears 53 = .ok (.iload_n 1, 1) := by decide +kernel
theorem dX12_hears_54 : decode cX12_hears 54 = .ok (.if_icmp .ne 7, 3) := by decide +kernel
theorem dX12_hears_57 : decode cX12_hears 57 = .ok (.iconst 1, 1) := by decide +kernel
theorem dX12_hears_58 : decode cX12_hears 58 = .ok (.goto 4, 3) := by decide +kernel
theorem dX12_hears_61 : decode cX12_hears 61 = .ok (.iconst 0, 1) := by decide +kernel
theorem dX12_hears_62 : decode cX12_hears 62 = .ok (.istore 8, 2) := by decide +kernel
theorem dX12_hears_64 : decode cX12_hears 64 = .ok (.iload 8, 2) := by decide +kernel
theorem dX12_hears_66 : decode cX12_hears 66 = .ok (.ifCond .ne 102, 3) := by decide +kernel
theorem dX12_hears_69 : decode cX12_hears 69 = .ok (.aload_n 0, 1) := by decide +kernel
theorem dX12_hears_70 : decode cX12_hears 70 = .ok (.aload_n 0, 1) := by decide +kernel
theorem dX12_hears_71 : decode cX12_hears 71 = .ok (.getfield 47, 3) := by decide +kernel
theorem dX12_hears_74 : decode cX12_hears 74 = .ok (.iconst 5, 1) := by decide +kernel
theorem dX12_hears_75 : decode cX12_hears 75 = .ok (.iload_n 3, 1) := by decide +kernel
theorem dX12_hears_76 : decode cX12_hears 76 = .ok (.imul, 1) := by decide +kernel
theorem dX12_hears_77 : decode cX12_hears 77 = .ok (.iaload, 1) := by decide +kernel
theorem dX12_hears_78 : decode cX12_hears 78 = .ok (.aload_n 0, 1) := by decide +kernel
theorem dX12_hears_79 : decode cX12_hears 79 = .ok (.getfield 47, 3) := by decide +kernel
theorem dX12_hears_82 : decode cX12_hears 82 = .ok (.iconst 5, 1) := by decide +kernel
theorem dX12_hears_83 : decode cX12_hears 83 = .ok (.iload_n 3, 1) := by decide +kernel
theorem dX12_hears_84 : decode cX12_hears 84 = .ok (.imul, 1) := by decide +kernel
theorem dX12_hears_85 : decode cX12_hears 85 = .ok (.iconst 1, 1) := by decide +kernel
theorem dX12_hears_86 : decode cX12_hears 86 = .ok (.iadd, 1) := by decide +kernel
theorem dX12_hears_87 : decode cX12_hears 87 = .ok (.iaload, 1) := by decide +kernel
theorem dX12_hears_88 : decode cX12_hears 88 = .ok (.aload_n 0, 1) := by decide +kernel
theorem dX12_hears_89 : decode cX12_hears 89 = .ok (.getfield 47, 3) := by decide +kernel
theorem dX12_hears_92 : decode cX12_hears 92 = .ok (.iconst 5, 1) := by decide +kernel
theorem dX12_hears_93 : decode cX12_hears 93 = .ok (.iload_n 3, 1) := by decide +kernel
theorem dX12_hears_94 : decode cX12_hears 94 = .ok (.imul, 1) := by decide +kernel
theorem dX12_hears_95 : decode cX12_hears 95 = .ok (.iconst 2, 1) := by decide +kernel
theorem dX12_hears_96 : decode cX12_hears 96 = .ok (.iadd, 1) := by decide +kernel
theorem dX12_hears_97 : decode cX12_hears 97 = .ok (.iaload, 1) := by decide +kernel
theorem dX12_hears_98 : decode cX12_hears 98 = .ok (.iload 5, 2) := by decide +kernel
theorem dX12_hears_100 : decode cX12_hears 100 = .ok (.iload 6, 2) := by decide +kernel
theorem dX12_hears_102 : decode cX12_hears 102 = .ok (.iload 7, 2) := by decide +kernel
theorem dX12_hears_104 : decode cX12_hears 104 = .ok (.invokevirtual 310, 3) := by decide +kernel
theorem dX12_hears_107 : decode cX12_hears 107 = .ok (.iload_n 2, 1) := by decide +kernel
theorem dX12_hears_108 : decode cX12_hears 108 = .ok (.if_icmp .ne 60, 3) := by decide +kernel
theorem dX12_hears_111 : decode cX12_hears 111 = .ok (.iload 7, 2) := by decide +kernel
theorem dX12_hears_113 : decode cX12_hears 113 = .ok (.ifCond .ne 16, 3) := by decide +kernel
theorem dX12_hears_116 : decode cX12_hears 116 = .ok (.aload_n 0, 1) := by decide +kernel
theorem dX12_hears_117 : decode cX12_hears 117 = .ok (.getfield 47, 3) := by decide +kernel
theorem dX12_hears_120 : decode cX12_hears 120 = .ok (.iconst 5, 1) := by decide +kernel
theorem dX12_hears_121 : decode cX12_hears 121 = .ok (.iload_n 3, 1) := by decide +kernel
theorem dX12_hears_122 : decode cX12_hears 122 = .ok (.imul, 1) := by decide +kernel
theorem dX12_hears_123 : decode cX12_hears 123 = .ok (.iconst 1, 1) := by decide +kernel
theorem dX12_hears_124 : decode cX12_hears 124 = .ok (.iadd, 1) := by decide +kernel
theorem dX12_hears_125 : decode cX12_hears 125 = .ok (.iaload, 1) := by decide +kernel
theorem dX12_hears_126 : decode cX12_hears 126 = .ok (.goto 21, 3) := by decide +kernel
theorem dX12_hears_129 : decode cX12_hears 129 = .ok (.aload_n 0, 1) := by decide +kernel
theorem dX12_hears_130 : decode cX12_hears 130 = .ok (.aload_n 0, 1) := by decide +kernel
theorem dX12_hears_131 : decode cX12_hears 131 = .ok (.getfield 47, 3) := by decide +kernel
theorem dX12_hears_134 : decode cX12_hears 134 = .ok (.iconst 5, 1) := by decide +kernel
theorem dX12_hears_135 : decode cX12_hears 135 = .ok (.iload_n 3, 1) := by decide +kernel
theorem dX12_hears_136 : decode cX12_hears 136 = .ok (.imul, 1) := by decide +kernel
theorem dX12_hears_137 : decode cX12_hears 137 = .ok (.iconst 1, 1) := by decide +kernel
theorem dX12_hears_138 : decode cX12_hears 138 = .ok (.iadd, 1) := by decide +kernel
theorem dX12_hears_139 : decode cX12_hears 139 = .ok (.iaload, 1) := by decide +kernel
theorem dX12_hears_140 : decode cX12_hears 140 = .ok (.iload 5, 2) := by decide +kernel
theorem dX12_hears_142 : decode cX12_hears 142 = .ok (.iload 7, 2) := by decide +kernel
theorem dX12_hears_144 : decode cX12_hears 144 = .ok (.invokevirtual 314, 3) := by decide +kernel
theorem dX12_hears_147 : decode cX12_hears 147 = .ok (.istore 9, 2) := by decide +kernel
theorem dX12_hears_149 : decode cX12_hears 149 = .ok (.iload 4, 2) := by decide +kernel
theorem dX12_hears_151 : decode cX12_hears 151 = .ok (.iconst 1, 1) := by decide +kernel
theorem dX12_hears_152 : decode cX12_hears 152 = .ok (.iload 9, 2) := by decide +kernel
theorem dX12_hears_154 : decode cX12_hears 154 = .ok (.ishl, 1) := by decide +kernel
theorem dX12_hears_155 : decode cX12_hears 155 = .ok (.ior, 1) := by decide +kernel
theorem dX12_hears_156 : decode cX12_hears 156 = .ok (.istore 4, 2) := by decide +kernel
theorem dX12_hears_158 : decode cX12_hears 158 = .ok (.aload_n 0, 1) := by decide +kernel
theorem dX12_hears_159 : decode cX12_hears 159 = .ok (.getfield 53, 3) := by decide +kernel
theorem dX12_hears_162 : decode cX12_hears 162 = .ok (.iload_n 1, 1) := by decide +kernel
theorem dX12_hears_163 : decode cX12_hears 163 = .ok (.dup2, 1) := by decide +kernel
theorem dX12_hears_164 : decode cX12_hears 164 = .ok (.iaload, 1) := by decide +kernel
theorem dX12_hears_165 : decode cX12_hears 165 = .ok (.iconst 1, 1) := by decide +kernel
theorem dX12_hears_166 : decode cX12_hears 166 = .ok (.iadd, 1) := by decide +kernel
theorem dX12_hears_167 : decode cX12_hears 167 = .ok (.iastore, 1) := by decide +kernel
theorem dX12_hears_168 : decode cX12_hears 168 = .ok (.iinc 7 1, 3) := by decide +kernel
theorem dX12_hears_171 : decode cX12_hears 171 = .ok (.goto (-139), 3) := by decide +kernel
theorem dX12_hears_174 : decode cX12_hears 174 = .ok (.iload 4, 2) := by decide +kernel
theorem dX12_hears_176 : decode cX12_hears 176 = .ok (.ireturn, 1) := by decide +kernel
noncomputable def fX12_hears_b61  : Option (Int32) :=
  some 0
noncomputable def fX12_hears_l32 (x0 : Nat) (x3 : Int32) (x1 : Int32) (v3 : Int32) (v7 : Int32) (x2 : Int32) (F12 : Int32 → Int32 → zM → Option (Int32 × zM)) (x4_9 : Int32) (x7_10 : Int32) (m11 : zM) : Option (Int32 × zM) :=
  if 2 < x7_10 then (
  some (x4_9, m11))
  else (
  zb1 (if x7_10 = 0 then (
  zb1 (zm_gR m11 12 x0 28) fun v55 =>
  zb1 (zm_aI m11 0 v55 ((5 * x3) + 4)) fun v57 =>
  if v57 = x1 then (
  some 1)
  else (
  fX12_hears_b61))
  else (
  fX12_hears_b61) : Option (Int32)) fun (s17 : Int32) =>
  zc2 (if s17 = 0 then (
  zb1 (zm_gR m11 12 x0 28) fun v23 =>
  zb1 (zm_aI m11 0 v23 (5 * x3)) fun v25 =>
  zb1 (zm_gR m11 12 x0 28) fun v27 =>
  zb1 (zm_aI m11 0 v27 ((5 * x3) + 1)) fun v29 =>
  zb1 (zm_gR m11 12 x0 28) fun v31 =>
  zb1 (zm_aI m11 0 v31 ((5 * x3) + 2)) fun v33 =>
  zb1 (fX12_comes m11 x0 v25 v29 v33 v3 v7 x7_10) fun v36 =>
  if v36 = x2 then (
  zb1 (if x7_10 = 0 then (
  zb1 (zm_gR m11 12 x0 28) fun v51 =>
  zb1 (zm_aI m11 0 v51 ((5 * x3) + 1)) fun v53 =>
  some v53)
  else (
  zb1 (zm_gR m11 12 x0 28) fun v45 =>
  zb1 (zm_aI m11 0 v45 ((5 * x3) + 1)) fun v47 =>
  zb1 (fX12_given m11 x0 v47 v3 x7_10) fun v50 =>
  some v50) : Option (Int32)) fun (s37 : Int32) =>
  zb1 (zm_gR m11 12 x0 32) fun v39 =>
  zb1 (zm_aI m11 0 v39 x1) fun v41 =>
  zb1 (zm_sI m11 0 v39 x1 (v41 + 1)) fun m43 =>
  some ((x4_9 ||| (1 <<< (s37 &&& 31))), m43))
  else (
  some (x4_9, m11)))
  else (
  some (x4_9, m11)) : Option (Int32 × zM)) fun (x4_20 : Int32) (m21 : zM) =>
  F12 x4_20 (x7_10 + 1) m21)
noncomputable def fX12_hears (μ : zM) (x0 : Nat) (x1 : Int32) (x2 : Int32) (x3 : Int32) : Option (Int32 × zM) := zgd (zm_ck μ 12 x0) <|
  zb1 (zm_gR μ 12 x0 28) fun v1 =>
  zb1 (zm_aI μ 0 v1 ((5 * x3) + 3)) fun v3 =>
  zb1 (zm_gR μ 12 x0 27) fun v5 =>
  zb1 (zm_aI μ 0 v5 ((100 * x1) + v3)) fun v7 =>
  zb2 (zf3 (fX12_hears_l32 x0 x3 x1 v3 v7 x2) zfu 0 0 μ : Option (Int32 × zM)) fun (x4_14 : Int32) (m15 : zM) =>
  some (x4_14, m15)
theorem fX12_hears_ck {μ : zM} {x0 : Nat} {x1 : Int32} {x2 : Int32} {x3 : Int32} {z : Int32 × zM} (h : fX12_hears μ x0 x1 x2 x3 = some z) : zm_ck μ 12 x0 = true := (zgd_s h).1
set_option maxHeartbeats 4000000 in
set_option maxRecDepth 100000 in
theorem cX12_hears_ok {μ : zM} {x0 : Nat} {x1 : Int32} {x2 : Int32} {x3 : Int32} {r : Int32} {mo : zM} (hf : fX12_hears μ x0 x1 x2 x3 = some (r, mo)) : zC yX12_hears cX12_hears 10 (some .int) 4 0 0 [.ref x0, .int x1, .int x2, .int x3] μ (some (.int r)) mo := by
  replace hf := (zgd_s hf).2
  refine zC.of (by decide) (Nat.le_of_ble_eq_true rfl) (fun K hin => ?_)
  clear hin
  show zz K cX12_hears (10, RX12, some .int, 4, 0, 0, some (.int r), mo) 0 0 0 [(0, .ref x0), (1, .int x1), (2, .int x2), (3, .int x3)] [] μ
  refine zr_iconst 0 dX12_hears_0 (by decide) ?_
  refine zr_istore [(4, .int 0), (0, .ref x0), (1, .int x1), (2, .int x2), (3, .int x3)] dX12_hears_1 (Nat.le_of_ble_eq_true rfl) rfl ?_
  refine zr_aload_n 1 dX12_hears_3 rfl ?_
  replace hf := zb1_s hf
  obtain ⟨v1, h2, hf⟩ := hf
  refine zr_get (zm_gR_g h2) zk12 (by decide) zl_876 dX12_hears_4 ?_
  refine zr_iconst 5 dX12_hears_7 (by decide) ?_
  refine zr_iload_n 4 dX12_hears_8 rfl ?_
  refine zr_imul dX12_hears_9 ?_
  refine zr_iconst 3 dX12_hears_10 (by decide) ?_
  refine zr_iadd dX12_hears_11 ?_
  replace hf := zb1_s hf
  obtain ⟨v3, h4, hf⟩ := hf
  refine zr_iald h4 dX12_hears_12 ?_
  refine zr_istore [(5, .int v3), (4, .int 0), (0, .ref x0), (1, .int x1), (2, .int x2), (3, .int x3)] dX12_hears_13 (Nat.le_of_ble_eq_true rfl) rfl ?_
  refine zr_aload_n 2 dX12_hears_15 rfl ?_
  replace hf := zb1_s hf
  obtain ⟨v5, h6, hf⟩ := hf
  refine zr_get (zm_gR_g h6) zk12 (by decide) zl_875 dX12_hears_16 ?_
  refine zr_bipush 100 dX12_hears_19 (by decide) ?_
  refine zr_iload_n 3 dX12_hears_21 rfl ?_
  refine zr_imul dX12_hears_22 ?_
  refine zr_iload 0 dX12_hears_23 rfl ?_
  refine zr_iadd dX12_hears_25 ?_
  replace hf := zb1_s hf
  obtain ⟨v7, h8, hf⟩ := hf
  refine zr_iald h8 dX12_hears_26 ?_
  refine zr_istore [(6, .int v7), (5, .int v3), (4, .int 0), (0, .ref x0), (1, .int x1), (2, .int x2), (3, .int x3)] dX12_hears_27 (Nat.le_of_ble_eq_true rfl) rfl ?_
  refine zr_iconst 0 dX12_hears_29 (by decide) ?_
  refine zr_istore [(7, .int 0), (6, .int v7), (5, .int v3), (4, .int 0), (0, .ref x0), (1, .int x1), (2, .int x2), (3, .int x3)] dX12_hears_30 (Nat.le_of_ble_eq_true rfl) rfl ?_
  replace hf := zb2_s hf
  obtain ⟨x4_14, m15, hg, hf⟩ := hf
  have hj16 : zz K cX12_hears (10, RX12, some .int, 4, 0, 0, some (.int r), mo) 0 0 174 [(4, .int x4_14)] [] m15 := by
    refine zr_iload 0 dX12_hears_174 rfl ?_
    cases hf
    exact zr_iret dX12_hears_176
  clear hf
  have hf := hg
  clear hg
  have hL59 : ∀ (n : Nat) (x4_9 : Int32) (x7_10 : Int32) (m11 : zM), zf3 (fX12_hears_l32 x0 x3 x1 v3 v7 x2) n x4_9 x7_10 m11 = some (x4_14, m15) → zz K cX12_hears (10, RX12, some .int, 4, 0, 0, some (.int r), mo) 0 0 32 [(0, .ref x0), (1, .int x1), (2, .int x2), (3, .int x3), (4, .int x4_9), (5, .int v3), (6, .int v7), (7, .int x7_10)] [] m11 := by
    intro n
    induction n with
    | zero => intro x4_9 x7_10 m11 hf; cases hf
    | succ n ih13 =>
      intro x4_9 x7_10 m11 hf
      replace hf := zf3_s hf
      generalize zf3 (fX12_hears_l32 x0 x3 x1 v3 v7 x2) n = F12 at hf ih13
      unfold fX12_hears_l32 at hf
      refine zr_iload 7 dX12_hears_32 rfl ?_
      refine zr_iconst 2 dX12_hears_34 (by decide) ?_
      refine zr_icmp_gt 174 dX12_hears_35 (by decide) (fun hc => ?_) (fun hc => ?_)
      · rw [if_pos hc] at hf
        cases hf
        exact zr_lv [4] rfl hj16
      · rw [if_neg hc] at hf
        refine zr_iload 7 dX12_hears_38 rfl ?_
        replace hf := zb1_s hf
        obtain ⟨s17, hg, hf⟩ := hf
        have hj18 : zz K cX12_hears (10, RX12, some .int, 4, 0, 0, some (.int r), mo) 0 0 62 [(0, .ref x0), (1, .int x1), (2, .int x2), (3, .int x3), (4, .int x4_9), (5, .int v3), (6, .int v7), (7, .int x7_10)] [.int s17] m11 := by
          refine zr_istore [(8, .int s17), (0, .ref x0), (1, .int x1), (2, .int x2), (3, .int x3), (4, .int x4_9), (5, .int v3), (6, .int v7), (7, .int x7_10)] dX12_hears_62 (Nat.le_of_ble_eq_true rfl) rfl ?_
          refine zr_iload 0 dX12_hears_64 rfl ?_
          replace hf := zc2_s hf
          obtain ⟨x4_20, m21, hg, hf⟩ := hf
          have hj22 : zz K cX12_hears (10, RX12, some .int, 4, 0, 0, some (.int r), mo) 0 0 168 [(0, .ref x0), (1, .int x1), (2, .int x2), (3, .int x3), (4, .int x4_20), (5, .int v3), (6, .int v7), (7, .int x7_10)] [] m21 := by
            refine zr_iinc (j := 7) (x7_10 + 1) [(7, .int (x7_10 + 1)), (0, .ref x0), (1, .int x1), (2, .int x2), (3, .int x3), (4, .int x4_20), (5, .int v3), (6, .int v7)] dX12_hears_168 rfl rfl (Nat.le_of_ble_eq_true rfl) rfl ?_
            refine zr_goto 32 dX12_hears_171 (by decide) ?_
            exact zr_lv [1, 2, 3, 4, 5, 6, 7, 0] rfl (ih13 x4_20 (x7_10 + 1) m21 hf)
          clear hf
          have hf := hg
          clear hg
          refine zr_if_ne 168 dX12_hears_66 (by decide) (fun hc => ?_) (fun hc => ?_)
          · rw [if_neg hc] at hf
            cases hf
            exact zr_lv [1, 2, 3, 4, 5, 6, 7, 8] rfl hj22
          · rw [if_pos hc] at hf
            refine zr_aload_n 1 dX12_hears_69 rfl ?_
            refine zr_aload_n 1 dX12_hears_70 rfl ?_
            replace hf := zb1_s hf
            obtain ⟨v23, h24, hf⟩ := hf
            refine zr_get (zm_gR_g h24) zk12 (by decide) zl_876 dX12_hears_71 ?_
            refine zr_iconst 5 dX12_hears_74 (by decide) ?_
            refine zr_iload_n 4 dX12_hears_75 rfl ?_
            refine zr_imul dX12_hears_76 ?_
            replace hf := zb1_s hf
            obtain ⟨v25, h26, hf⟩ := hf
            refine zr_iald h26 dX12_hears_77 ?_
            refine zr_aload_n 1 dX12_hears_78 rfl ?_
            replace hf := zb1_s hf
            obtain ⟨v27, h28, hf⟩ := hf
            refine zr_get (zm_gR_g h28) zk12 (by decide) zl_876 dX12_hears_79 ?_
            refine zr_iconst 5 dX12_hears_82 (by decide) ?_
            refine zr_iload_n 4 dX12_hears_83 rfl ?_
            refine zr_imul dX12_hears_84 ?_
            refine zr_iconst 1 dX12_hears_85 (by decide) ?_
            refine zr_iadd dX12_hears_86 ?_
            replace hf := zb1_s hf
            obtain ⟨v29, h30, hf⟩ := hf
            refine zr_iald h30 dX12_hears_87 ?_
            refine zr_aload_n 1 dX12_hears_88 rfl ?_
            replace hf := zb1_s hf
            obtain ⟨v31, h32, hf⟩ := hf
            refine zr_get (zm_gR_g h32) zk12 (by decide) zl_876 dX12_hears_89 ?_
            refine zr_iconst 5 dX12_hears_92 (by decide) ?_
            refine zr_iload_n 4 dX12_hears_93 rfl ?_
            refine zr_imul dX12_hears_94 ?_
            refine zr_iconst 2 dX12_hears_95 (by decide) ?_
            refine zr_iadd dX12_hears_96 ?_
            replace hf := zb1_s hf
            obtain ⟨v33, h34, hf⟩ := hf
            refine zr_iald h34 dX12_hears_97 ?_
            refine zr_iload 6 dX12_hears_98 rfl ?_
            refine zr_iload 7 dX12_hears_100 rfl ?_
            refine zr_iload 8 dX12_hears_102 rfl ?_
            replace hf := zb1_s hf
            obtain ⟨v36, h35, hf⟩ := hf
            refine zr_callV (ci := 12) [.int v25, .int v29, .int v33, .int v3, .int v7, .int x7_10] (cX12_comes_ok h35) zvs_X12_comes zl_1072 zl_1073 (fX12_comes_ck h35) rfl rfl zl_1071 rfl (Nat.le_of_ble_eq_true rfl) (Nat.le_of_ble_eq_true rfl) (Nat.le_of_ble_eq_true rfl) (Nat.le_of_ble_eq_true rfl) dX12_hears_104 rfl ?_
            refine zr_iload_n 3 dX12_hears_107 rfl ?_
            refine zr_icmp_ne 168 dX12_hears_108 (by decide) (fun hc => ?_) (fun hc => ?_)
            · rw [if_neg hc] at hf
              cases hf
              exact zr_lv [1, 2, 3, 4, 5, 6, 7, 8] rfl hj22
            · rw [if_pos hc] at hf
              refine zr_iload 8 dX12_hears_111 rfl ?_
              replace hf := zb1_s hf
              obtain ⟨s37, hg, hf⟩ := hf
              have hj38 : zz K cX12_hears (10, RX12, some .int, 4, 0, 0, some (.int r), mo) 0 0 147 [(0, .ref x0), (1, .int x1), (2, .int x2), (3, .int x3), (4, .int x4_9), (5, .int v3), (6, .int v7), (7, .int x7_10)] [.int s37] m11 := by
                refine zr_istore [(9, .int s37), (0, .ref x0), (1, .int x1), (2, .int x2), (3, .int x3), (4, .int x4_9), (5, .int v3), (6, .int v7), (7, .int x7_10)] dX12_hears_147 (Nat.le_of_ble_eq_true rfl) rfl ?_
                refine zr_iload 5 dX12_hears_149 rfl ?_
                refine zr_iconst 1 dX12_hears_151 (by decide) ?_
                refine zr_iload 0 dX12_hears_152 rfl ?_
                refine zr_ishl dX12_hears_154 ?_
                refine zr_ior dX12_hears_155 ?_
                refine zr_istore [(4, .int (x4_9 ||| (1 <<< (s37 &&& 31)))), (9, .int s37), (0, .ref x0), (1, .int x1), (2, .int x2), (3, .int x3), (5, .int v3), (6, .int v7), (7, .int x7_10)] dX12_hears_156 (Nat.le_of_ble_eq_true rfl) rfl ?_
                refine zr_aload_n 2 dX12_hears_158 rfl ?_
                replace hf := zb1_s hf
                obtain ⟨v39, h40, hf⟩ := hf
                refine zr_get (zm_gR_g h40) zk12 (by decide) zl_878 dX12_hears_159 ?_
                refine zr_iload_n 3 dX12_hears_162 rfl ?_
                refine zr_dup2 dX12_hears_163 rfl rfl ?_
                replace hf := zb1_s hf
                obtain ⟨v41, h42, hf⟩ := hf
                refine zr_iald h42 dX12_hears_164 ?_
                refine zr_iconst 1 dX12_hears_165 (by decide) ?_
                refine zr_iadd dX12_hears_166 ?_
                replace hf := zb1_s hf
                obtain ⟨m43, h44, hf⟩ := hf
                refine zr_iast h44 dX12_hears_167 ?_
                cases hf
                exact zr_lv [2, 3, 4, 5, 0, 6, 7, 8] rfl hj22
              clear hf
              have hf := hg
              clear hg
              refine zr_if_ne 129 dX12_hears_113 (by decide) (fun hc => ?_) (fun hc => ?_)
              · rw [if_neg hc] at hf
                refine zr_aload_n 1 dX12_hears_129 rfl ?_
                refine zr_aload_n 1 dX12_hears_130 rfl ?_
                replace hf := zb1_s hf
                obtain ⟨v45, h46, hf⟩ := hf
                refine zr_get (zm_gR_g h46) zk12 (by decide) zl_876 dX12_hears_131 ?_
                refine zr_iconst 5 dX12_hears_134 (by decide) ?_
                refine zr_iload_n 4 dX12_hears_135 rfl ?_
                refine zr_imul dX12_hears_136 ?_
                refine zr_iconst 1 dX12_hears_137 (by decide) ?_
                refine zr_iadd dX12_hears_138 ?_
                replace hf := zb1_s hf
                obtain ⟨v47, h48, hf⟩ := hf
                refine zr_iald h48 dX12_hears_139 ?_
                refine zr_iload 6 dX12_hears_140 rfl ?_
                refine zr_iload 8 dX12_hears_142 rfl ?_
                replace hf := zb1_s hf
                obtain ⟨v50, h49, hf⟩ := hf
                refine zr_callV (ci := 12) [.int v47, .int v3, .int x7_10] (cX12_given_ok h49) zvs_X12_given zl_1076 zl_1077 (fX12_given_ck h49) rfl rfl zl_1075 rfl (Nat.le_of_ble_eq_true rfl) (Nat.le_of_ble_eq_true rfl) (Nat.le_of_ble_eq_true rfl) (Nat.le_of_ble_eq_true rfl) dX12_hears_144 rfl ?_
                cases hf
                exact zr_lv [1, 2, 3, 4, 5, 6, 7, 8] rfl hj38
              · rw [if_pos hc] at hf
                refine zr_aload_n 1 dX12_hears_116 rfl ?_
                replace hf := zb1_s hf
                obtain ⟨v51, h52, hf⟩ := hf
                refine zr_get (zm_gR_g h52) zk12 (by decide) zl_876 dX12_hears_117 ?_
                refine zr_iconst 5 dX12_hears_120 (by decide) ?_
                refine zr_iload_n 4 dX12_hears_121 rfl ?_
                refine zr_imul dX12_hears_122 ?_
                refine zr_iconst 1 dX12_hears_123 (by decide) ?_
                refine zr_iadd dX12_hears_124 ?_
                replace hf := zb1_s hf
                obtain ⟨v53, h54, hf⟩ := hf
                refine zr_iald h54 dX12_hears_125 ?_
                refine zr_goto 147 dX12_hears_126 (by decide) ?_
                cases hf
                exact zr_lv [1, 2, 3, 4, 5, 6, 7, 8] rfl hj38
        clear hf
        have hf := hg
        clear hg
        have hb19 : ∀ (_ : Unit), fX12_hears_b61 = some s17 → zz K cX12_hears (10, RX12, some .int, 4, 0, 0, some (.int r), mo) 0 0 61 [(0, .ref x0), (1, .int x1), (2, .int x2), (3, .int x3), (4, .int x4_9), (5, .int v3), (6, .int v7), (7, .int x7_10)] [] m11 := by
          intro _ hf
          unfold fX12_hears_b61 at hf
          refine zr_iconst 0 dX12_hears_61 (by decide) ?_
          cases hf
          exact zr_lv [0, 1, 2, 3, 4, 5, 6, 7] rfl hj18
        refine zr_if_ne 61 dX12_hears_40 (by decide) (fun hc => ?_) (fun hc => ?_)
        · rw [if_neg hc] at hf
          exact zr_lv [0, 1, 2, 3, 4, 5, 6, 7] rfl (hb19 () hf)
        · rw [if_pos hc] at hf
          refine zr_aload_n 0 dX12_hears_43 rfl ?_
          replace hf := zb1_s hf
          obtain ⟨v55, h56, hf⟩ := hf
          refine zr_get (zm_gR_g h56) zk12 (by decide) zl_876 dX12_hears_44 ?_
          refine zr_iconst 5 dX12_hears_47 (by decide) ?_
          refine zr_iload_n 3 dX12_hears_48 rfl ?_
          refine zr_imul dX12_hears_49 ?_
          refine zr_iconst 4 dX12_hears_50 (by decide) ?_
          refine zr_iadd dX12_hears_51 ?_
          replace hf := zb1_s hf
          obtain ⟨v57, h58, hf⟩ := hf
          refine zr_iald h58 dX12_hears_52 ?_
          refine zr_iload_n 1 dX12_hears_53 rfl ?_
          refine zr_icmp_ne 61 dX12_hears_54 (by decide) (fun hc => ?_) (fun hc => ?_)
          · rw [if_neg hc] at hf
            exact zr_lv [0, 1, 2, 3, 4, 5, 6, 7] rfl (hb19 () hf)
          · rw [if_pos hc] at hf
            refine zr_iconst 1 dX12_hears_57 (by decide) ?_
            refine zr_goto 62 dX12_hears_58 (by decide) ?_
            cases hf
            exact zr_lv [0, 1, 2, 3, 4, 5, 6, 7] rfl hj18
  exact zr_lv [4, 5, 6, 7, 3, 2, 1, 0] rfl (hL59 _ 0 0 μ hf)
