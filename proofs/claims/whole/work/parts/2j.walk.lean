theorem zl_716 : Cond.fieldLink RX11 138 "TwoEchoes$Valley" "people" "I" ∈ zt := zt_at 192 (by decide +kernel)
theorem zl_717 : Cond.code yX0_silentPlaces cX0_silentPlaces 6 (some .int) ∈ zt := zt_at 941 (by decide +kernel)
theorem zvs_X0_silentPlaces : zvS yX0_silentPlaces cX0_silentPlaces 6 (some .int) 4 := ⟨zl_717, zl_31, ⟨by decide +kernel, by decide +kernel, by decide +kernel⟩, by decide⟩
theorem zl_718 : Cond.methodLink RX11 145 yX0_silentPlaces ∈ zt := zt_at 939 (by decide +kernel)
theorem zl_719 : Cond.static yX0_silentPlaces ∈ zt := zt_at 940 (by decide +kernel)
theorem zl_720 : Cond.code yX0_leastSilent cX0_leastSilent 5 (some .int) ∈ zt := zt_at 931 (by decide +kernel)
theorem zvs_X0_leastSilent : zvS yX0_leastSilent cX0_leastSilent 5 (some .int) 4 := ⟨zl_720, zl_31, ⟨by decide +kernel, by decide +kernel, by decide +kernel⟩, by decide⟩
theorem zl_721 : Cond.methodLink RX11 141 yX0_leastSilent ∈ zt := zt_at 929 (by decide +kernel)
theorem zl_722 : Cond.static yX0_leastSilent ∈ zt := zt_at 930 (by decide +kernel)
theorem dX11_hush_0 : decode cX11_hush 0 = .ok (.aload_n 0, 1) := by decide +kernel
theorem dX11_hush_1 : decode cX11_hush 1 = .ok (.iload_n 1, 1) := by decide +kernel
theorem dX11_hush_2 : decode cX11_hush 2 = .ok (.invokevirtual 89, 3) := by decide +kernel
theorem dX11_hush_5 : decode cX11_hush 5 = .ok (.astore 6, 2) := by decide +kernel
theorem dX11_hush_7 : decode cX11_hush 7 = .ok (.aload 6, 2) := by decide +kernel
theorem dX11_hush_9 : decode cX11_hush 9 = .ok (.ifnull 18, 3) := by decide +kernel
theorem dX11_hush_12 : decode cX11_hush 12 = .ok (.iload_n 2, 1) := by decide +kernel
theorem dX11_hush_13 : decode cX11_hush 13 = .ok (.ifCond .lt 14, 3) := by decide +kernel
theorem dX11_hush_16 : decode cX11_hush 16 = .ok (.iload_n 2, 1) := by decide +kernel
theorem dX11_hush_17 : decode cX11_hush 17 = .ok (.iconst 1, 1) := by decide +kernel
theorem dX11_hush_18 : decode cX11_hush 18 = .ok (.aload 6, 2) := by decide +kernel
theorem dX11_hush_20 : decode cX11_hush 20 = .ok (.getfield 138, 3) := by decide +kernel
theorem dX11_hush_23 : decode cX11_hush 23 = .ok (.ishl, 1) := by decide +kernel
theorem dX11_hush_24 : decode cX11_hush 24 = .ok (.if_icmp .lt 6, 3) := by decide +kernel
theorem dX11_hush_27 : decode cX11_hush 27 = .ok (.bipush (-2), 2) := by decide +kernel
theorem dX11_hush_29 : decode cX11_hush 29 = .ok (.ireturn, 1) := by decide +kernel
theorem dX11_hush_30 : decode cX11_hush 30 = .ok (.iload_n 3, 1) := by decide +kernel
theorem dX11_hush_31 : decode cX11_hush 31 = .ok (.invokestatic 106, 3) := by decide +kernel
theorem dX11_hush_34 : decode cX11_hush 34 = .ok (.ifCond .eq 11, 3) := by decide +kernel
theorem dX11_hush_37 : decode cX11_hush 37 = .ok (.iload 4, 2) := by decide +kernel
theorem dX11_hush_39 : decode cX11_hush 39 = .ok (.invokestatic 109, 3) := by decide +kernel
theorem dX11_hush_42 : decode cX11_hush 42 = .ok (.ifCond .ne 6, 3) := by decide +kernel
theorem dX11_hush_45 : decode cX11_hush 45 = .ok (.bipush (-2), 2) := by decide +kernel
theorem dX11_hush_47 : decode cX11_hush 47 = .ok (.ireturn, 1) := by decide +kernel
theorem dX11_hush_48 : decode cX11_hush 48 = .ok (.iload 5, 2) := by decide +kernel
theorem dX11_hush_50 : decode cX11_hush 50 = .ok (.ifCond .eq 15, 3) := by decide +kernel
theorem dX11_hush_53 : decode cX11_hush 53 = .ok (.aload 6, 2) := by decide +kernel
theorem dX11_hush_55 : decode cX11_hush 55 = .ok (.iload_n 2, 1) := by decide +kernel
theorem dX11_hush_56 : decode cX11_hush 56 = .ok (.iload_n 3, 1) := by decide +kernel
theorem dX11_hush_57 : decode cX11_hush 57 = .ok (.iload 4, 2) := by decide +kernel
theorem dX11_hush_59 : decode cX11_hush 59 = .ok (.invokestatic 141, 3) := by decide +kernel
theorem dX11_hush_62 : decode cX11_hush 62 = .ok (.goto 12, 3) := by decide +kernel
theorem dX11_hush_65 : decode cX11_hush 65 = .ok (.aload 6, 2) := by decide +kernel
theorem dX11_hush_67 : decode cX11_hush 67 = .ok (.iload_n 2, 1) := by decide +kernel
theorem dX11_hush_68 : decode cX11_hush 68 = .ok (.iload_n 3, 1) := by decide +kernel
theorem dX11_hush_69 : decode cX11_hush 69 = .ok (.iload 4, 2) := by decide +kernel
theorem dX11_hush_71 : decode cX11_hush 71 = .ok (.invokestatic 145, 3) := by decide +kernel
theorem dX11_hush_74 : decode cX11_hush 74 = .ok (.ireturn, 1) := by decide +kernel
noncomputable def fX11_hush (μ : zM) (x0 : Nat) (x1 : Int32) (x2 : Int32) (x3 : Int32) (x4 : Int32) (x5 : Int32) : Option (Int32) := zgd (zm_ck μ 11 x0) <|
  zb1 (fX11_valleyAt μ x0 x1) fun v2 =>
  zmo v2 (
  some (-2)) fun a3 =>
  if x2 < 0 then (
  some (-2))
  else (
  zb1 (zm_gI μ 9 a3 4) fun v4 =>
  if x2 < (1 <<< (v4 &&& 31)) then (
  zb1 (fX11_isLoud μ x3) fun v7 =>
  if v7 = 0 then (
  some (-2))
  else (
  zb1 (fX11_isMinute μ x4) fun v9 =>
  if v9 = 0 then (
  some (-2))
  else (
  zb1 (if x5 = 0 then (
  zb1 (fX0_silentPlaces μ a3 x2 x3 x4) fun v13 =>
  some v13)
  else (
  zb1 (fX0_leastSilent μ a3 x2 x3 x4) fun v15 =>
  some v15) : Option (Int32)) fun (s10 : Int32) =>
  some s10)))
  else (
  some (-2)))
theorem fX11_hush_ck {μ : zM} {x0 : Nat} {x1 : Int32} {x2 : Int32} {x3 : Int32} {x4 : Int32} {x5 : Int32} {z : Int32} (h : fX11_hush μ x0 x1 x2 x3 x4 x5 = some z) : zm_ck μ 11 x0 = true := (zgd_s h).1
set_option maxHeartbeats 4000000 in
set_option maxRecDepth 100000 in
theorem cX11_hush_ok {μ : zM} {x0 : Nat} {x1 : Int32} {x2 : Int32} {x3 : Int32} {x4 : Int32} {x5 : Int32} {r : Int32} (hf : fX11_hush μ x0 x1 x2 x3 x4 x5 = some r) : zC yX11_hush cX11_hush 7 (some .int) 5 0 0 [.ref x0, .int x1, .int x2, .int x3, .int x4, .int x5] μ (some (.int r)) μ := by
  replace hf := (zgd_s hf).2
  refine zC.of (by decide) (Nat.le_of_ble_eq_true rfl) (fun K hin => ?_)
  clear hin
  show zz K cX11_hush (7, RX11, some .int, 5, 0, 0, some (.int r), μ) 0 0 0 [(0, .ref x0), (1, .int x1), (2, .int x2), (3, .int x3), (4, .int x4), (5, .int x5)] [] μ
  refine zr_aload_n 0 dX11_hush_0 rfl ?_
  refine zr_iload_n 1 dX11_hush_1 rfl ?_
  replace hf := zb1_s hf
  obtain ⟨v2, h1, hf⟩ := hf
  refine zr_callV (ci := 11) [.int x1] (cX11_valleyAt_ok h1) zvs_X11_valleyAt zl_684 zl_685 (fX11_valleyAt_ck h1) rfl rfl zl_683 rfl (Nat.le_of_ble_eq_true rfl) (Nat.le_of_ble_eq_true rfl) (Nat.le_of_ble_eq_true rfl) (Nat.le_of_ble_eq_true rfl) dX11_hush_2 rfl ?_
  refine zr_ostore [(6, va_rf v2), (0, .ref x0), (1, .int x1), (2, .int x2), (3, .int x3), (4, .int x4), (5, .int x5)] dX11_hush_5 (Nat.le_of_ble_eq_true rfl) rfl ?_
  refine zr_oload 0 dX11_hush_7 rfl ?_
  cases v2 with
  | none =>
    replace hf := zmo_n hf
    refine zr_ifnull_n 27 dX11_hush_9 (by decide) ?_
    refine zr_bipush (-2) dX11_hush_27 (by decide) ?_
    cases hf
    exact zr_iret dX11_hush_29
  | some a3 =>
    replace hf := zmo_s hf
    refine zr_ifnull_r dX11_hush_9 ?_
    refine zr_iload_n 3 dX11_hush_12 rfl ?_
    refine zr_if_lt 27 dX11_hush_13 (by decide) (fun hc => ?_) (fun hc => ?_)
    · rw [if_pos hc] at hf
      refine zr_bipush (-2) dX11_hush_27 (by decide) ?_
      cases hf
      exact zr_iret dX11_hush_29
    · rw [if_neg hc] at hf
      refine zr_iload_n 3 dX11_hush_16 rfl ?_
      refine zr_iconst 1 dX11_hush_17 (by decide) ?_
      refine zr_aload 0 dX11_hush_18 rfl ?_
      replace hf := zb1_s hf
      obtain ⟨v4, h5, hf⟩ := hf
      refine zr_get (zm_gI_g h5) zk9 (by decide) zl_716 dX11_hush_20 ?_
      refine zr_ishl dX11_hush_23 ?_
      refine zr_icmp_lt 30 dX11_hush_24 (by decide) (fun hc => ?_) (fun hc => ?_)
      · rw [if_pos hc] at hf
        refine zr_iload_n 4 dX11_hush_30 rfl ?_
        replace hf := zb1_s hf
        obtain ⟨v7, h6, hf⟩ := hf
        refine zr_callS [.int x3] (cX11_isLoud_ok h6) zvs_X11_isLoud zl_694 zl_693 rfl (Nat.le_of_ble_eq_true rfl) (Nat.le_of_ble_eq_true rfl) (Nat.le_of_ble_eq_true rfl) (Nat.le_of_ble_eq_true rfl) dX11_hush_31 rfl ?_
        refine zr_if_eq 45 dX11_hush_34 (by decide) (fun hc => ?_) (fun hc => ?_)
        · rw [if_pos hc] at hf
          refine zr_bipush (-2) dX11_hush_45 (by decide) ?_
          cases hf
          exact zr_iret dX11_hush_47
        · rw [if_neg hc] at hf
          refine zr_iload 5 dX11_hush_37 rfl ?_
          replace hf := zb1_s hf
          obtain ⟨v9, h8, hf⟩ := hf
          refine zr_callS [.int x4] (cX11_isMinute_ok h8) zvs_X11_isMinute zl_120 zl_695 rfl (Nat.le_of_ble_eq_true rfl) (Nat.le_of_ble_eq_true rfl) (Nat.le_of_ble_eq_true rfl) (Nat.le_of_ble_eq_true rfl) dX11_hush_39 rfl ?_
          refine zr_if_ne 48 dX11_hush_42 (by decide) (fun hc => ?_) (fun hc => ?_)
          · rw [if_neg hc] at hf
            refine zr_iload 6 dX11_hush_48 rfl ?_
            replace hf := zb1_s hf
            obtain ⟨s10, hg, hf⟩ := hf
            have hj11 : zz K cX11_hush (7, RX11, some .int, 5, 0, 0, some (.int r), μ) 0 0 74 [] [.int s10] μ := by
              cases hf
              exact zr_iret dX11_hush_74
            clear hf
            have hf := hg
            clear hg
            refine zr_if_eq 65 dX11_hush_50 (by decide) (fun hc => ?_) (fun hc => ?_)
            · rw [if_pos hc] at hf
              refine zr_aload 0 dX11_hush_65 rfl ?_
              refine zr_iload_n 3 dX11_hush_67 rfl ?_
              refine zr_iload_n 4 dX11_hush_68 rfl ?_
              refine zr_iload 5 dX11_hush_69 rfl ?_
              replace hf := zb1_s hf
              obtain ⟨v13, h12, hf⟩ := hf
              refine zr_callS [.ref a3, .int x2, .int x3, .int x4] (cX0_silentPlaces_ok h12) zvs_X0_silentPlaces zl_719 zl_718 rfl (Nat.le_of_ble_eq_true rfl) (Nat.le_of_ble_eq_true rfl) (Nat.le_of_ble_eq_true rfl) (Nat.le_of_ble_eq_true rfl) dX11_hush_71 rfl ?_
              cases hf
              exact zr_lv [] rfl hj11
            · rw [if_neg hc] at hf
              refine zr_aload 0 dX11_hush_53 rfl ?_
              refine zr_iload_n 3 dX11_hush_55 rfl ?_
              refine zr_iload_n 4 dX11_hush_56 rfl ?_
              refine zr_iload 5 dX11_hush_57 rfl ?_
              replace hf := zb1_s hf
              obtain ⟨v15, h14, hf⟩ := hf
              refine zr_callS [.ref a3, .int x2, .int x3, .int x4] (cX0_leastSilent_ok h14) zvs_X0_leastSilent zl_722 zl_721 rfl (Nat.le_of_ble_eq_true rfl) (Nat.le_of_ble_eq_true rfl) (Nat.le_of_ble_eq_true rfl) (Nat.le_of_ble_eq_true rfl) dX11_hush_59 rfl ?_
              refine zr_goto 74 dX11_hush_62 (by decide) ?_
              cases hf
              exact zr_lv [] rfl hj11
          · rw [if_pos hc] at hf
            refine zr_bipush (-2) dX11_hush_45 (by decide) ?_
            cases hf
            exact zr_iret dX11_hush_47
      · rw [if_neg hc] at hf
        refine zr_bipush (-2) dX11_hush_27 (by decide) ?_
        cases hf
        exact zr_iret dX11_hush_29
theorem zl_723 : Cond.code yX0_fullestPlace cX0_fullestPlace 7 (some .int) ∈ zt := zt_at 948 (by decide +kernel)
theorem zvs_X0_fullestPlace : zvS yX0_fullestPlace cX0_fullestPlace 7 (some .int) 3 := ⟨zl_723, zl_31, ⟨by decide +kernel, by decide +kernel, by decide +kernel⟩, by decide⟩
theorem zl_724 : Cond.methodLink RX11 148 yX0_fullestPlace ∈ zt := zt_at 946 (by decide +kernel)
theorem zl_725 : Cond.static yX0_fullestPlace ∈ zt := zt_at 947 (by decide +kernel)
theorem zl_726 : Cond.methodLink RX11 152 yX0_judgedHearers ∈ zt := zt_at 953 (by decide +kernel)
theorem dX11_crowd_0 : decode cX11_crowd 0 = .ok (.aload_n 0, 1) := by decide +kernel
theorem dX11_crowd_1 : decode cX11_crowd 1 = .ok (.iload_n 1, 1) := by decide +kernel
theorem dX11_crowd_2 : decode cX11_crowd 2 = .ok (.invokevirtual 89, 3) := by decide +kernel
theorem dX11_crowd_5 : decode cX11_crowd 5 = .ok (.astore 5, 2) := by decide +kernel
theorem dX11_crowd_7 : decode cX11_crowd 7 = .ok (.aload 5, 2) := by decide +kernel
theorem dX11_crowd_9 : decode cX11_crowd 9 = .ok (.ifnull 17, 3) := by decide +kernel
theorem dX11_crowd_12 : decode cX11_crowd 12 = .ok (.iload_n 2, 1) := by decide +kernel
theorem dX11_crowd_13 : decode cX11_crowd 13 = .ok (.invokestatic 106, 3) := by decide +kernel
theorem dX11_crowd_16 : decode cX11_crowd 16 = .ok (.ifCond .eq 10, 3) := by decide +kernel
theorem dX11_crowd_19 : decode cX11_crowd 19 = .ok (.iload_n 3, 1) := by decide +kernel
theorem dX11_crowd_20 : decode cX11_crowd 20 = .ok (.invokestatic 109, 3) := by decide +kernel
theorem dX11_crowd_23 : decode cX11_crowd 23 = .ok (.ifCond .ne 5, 3) := by decide +kernel
theorem dX11_crowd_26 : decode cX11_crowd 26 = .ok (.iconst (-1), 1) := by decide +kernel
theorem dX11_crowd_27 : decode cX11_crowd 27 = .ok (.ireturn, 1) := by decide +kernel
theorem dX11_crowd_28 : decode cX11_crowd 28 = .ok (.aload 5, 2) := by decide +kernel
theorem dX11_crowd_30 : decode cX11_crowd 30 = .ok (.iload_n 2, 1) := by decide +kernel
theorem dX11_crowd_31 : decode cX11_crowd 31 = .ok (.iload_n 3, 1) := by decide +kernel
theorem dX11_crowd_32 : decode cX11_crowd 32 = .ok (.invokestatic 148, 3) := by decide +kernel
theorem dX11_crowd_35 : decode cX11_crowd 35 = .ok (.istore 6, 2) := by decide +kernel
theorem dX11_crowd_37 : decode cX11_crowd 37 = .ok (.iload 4, 2) := by decide +kernel
theorem dX11_crowd_39 : decode cX11_crowd 39 = .ok (.ifCond .eq 15, 3) := by decide +kernel
theorem dX11_crowd_42 : decode cX11_crowd 42 = .ok (.aload 5, 2) := by decide +kernel
theorem dX11_crowd_44 : decode cX11_crowd 44 = .ok (.iload 6, 2) := by decide +kernel
theorem dX11_crowd_46 : decode cX11_crowd 46 = .ok (.iload_n 2, 1) := by decide +kernel
theorem dX11_crowd_47 : decode cX11_crowd 47 = .ok (.iload_n 3, 1) := by decide +kernel
theorem dX11_crowd_48 : decode cX11_crowd 48 = .ok (.invokestatic 152, 3) := by decide +kernel
theorem dX11_crowd_51 : decode cX11_crowd 51 = .ok (.goto 5, 3) := by decide +kernel
theorem dX11_crowd_54 : decode cX11_crowd 54 = .ok (.iload 6, 2) := by decide +kernel
theorem dX11_crowd_56 : decode cX11_crowd 56 = .ok (.ireturn, 1) := by decide +kernel
noncomputable def fX11_crowd (μ : zM) (x0 : Nat) (x1 : Int32) (x2 : Int32) (x3 : Int32) (x4 : Int32) : Option (Int32) := zgd (zm_ck μ 11 x0) <|
  zb1 (fX11_valleyAt μ x0 x1) fun v2 =>
  zmo v2 (
  some (-1)) fun a3 =>
  zb1 (fX11_isLoud μ x2) fun v5 =>
  if v5 = 0 then (
  some (-1))
  else (
  zb1 (fX11_isMinute μ x3) fun v7 =>
  if v7 = 0 then (
  some (-1))
  else (
  zb1 (fX0_fullestPlace μ a3 x2 x3) fun v9 =>
  zb1 (if x4 = 0 then (
  some v9)
  else (
  zb1 (fX0_judgedHearers μ a3 v9 x2 x3) fun v13 =>
  some v13) : Option (Int32)) fun (s10 : Int32) =>
  some s10))
theorem fX11_crowd_ck {μ : zM} {x0 : Nat} {x1 : Int32} {x2 : Int32} {x3 : Int32} {x4 : Int32} {z : Int32} (h : fX11_crowd μ x0 x1 x2 x3 x4 = some z) : zm_ck μ 11 x0 = true := (zgd_s h).1
set_option maxHeartbeats 4000000 in
set_option maxRecDepth 100000 in
theorem cX11_crowd_ok {μ : zM} {x0 : Nat} {x1 : Int32} {x2 : Int32} {x3 : Int32} {x4 : Int32} {r : Int32} (hf : fX11_crowd μ x0 x1 x2 x3 x4 = some r) : zC yX11_crowd cX11_crowd 7 (some .int) 5 0 0 [.ref x0, .int x1, .int x2, .int x3, .int x4] μ (some (.int r)) μ := by
  replace hf := (zgd_s hf).2
  refine zC.of (by decide) (Nat.le_of_ble_eq_true rfl) (fun K hin => ?_)
  clear hin
  show zz K cX11_crowd (7, RX11, some .int, 5, 0, 0, some (.int r), μ) 0 0 0 [(0, .ref x0), (1, .int x1), (2, .int x2), (3, .int x3), (4, .int x4)] [] μ
  refine zr_aload_n 0 dX11_crowd_0 rfl ?_
  refine zr_iload_n 1 dX11_crowd_1 rfl ?_
  replace hf := zb1_s hf
  obtain ⟨v2, h1, hf⟩ := hf
  refine zr_callV (ci := 11) [.int x1] (cX11_valleyAt_ok h1) zvs_X11_valleyAt zl_684 zl_685 (fX11_valleyAt_ck h1) rfl rfl zl_683 rfl (Nat.le_of_ble_eq_true rfl) (Nat.le_of_ble_eq_true rfl) (Nat.le_of_ble_eq_true rfl) (Nat.le_of_ble_eq_true rfl) dX11_crowd_2 rfl ?_
  refine zr_ostore [(5, va_rf v2), (0, .ref x0), (1, .int x1), (2, .int x2), (3, .int x3), (4, .int x4)] dX11_crowd_5 (Nat.le_of_ble_eq_true rfl) rfl ?_
  refine zr_oload 0 dX11_crowd_7 rfl ?_
  cases v2 with
  | none =>
    replace hf := zmo_n hf
    refine zr_ifnull_n 26 dX11_crowd_9 (by decide) ?_
    refine zr_iconst (-1) dX11_crowd_26 (by decide) ?_
    cases hf
    exact zr_iret dX11_crowd_27
  | some a3 =>
    replace hf := zmo_s hf
    refine zr_ifnull_r dX11_crowd_9 ?_
    refine zr_iload_n 3 dX11_crowd_12 rfl ?_
    replace hf := zb1_s hf
    obtain ⟨v5, h4, hf⟩ := hf
    refine zr_callS [.int x2] (cX11_isLoud_ok h4) zvs_X11_isLoud zl_694 zl_693 rfl (Nat.le_of_ble_eq_true rfl) (Nat.le_of_ble_eq_true rfl) (Nat.le_of_ble_eq_true rfl) (Nat.le_of_ble_eq_true rfl) dX11_crowd_13 rfl ?_
    refine zr_if_eq 26 dX11_crowd_16 (by decide) (fun hc => ?_) (fun hc => ?_)
    · rw [if_pos hc] at hf
      refine zr_iconst (-1) dX11_crowd_26 (by decide) ?_
      cases hf
      exact zr_iret dX11_crowd_27
    · rw [if_neg hc] at hf
      refine zr_iload_n 4 dX11_crowd_19 rfl ?_
      replace hf := zb1_s hf
      obtain ⟨v7, h6, hf⟩ := hf
      refine zr_callS [.int x3] (cX11_isMinute_ok h6) zvs_X11_isMinute zl_120 zl_695 rfl (Nat.le_of_ble_eq_true rfl) (Nat.le_of_ble_eq_true rfl) (Nat.le_of_ble_eq_true rfl) (Nat.le_of_ble_eq_true rfl) dX11_crowd_20 rfl ?_
      refine zr_if_ne 28 dX11_crowd_23 (by decide) (fun hc => ?_) (fun hc => ?_)
      · rw [if_neg hc] at hf
        refine zr_aload 0 dX11_crowd_28 rfl ?_
        refine zr_iload_n 3 dX11_crowd_30 rfl ?_
        refine zr_iload_n 4 dX11_crowd_31 rfl ?_
        replace hf := zb1_s hf
        obtain ⟨v9, h8, hf⟩ := hf
        refine zr_callS [.ref a3, .int x2, .int x3] (cX0_fullestPlace_ok h8) zvs_X0_fullestPlace zl_725 zl_724 rfl (Nat.le_of_ble_eq_true rfl) (Nat.le_of_ble_eq_true rfl) (Nat.le_of_ble_eq_true rfl) (Nat.le_of_ble_eq_true rfl) dX11_crowd_32 rfl ?_
        refine zr_istore [(6, .int v9), (5, .ref a3), (0, .ref x0), (1, .int x1), (2, .int x2), (3, .int x3), (4, .int x4)] dX11_crowd_35 (Nat.le_of_ble_eq_true rfl) rfl ?_
        refine zr_iload 6 dX11_crowd_37 rfl ?_
        replace hf := zb1_s hf
        obtain ⟨s10, hg, hf⟩ := hf
        have hj11 : zz K cX11_crowd (7, RX11, some .int, 5, 0, 0, some (.int r), μ) 0 0 56 [] [.int s10] μ := by
          cases hf
          exact zr_iret dX11_crowd_56
        clear hf
        have hf := hg
        clear hg
        refine zr_if_eq 54 dX11_crowd_39 (by decide) (fun hc => ?_) (fun hc => ?_)
        · rw [if_pos hc] at hf
          refine zr_iload 0 dX11_crowd_54 rfl ?_
          cases hf
          exact zr_lv [] rfl hj11
        · rw [if_neg hc] at hf
          refine zr_aload 1 dX11_crowd_42 rfl ?_
          refine zr_iload 0 dX11_crowd_44 rfl ?_
          refine zr_iload_n 4 dX11_crowd_46 rfl ?_
          refine zr_iload_n 5 dX11_crowd_47 rfl ?_
          replace hf := zb1_s hf
          obtain ⟨v13, h12, hf⟩ := hf
          refine zr_callS [.ref a3, .int v9, .int x2, .int x3] (cX0_judgedHearers_ok h12) zvs_X0_judgedHearers zl_40 zl_726 rfl (Nat.le_of_ble_eq_true rfl) (Nat.le_of_ble_eq_true rfl) (Nat.le_of_ble_eq_true rfl) (Nat.le_of_ble_eq_true rfl) dX11_crowd_48 rfl ?_
          refine zr_goto 56 dX11_crowd_51 (by decide) ?_
          cases hf
          exact zr_lv [] rfl hj11
      · rw [if_pos hc] at hf
        refine zr_iconst (-1) dX11_crowd_26 (by decide) ?_
        cases hf
        exact zr_iret dX11_crowd_27
theorem zl_727 : Cond.methodLink RX11 155 yX10_sayingsUntil ∈ zt := zt_at 958 (by decide +kernel)
theorem dX11_chain_0 : decode cX11_chain 0 = .ok (.aload_n 0, 1) := by decide +kernel
theorem dX11_chain_1 : decode cX11_chain 1 = .ok (.iload_n 1, 1) := by decide +kernel
theorem dX11_chain_2 : decode cX11_chain 2 = .ok (.invokevirtual 89, 3) := by decide +kernel
theorem dX11_chain_5 : decode cX11_chain 5 = .ok (.astore 4, 2) := by decide +kernel
theorem dX11_chain_7 : decode cX11_chain 7 = .ok (.aload 4, 2) := by decide +kernel
theorem dX11_chain_9 : decode cX11_chain 9 = .ok (.ifnull 17, 3) := by decide +kernel
theorem dX11_chain_12 : decode cX11_chain 12 = .ok (.iload_n 2, 1) := by decide +kernel
theorem dX11_chain_13 : decode cX11_chain 13 = .ok (.invokestatic 103, 3) := by decide +kernel
theorem dX11_chain_16 : decode cX11_chain 16 = .ok (.ifCond .eq 10, 3) := by decide +kernel
theorem dX11_chain_19 : decode cX11_chain 19 = .ok (.iload_n 3, 1) := by decide +kernel
theorem dX11_chain_20 : decode cX11_chain 20 = .ok (.invokestatic 103, 3) := by decide +kernel
theorem dX11_chain_23 : decode cX11_chain 23 = .ok (.ifCond .ne 5, 3) := by decide +kernel
theorem dX11_chain_26 : decode cX11_chain 26 = .ok (.iconst (-1), 1) := by decide +kernel
theorem dX11_chain_27 : decode cX11_chain 27 = .ok (.ireturn, 1) := by decide +kernel
theorem dX11_chain_28 : decode cX11_chain 28 = .ok (.aload 4, 2) := by decide +kernel
theorem dX11_chain_30 : decode cX11_chain 30 = .ok (.iload_n 2, 1) := by decide +kernel
theorem dX11_chain_31 : decode cX11_chain 31 = .ok (.iload_n 3, 1) := by decide +kernel
theorem dX11_chain_32 : decode cX11_chain 32 = .ok (.invokestatic 155, 3) := by decide +kernel
theorem dX11_chain_35 : decode cX11_chain 35 = .ok (.ireturn, 1) := by decide +kernel
noncomputable def fX11_chain (μ : zM) (x0 : Nat) (x1 : Int32) (x2 : Int32) (x3 : Int32) : Option (Int32) := zgd (zm_ck μ 11 x0) <|
  zb1 (fX11_valleyAt μ x0 x1) fun v2 =>
  zmo v2 (
  some (-1)) fun a3 =>
  zb1 (fX11_isWord μ x2) fun v5 =>
  if v5 = 0 then (
  some (-1))
  else (
  zb1 (fX11_isWord μ x3) fun v7 =>
  if v7 = 0 then (
  some (-1))
  else (
  zb1 (fX10_sayingsUntil μ a3 x2 x3) fun v9 =>
  some v9))
theorem fX11_chain_ck {μ : zM} {x0 : Nat} {x1 : Int32} {x2 : Int32} {x3 : Int32} {z : Int32} (h : fX11_chain μ x0 x1 x2 x3 = some z) : zm_ck μ 11 x0 = true := (zgd_s h).1
set_option maxHeartbeats 4000000 in
set_option maxRecDepth 100000 in
theorem cX11_chain_ok {μ : zM} {x0 : Nat} {x1 : Int32} {x2 : Int32} {x3 : Int32} {r : Int32} (hf : fX11_chain μ x0 x1 x2 x3 = some r) : zC yX11_chain cX11_chain 5 (some .int) 1 0 0 [.ref x0, .int x1, .int x2, .int x3] μ (some (.int r)) μ := by
  replace hf := (zgd_s hf).2
  refine zC.of (by decide) (Nat.le_of_ble_eq_true rfl) (fun K hin => ?_)
  clear hin
  show zz K cX11_chain (5, RX11, some .int, 1, 0, 0, some (.int r), μ) 0 0 0 [(0, .ref x0), (1, .int x1), (2, .int x2), (3, .int x3)] [] μ
  refine zr_aload_n 0 dX11_chain_0 rfl ?_
  refine zr_iload_n 1 dX11_chain_1 rfl ?_
  replace hf := zb1_s hf
  obtain ⟨v2, h1, hf⟩ := hf
  refine zr_callV (ci := 11) [.int x1] (cX11_valleyAt_ok h1) zvs_X11_valleyAt zl_684 zl_685 (fX11_valleyAt_ck h1) rfl rfl zl_683 rfl (Nat.le_of_ble_eq_true rfl) (Nat.le_of_ble_eq_true rfl) (Nat.le_of_ble_eq_true rfl) (Nat.le_of_ble_eq_true rfl) dX11_chain_2 rfl ?_
  refine zr_ostore [(4, va_rf v2), (0, .ref x0), (1, .int x1), (2, .int x2), (3, .int x3)] dX11_chain_5 (Nat.le_of_ble_eq_true rfl) rfl ?_
  refine zr_oload 0 dX11_chain_7 rfl ?_
  cases v2 with
  | none =>
    replace hf := zmo_n hf
    refine zr_ifnull_n 26 dX11_chain_9 (by decide) ?_
    refine zr_iconst (-1) dX11_chain_26 (by decide) ?_
    cases hf
    exact zr_iret dX11_chain_27
  | some a3 =>
    replace hf := zmo_s hf
    refine zr_ifnull_r dX11_chain_9 ?_
    refine zr_iload_n 3 dX11_chain_12 rfl ?_
    replace hf := zb1_s hf
    obtain ⟨v5, h4, hf⟩ := hf
    refine zr_callS [.int x2] (cX11_isWord_ok h4) zvs_X11_isWord zl_374 zl_691 rfl (Nat.le_of_ble_eq_true rfl) (Nat.le_of_ble_eq_true rfl) (Nat.le_of_ble_eq_true rfl) (Nat.le_of_ble_eq_true rfl) dX11_chain_13 rfl ?_
    refine zr_if_eq 26 dX11_chain_16 (by decide) (fun hc => ?_) (fun hc => ?_)
    · rw [if_pos hc] at hf
      refine zr_iconst (-1) dX11_chain_26 (by decide) ?_
      cases hf
      exact zr_iret dX11_chain_27
    · rw [if_neg hc] at hf
      refine zr_iload_n 4 dX11_chain_19 rfl ?_
      replace hf := zb1_s hf
      obtain ⟨v7, h6, hf⟩ := hf
      refine zr_callS [.int x3] (cX11_isWord_ok h6) zvs_X11_isWord zl_374 zl_691 rfl (Nat.le_of_ble_eq_true rfl) (Nat.le_of_ble_eq_true rfl) (Nat.le_of_ble_eq_true rfl) (Nat.le_of_ble_eq_true rfl) dX11_chain_20 rfl ?_
      refine zr_if_ne 28 dX11_chain_23 (by decide) (fun hc => ?_) (fun hc => ?_)
      · rw [if_neg hc] at hf
        refine zr_aload 0 dX11_chain_28 rfl ?_
        refine zr_iload_n 3 dX11_chain_30 rfl ?_
        refine zr_iload_n 4 dX11_chain_31 rfl ?_
        replace hf := zb1_s hf
        obtain ⟨v9, h8, hf⟩ := hf
        refine zr_callS [.ref a3, .int x2, .int x3] (cX10_sayingsUntil_ok h8) zvs_X10_sayingsUntil zl_598 zl_727 rfl (Nat.le_of_ble_eq_true rfl) (Nat.le_of_ble_eq_true rfl) (Nat.le_of_ble_eq_true rfl) (Nat.le_of_ble_eq_true rfl) dX11_chain_32 rfl ?_
        cases hf
        exact zr_iret dX11_chain_35
      · rw [if_pos hc] at hf
        refine zr_iconst (-1) dX11_chain_26 (by decide) ?_
        cases hf
        exact zr_iret dX11_chain_27
theorem zl_728 : Cond.methodLink RX11 160 yX9_way ∈ zt := zt_at 965 (by decide +kernel)
theorem zl_729 : Cond.fieldLink RX11 163 "TwoEchoes$Valley" "thought" "[I" ∈ zt := zt_at 183 (by decide +kernel)
theorem dX11_late_0 : decode cX11_late 0 = .ok (.aload_n 0, 1) := by decide +kernel
theorem dX11_late_1 : decode cX11_late 1 = .ok (.iload_n 1, 1) := by decide +kernel
theorem dX11_late_2 : decode cX11_late 2 = .ok (.invokevirtual 89, 3) := by decide +kernel
theorem dX11_late_5 : decode cX11_late 5 = .ok (.astore 4, 2) := by decide +kernel
theorem dX11_late_7 : decode cX11_late 7 = .ok (.aload 4, 2) := by decide +kernel
theorem dX11_late_9 : decode cX11_late 9 = .ok (.ifnull 19, 3) := by decide +kernel
theorem dX11_late_12 : decode cX11_late 12 = .ok (.aload 4, 2) := by decide +kernel
theorem dX11_late_14 : decode cX11_late 14 = .ok (.iload_n 2, 1) := by decide +kernel
theorem dX11_late_15 : decode cX11_late 15 = .ok (.invokevirtual 99, 3) := by decide +kernel
theorem dX11_late_18 : decode cX11_late 18 = .ok (.ifCond .eq 10, 3) := by decide +kernel
theorem dX11_late_21 : decode cX11_late 21 = .ok (.iload_n 3, 1) := by decide +kernel
theorem dX11_late_22 : decode cX11_late 22 = .ok (.invokestatic 103, 3) := by decide +kernel
theorem dX11_late_25 : decode cX11_late 25 = .ok (.ifCond .ne 5, 3) := by decide +kernel
theorem dX11_late_28 : decode cX11_late 28 = .ok (.iconst (-1), 1) := by decide +kernel
theorem dX11_late_29 : decode cX11_late 29 = .ok (.ireturn, 1) := by decide +kernel
theorem dX11_late_30 : decode cX11_late 30 = .ok (.aload 4, 2) := by decide +kernel
theorem dX11_late_32 : decode cX11_late 32 = .ok (.iload_n 2, 1) := by decide +kernel
theorem dX11_late_33 : decode cX11_late 33 = .ok (.iload_n 2, 1) := by decide +kernel
theorem dX11_late_34 : decode cX11_late 34 = .ok (.iconst 2, 1) := by decide +kernel
theorem dX11_late_35 : decode cX11_late 35 = .ok (.invokevirtual 160, 3) := by decide +kernel
theorem dX11_late_38 : decode cX11_late 38 = .ok (.aload 4, 2) := by decide +kernel
theorem dX11_late_40 : decode cX11_late 40 = .ok (.getfield 163, 3) := by decide +kernel
theorem dX11_late_43 : decode cX11_late 43 = .ok (.iload_n 3, 1) := by decide +kernel
theorem dX11_late_44 : decode cX11_late 44 = .ok (.iaload, 1) := by decide +kernel
theorem dX11_late_45 : decode cX11_late 45 = .ok (.iadd, 1) := by decide +kernel
theorem dX11_late_46 : decode cX11_late 46 = .ok (.ireturn, 1) := by decide +kernel
noncomputable def fX11_late (μ : zM) (x0 : Nat) (x1 : Int32) (x2 : Int32) (x3 : Int32) : Option (Int32) := zgd (zm_ck μ 11 x0) <|
  zb1 (fX11_valleyAt μ x0 x1) fun v2 =>
  zmo v2 (
  some (-1)) fun a3 =>
  zb1 (fX9_hasPlace μ a3 x2) fun v5 =>
  if v5 = 0 then (
  some (-1))
  else (
  zb1 (fX11_isWord μ x3) fun v7 =>
  if v7 = 0 then (
  some (-1))
  else (
  zb1 (fX9_way μ a3 x2 x2 2) fun v9 =>
  zb1 (zm_gR μ 9 a3 2) fun v10 =>
  zb1 (zm_aI μ 0 v10 x3) fun v12 =>
  some (v9 + v12)))
theorem fX11_late_ck {μ : zM} {x0 : Nat} {x1 : Int32} {x2 : Int32} {x3 : Int32} {z : Int32} (h : fX11_late μ x0 x1 x2 x3 = some z) : zm_ck μ 11 x0 = true := (zgd_s h).1
set_option maxHeartbeats 4000000 in
set_option maxRecDepth 100000 in
theorem cX11_late_ok {μ : zM} {x0 : Nat} {x1 : Int32} {x2 : Int32} {x3 : Int32} {r : Int32} (hf : fX11_late μ x0 x1 x2 x3 = some r) : zC yX11_late cX11_late 5 (some .int) 2 0 0 [.ref x0, .int x1, .int x2, .int x3] μ (some (.int r)) μ := by
  replace hf := (zgd_s hf).2
  refine zC.of (by decide) (Nat.le_of_ble_eq_true rfl) (fun K hin => ?_)
  clear hin
  show zz K cX11_late (5, RX11, some .int, 2, 0, 0, some (.int r), μ) 0 0 0 [(0, .ref x0), (1, .int x1), (2, .int x2), (3, .int x3)] [] μ
  refine zr_aload_n 0 dX11_late_0 rfl ?_
  refine zr_iload_n 1 dX11_late_1 rfl ?_
  replace hf := zb1_s hf
  obtain ⟨v2, h1, hf⟩ := hf
  refine zr_callV (ci := 11) [.int x1] (cX11_valleyAt_ok h1) zvs_X11_valleyAt zl_684 zl_685 (fX11_valleyAt_ck h1) rfl rfl zl_683 rfl (Nat.le_of_ble_eq_true rfl) (Nat.le_of_ble_eq_true rfl) (Nat.le_of_ble_eq_true rfl) (Nat.le_of_ble_eq_true rfl) dX11_late_2 rfl ?_
  refine zr_ostore [(4, va_rf v2), (0, .ref x0), (1, .int x1), (2, .int x2), (3, .int x3)] dX11_late_5 (Nat.le_of_ble_eq_true rfl) rfl ?_
  refine zr_oload 0 dX11_late_7 rfl ?_
  cases v2 with
  | none =>
    replace hf := zmo_n hf
    refine zr_ifnull_n 28 dX11_late_9 (by decide) ?_
    refine zr_iconst (-1) dX11_late_28 (by decide) ?_
    cases hf
    exact zr_iret dX11_late_29
  | some a3 =>
    replace hf := zmo_s hf
    refine zr_ifnull_r dX11_late_9 ?_
    refine zr_aload 0 dX11_late_12 rfl ?_
    refine zr_iload_n 3 dX11_late_14 rfl ?_
    replace hf := zb1_s hf
    obtain ⟨v5, h4, hf⟩ := hf
    refine zr_callV (ci := 9) [.int x2] (cX9_hasPlace_ok h4) zvs_X9_hasPlace zl_106 zl_107 (fX9_hasPlace_ck h4) rfl rfl zl_690 rfl (Nat.le_of_ble_eq_true rfl) (Nat.le_of_ble_eq_true rfl) (Nat.le_of_ble_eq_true rfl) (Nat.le_of_ble_eq_true rfl) dX11_late_15 rfl ?_
    refine zr_if_eq 28 dX11_late_18 (by decide) (fun hc => ?_) (fun hc => ?_)
    · rw [if_pos hc] at hf
      refine zr_iconst (-1) dX11_late_28 (by decide) ?_
      cases hf
      exact zr_iret dX11_late_29
    · rw [if_neg hc] at hf
      refine zr_iload_n 4 dX11_late_21 rfl ?_
      replace hf := zb1_s hf
      obtain ⟨v7, h6, hf⟩ := hf
      refine zr_callS [.int x3] (cX11_isWord_ok h6) zvs_X11_isWord zl_374 zl_691 rfl (Nat.le_of_ble_eq_true rfl) (Nat.le_of_ble_eq_true rfl) (Nat.le_of_ble_eq_true rfl) (Nat.le_of_ble_eq_true rfl) dX11_late_22 rfl ?_
      refine zr_if_ne 30 dX11_late_25 (by decide) (fun hc => ?_) (fun hc => ?_)
      · rw [if_neg hc] at hf
        refine zr_aload 0 dX11_late_30 rfl ?_
        refine zr_iload_n 3 dX11_late_32 rfl ?_
        refine zr_iload_n 3 dX11_late_33 rfl ?_
        refine zr_iconst 2 dX11_late_34 (by decide) ?_
        replace hf := zb1_s hf
        obtain ⟨v9, h8, hf⟩ := hf
        refine zr_callV (ci := 9) [.int x2, .int x2, .int 2] (cX9_way_ok h8) zvs_X9_way zl_20 zl_21 (fX9_way_ck h8) rfl rfl zl_728 rfl (Nat.le_of_ble_eq_true rfl) (Nat.le_of_ble_eq_true rfl) (Nat.le_of_ble_eq_true rfl) (Nat.le_of_ble_eq_true rfl) dX11_late_35 rfl ?_
        refine zr_aload 0 dX11_late_38 rfl ?_
        replace hf := zb1_s hf
        obtain ⟨v10, h11, hf⟩ := hf
        refine zr_get (zm_gR_g h11) zk9 (by decide) zl_729 dX11_late_40 ?_
        refine zr_iload_n 4 dX11_late_43 rfl ?_
        replace hf := zb1_s hf
        obtain ⟨v12, h13, hf⟩ := hf
        refine zr_iald h13 dX11_late_44 ?_
        refine zr_iadd dX11_late_45 ?_
        cases hf
        exact zr_iret dX11_late_46
      · rw [if_pos hc] at hf
        refine zr_iconst (-1) dX11_late_28 (by decide) ?_
        cases hf
        exact zr_iret dX11_late_29
theorem zl_730 : Cond.code yX8_gain cX8_gain 4 (some .int) ∈ zt := zt_at 972 (by decide +kernel)
theorem zvs_X8_gain : zvS yX8_gain cX8_gain 4 (some .int) 1 := ⟨zl_730, zl_550, ⟨by decide +kernel, by decide +kernel, by decide +kernel⟩, by decide⟩
theorem zl_731 : Cond.methodLink RX11 167 yX8_gain ∈ zt := zt_at 970 (by decide +kernel)
theorem zl_732 : Cond.static yX8_gain ∈ zt := zt_at 971 (by decide +kernel)
theorem zl_733 : Cond.methodLink RX11 171 yX8_couples ∈ zt := zt_at 989 (by decide +kernel)
theorem zl_734 : Cond.code yX8_leastPrice cX8_leastPrice 2 (some .int) ∈ zt := zt_at 992 (by decide +kernel)
theorem zvs_X8_leastPrice : zvS yX8_leastPrice cX8_leastPrice 2 (some .int) 1 := ⟨zl_734, zl_550, ⟨by decide +kernel, by decide +kernel, by decide +kernel⟩, by decide⟩
theorem zl_735 : Cond.methodLink RX11 174 yX8_leastPrice ∈ zt := zt_at 990 (by decide +kernel)
theorem zl_736 : Cond.static yX8_leastPrice ∈ zt := zt_at 991 (by decide +kernel)
theorem zl_737 : Cond.code yX8_greatestPrice cX8_greatestPrice 2 (some .int) ∈ zt := zt_at 998 (by decide +kernel)
theorem zvs_X8_greatestPrice : zvS yX8_greatestPrice cX8_greatestPrice 2 (some .int) 1 := ⟨zl_737, zl_550, ⟨by decide +kernel, by decide +kernel, by decide +kernel⟩, by decide⟩
theorem zl_738 : Cond.methodLink RX11 177 yX8_greatestPrice ∈ zt := zt_at 996 (by decide +kernel)
theorem zl_739 : Cond.static yX8_greatestPrice ∈ zt := zt_at 997 (by decide +kernel)
theorem dX11_market_0 : decode cX11_market 0 = .ok (.aload_n 0, 1) := by decide +kernel
theorem dX11_market_1 : decode cX11_market 1 = .ok (.iload_n 1, 1) := by decide +kernel
theorem dX11_market_2 : decode cX11_market 2 = .ok (.invokevirtual 89, 3) := by decide +kernel
theorem dX11_market_5 : decode cX11_market 5 = .ok (.astore_n 3, 1) := by decide +kernel
theorem dX11_market_6 : decode cX11_market 6 = .ok (.aload_n 3, 1) := by decide +kernel
theorem dX11_market_7 : decode cX11_market 7 = .ok (.ifnonnull 5, 3) := by decide +kernel
theorem dX11_market_10 : decode cX11_market 10 = .ok (.iconst (-1), 1) := by decide +kernel
theorem dX11_market_11 : decode cX11_market 11 = .ok (.ireturn, 1) := by decide +kernel
theorem dX11_market_12 : decode cX11_market 12 = .ok (.iload_n 2, 1) := by decide +kernel
theorem dX11_market_13 : decode cX11_market 13 = .ok (.tableswitch 51 0 3 #[31, 36, 41, 46], 31) := by decide +kernel
theorem dX11_market_44 : decode cX11_market 44 = .ok (.aload_n 3, 1) := by decide +kernel
theorem dX11_market_45 : decode cX11_market 45 = .ok (.invokestatic 167, 3) := by decide +kernel
theorem dX11_market_48 : decode cX11_market 48 = .ok (.ireturn, 1) := by decide +kernel
theorem dX11_market_49 : decode cX11_market 49 = .ok (.aload_n 3, 1) := by decide +kernel
theorem dX11_market_50 : decode cX11_market 50 = .ok (.invokestatic 171, 3) := by decide +kernel
theorem dX11_market_53 : decode cX11_market 53 = .ok (.ireturn, 1) := by decide +kernel
theorem dX11_market_54 : decode cX11_market 54 = .ok (.aload_n 3, 1) := by decide +kernel
theorem dX11_market_55 : decode cX11_market 55 = .ok (.invokestatic 174, 3) := by decide +kernel
theorem dX11_market_58 : decode cX11_market 58 = .ok (.ireturn, 1) := by decide +kernel
theorem dX11_market_59 : decode cX11_market 59 = .ok (.aload_n 3, 1) := by decide +kernel
theorem dX11_market_60 : decode cX11_market 60 = .ok (.invokestatic 177, 3) := by decide +kernel
theorem dX11_market_63 : decode cX11_market 63 = .ok (.ireturn, 1) := by decide +kernel
theorem dX11_market_64 : decode cX11_market 64 = .ok (.iconst (-1), 1) := by decide +kernel
theorem dX11_market_65 : decode cX11_market 65 = .ok (.ireturn, 1) := by decide +kernel
noncomputable def fX11_market (μ : zM) (x0 : Nat) (x1 : Int32) (x2 : Int32) : Option (Int32) := zgd (zm_ck μ 11 x0) <|
  zb1 (fX11_valleyAt μ x0 x1) fun v2 =>
  zmo v2 (
  some (-1)) fun a3 =>
  if x2 = 0 then (
  zb1 (fX8_gain μ a3) fun v5 =>
  some v5)
  else (
  if x2 = 1 then (
  zb1 (fX8_couples μ a3) fun v8 =>
  some v8)
  else (
  if x2 = 2 then (
  zb1 (fX8_leastPrice μ a3) fun v11 =>
  some v11)
  else (
  if x2 = 3 then (
  zb1 (fX8_greatestPrice μ a3) fun v14 =>
  some v14)
  else (
  some (-1)))))
theorem fX11_market_ck {μ : zM} {x0 : Nat} {x1 : Int32} {x2 : Int32} {z : Int32} (h : fX11_market μ x0 x1 x2 = some z) : zm_ck μ 11 x0 = true := (zgd_s h).1
set_option maxHeartbeats 4000000 in
set_option maxRecDepth 100000 in
theorem cX11_market_ok {μ : zM} {x0 : Nat} {x1 : Int32} {x2 : Int32} {r : Int32} (hf : fX11_market μ x0 x1 x2 = some r) : zC yX11_market cX11_market 4 (some .int) 6 0 0 [.ref x0, .int x1, .int x2] μ (some (.int r)) μ := by
  replace hf := (zgd_s hf).2
  refine zC.of (by decide) (Nat.le_of_ble_eq_true rfl) (fun K hin => ?_)
  clear hin
  show zz K cX11_market (4, RX11, some .int, 6, 0, 0, some (.int r), μ) 0 0 0 [(0, .ref x0), (1, .int x1), (2, .int x2)] [] μ
  refine zr_aload_n 0 dX11_market_0 rfl ?_
  refine zr_iload_n 1 dX11_market_1 rfl ?_
  replace hf := zb1_s hf
  obtain ⟨v2, h1, hf⟩ := hf
  refine zr_callV (ci := 11) [.int x1] (cX11_valleyAt_ok h1) zvs_X11_valleyAt zl_684 zl_685 (fX11_valleyAt_ck h1) rfl rfl zl_683 rfl (Nat.le_of_ble_eq_true rfl) (Nat.le_of_ble_eq_true rfl) (Nat.le_of_ble_eq_true rfl) (Nat.le_of_ble_eq_true rfl) dX11_market_2 rfl ?_
  refine zr_ostore_n [(3, va_rf v2), (0, .ref x0), (1, .int x1), (2, .int x2)] dX11_market_5 (Nat.le_of_ble_eq_true rfl) rfl ?_
  refine zr_oload_n 0 dX11_market_6 rfl ?_
  cases v2 with
  | none =>
    replace hf := zmo_n hf
    refine zr_ifnonnull_n dX11_market_7 ?_
    refine zr_iconst (-1) dX11_market_10 (by decide) ?_
    cases hf
    exact zr_iret dX11_market_11
  | some a3 =>
    replace hf := zmo_s hf
    refine zr_ifnonnull_r 12 dX11_market_7 (by decide) ?_
    refine zr_iload_n 3 dX11_market_12 rfl ?_
    rcases zdec (x2 = 0) with hs6 | hs6
    · rw [if_pos hs6] at hf
      refine zr_tableIn (off := 31) 44 dX11_market_13 (by rw [hs6]; decide) (by rw [hs6]; decide) (by rw [hs6]; rfl) (by decide) ?_
      refine zr_aload_n 0 dX11_market_44 rfl ?_
      replace hf := zb1_s hf
      obtain ⟨v5, h4, hf⟩ := hf
      refine zr_callS [.ref a3] (cX8_gain_ok h4) zvs_X8_gain zl_732 zl_731 rfl (Nat.le_of_ble_eq_true rfl) (Nat.le_of_ble_eq_true rfl) (Nat.le_of_ble_eq_true rfl) (Nat.le_of_ble_eq_true rfl) dX11_market_45 rfl ?_
      cases hf
      exact zr_iret dX11_market_48
    rw [if_neg hs6] at hf
    rcases zdec (x2 = 1) with hs9 | hs9
    · rw [if_pos hs9] at hf
      refine zr_tableIn (off := 36) 49 dX11_market_13 (by rw [hs9]; decide) (by rw [hs9]; decide) (by rw [hs9]; rfl) (by decide) ?_
      refine zr_aload_n 0 dX11_market_49 rfl ?_
      replace hf := zb1_s hf
      obtain ⟨v8, h7, hf⟩ := hf
      refine zr_callS [.ref a3] (cX8_couples_ok h7) zvs_X8_couples zl_561 zl_733 rfl (Nat.le_of_ble_eq_true rfl) (Nat.le_of_ble_eq_true rfl) (Nat.le_of_ble_eq_true rfl) (Nat.le_of_ble_eq_true rfl) dX11_market_50 rfl ?_
      cases hf
      exact zr_iret dX11_market_53
    rw [if_neg hs9] at hf
    rcases zdec (x2 = 2) with hs12 | hs12
    · rw [if_pos hs12] at hf
      refine zr_tableIn (off := 41) 54 dX11_market_13 (by rw [hs12]; decide) (by rw [hs12]; decide) (by rw [hs12]; rfl) (by decide) ?_
      refine zr_aload_n 0 dX11_market_54 rfl ?_
      replace hf := zb1_s hf
      obtain ⟨v11, h10, hf⟩ := hf
      refine zr_callS [.ref a3] (cX8_leastPrice_ok h10) zvs_X8_leastPrice zl_736 zl_735 rfl (Nat.le_of_ble_eq_true rfl) (Nat.le_of_ble_eq_true rfl) (Nat.le_of_ble_eq_true rfl) (Nat.le_of_ble_eq_true rfl) dX11_market_55 rfl ?_
      cases hf
      exact zr_iret dX11_market_58
    rw [if_neg hs12] at hf
    rcases zdec (x2 = 3) with hs15 | hs15
    · rw [if_pos hs15] at hf
      refine zr_tableIn (off := 46) 59 dX11_market_13 (by rw [hs15]; decide) (by rw [hs15]; decide) (by rw [hs15]; rfl) (by decide) ?_
      refine zr_aload_n 0 dX11_market_59 rfl ?_
      replace hf := zb1_s hf
      obtain ⟨v14, h13, hf⟩ := hf
      refine zr_callS [.ref a3] (cX8_greatestPrice_ok h13) zvs_X8_greatestPrice zl_739 zl_738 rfl (Nat.le_of_ble_eq_true rfl) (Nat.le_of_ble_eq_true rfl) (Nat.le_of_ble_eq_true rfl) (Nat.le_of_ble_eq_true rfl) dX11_market_60 rfl ?_
      cases hf
      exact zr_iret dX11_market_63
    rw [if_neg hs15] at hf
    refine zr_tableOut 64 dX11_market_13 (by simp only [← Int32.toInt_inj] at hs6 hs9 hs12 hs15; simp at hs6 hs9 hs12 hs15; omega) (by decide) ?_
    refine zr_iconst (-1) dX11_market_64 (by decide) ?_
    cases hf
    exact zr_iret dX11_market_65
theorem zl_740 : Cond.methodLink RX11 180 yX9_isOfKind ∈ zt := zt_at 1003 (by decide +kernel)
theorem zl_741 : Cond.fieldLink RX11 184 "TwoEchoes$Valley" "wish" "[I" ∈ zt := zt_at 201 (by decide +kernel)
theorem zl_742 : Cond.code yX8_rests cX8_rests 7 (some .int) ∈ zt := zt_at 1007 (by decide +kernel)
theorem zvs_X8_rests : zvS yX8_rests cX8_rests 7 (some .int) 3 := ⟨zl_742, zl_550, ⟨by decide +kernel, by decide +kernel, by decide +kernel⟩, by decide⟩
theorem zl_743 : Cond.methodLink RX11 187 yX8_rests ∈ zt := zt_at 1004 (by decide +kernel)
theorem zl_744 : Cond.instanceMethod yX8_rests ∈ zt := zt_at 1005 (by decide +kernel)
theorem zl_745 : Cond.selects RX8 yX8_rests yX8_rests ∈ zt := zt_at 1006 (by decide +kernel)
theorem dX11_bargain_0 : decode cX11_bargain 0 = .ok (.aload_n 0, 1) := by decide +kernel
theorem dX11_bargain_1 : decode cX11_bargain 1 = .ok (.iload_n 1, 1) := by decide +kernel
theorem dX11_bargain_2 : decode cX11_bargain 2 = .ok (.invokevirtual 89, 3) := by decide +kernel
theorem dX11_bargain_5 : decode cX11_bargain 5 = .ok (.astore 5, 2) := by decide +kernel
theorem dX11_bargain_7 : decode cX11_bargain 7 = .ok (.aload 5, 2) := by decide +kernel
theorem dX11_bargain_9 : decode cX11_bargain 9 = .ok (.ifnull 23, 3) := by decide +kernel
theorem dX11_bargain_12 : decode cX11_bargain 12 = .ok (.aload 5, 2) := by decide +kernel
theorem dX11_bargain_14 : decode cX11_bargain 14 = .ok (.iload_n 2, 1) := by decide +kernel
theorem dX11_bargain_15 : decode cX11_bargain 15 = .ok (.iconst 0, 1) := by decide +kernel
theorem dX11_bargain_16 : decode cX11_bargain 16 = .ok (.invokevirtual 180, 3) := by decide +kernel
theorem dX11_bargain_19 : decode cX11_bargain 19 = .ok (.ifCond .eq 13, 3) := by decide +kernel
theorem dX11_bargain_22 : decode cX11_bargain 22 = .ok (.aload 5, 2) := by decide +kernel
theorem dX11_bargain_24 : decode cX11_bargain 24 = .ok (.iload_n 3, 1) := by decide +kernel
theorem dX11_bargain_25 : decode cX11_bargain 25 = .ok (.iconst 1, 1) := by decide +kernel
theorem dX11_bargain_26 : decode cX11_bargain 26 = .ok (.invokevirtual 180, 3) := by decide +kernel
theorem dX11_bargain_29 : decode cX11_bargain 29 = .ok (.ifCond .ne 5, 3) := by decide +kernel
theorem dX11_bargain_32 : decode cX11_bargain 32 = .ok (.iconst (-1), 1) := by decide +kernel
theorem dX11_bargain_33 : decode cX11_bargain 33 = .ok (.ireturn, 1) := by decide +kernel
theorem dX11_bargain_34 : decode cX11_bargain 34 = .ok (.aload_n 0, 1) := by decide +kernel
theorem dX11_bargain_35 : decode cX11_bargain 35 = .ok (.getfield 50, 3) := by decide +kernel
theorem dX11_bargain_38 : decode cX11_bargain 38 = .ok (.aload 5, 2) := by decide +kernel
theorem dX11_bargain_40 : decode cX11_bargain 40 = .ok (.getfield 184, 3) := by decide +kernel
theorem dX11_bargain_43 : decode cX11_bargain 43 = .ok (.iload_n 2, 1) := by decide +kernel
theorem dX11_bargain_44 : decode cX11_bargain 44 = .ok (.iaload, 1) := by decide +kernel
theorem dX11_bargain_45 : decode cX11_bargain 45 = .ok (.aload 5, 2) := by decide +kernel
theorem dX11_bargain_47 : decode cX11_bargain 47 = .ok (.getfield 184, 3) := by decide +kernel
theorem dX11_bargain_50 : decode cX11_bargain 50 = .ok (.iload_n 3, 1) := by decide +kernel
theorem dX11_bargain_51 : decode cX11_bargain 51 = .ok (.iaload, 1) := by decide +kernel
theorem dX11_bargain_52 : decode cX11_bargain 52 = .ok (.iload 4, 2) := by decide +kernel
theorem dX11_bargain_54 : decode cX11_bargain 54 = .ok (.invokevirtual 187, 3) := by decide +kernel
theorem dX11_bargain_57 : decode cX11_bargain 57 = .ok (.ireturn, 1) := by decide +kernel
noncomputable def fX11_bargain (μ : zM) (x0 : Nat) (x1 : Int32) (x2 : Int32) (x3 : Int32) (x4 : Int32) : Option (Int32 × zM) := zgd (zm_ck μ 11 x0) <|
  zb1 (fX11_valleyAt μ x0 x1) fun v2 =>
  zmo v2 (
  some ((-1), μ)) fun a3 =>
  zb1 (fX9_isOfKind μ a3 x2 0) fun v5 =>
  if v5 = 0 then (
  some ((-1), μ))
  else (
  zb1 (fX9_isOfKind μ a3 x3 1) fun v7 =>
  if v7 = 0 then (
  some ((-1), μ))
  else (
  zb1 (zm_gR μ 11 x0 5) fun v8 =>
  zb1 (zm_gR μ 9 a3 7) fun v10 =>
  zb1 (zm_aI μ 0 v10 x2) fun v12 =>
  zb1 (zm_gR μ 9 a3 7) fun v14 =>
  zb1 (zm_aI μ 0 v14 x3) fun v16 =>
  zb2 (fX8_rests μ v8 v12 v16 x4) fun v20 m19 =>
  some (v20, m19)))
theorem fX11_bargain_ck {μ : zM} {x0 : Nat} {x1 : Int32} {x2 : Int32} {x3 : Int32} {x4 : Int32} {z : Int32 × zM} (h : fX11_bargain μ x0 x1 x2 x3 x4 = some z) : zm_ck μ 11 x0 = true := (zgd_s h).1
set_option maxHeartbeats 4000000 in
set_option maxRecDepth 100000 in
theorem cX11_bargain_ok {μ : zM} {x0 : Nat} {x1 : Int32} {x2 : Int32} {x3 : Int32} {x4 : Int32} {r : Int32} {mo : zM} (hf : fX11_bargain μ x0 x1 x2 x3 x4 = some (r, mo)) : zC yX11_bargain cX11_bargain 6 (some .int) 3 0 0 [.ref x0, .int x1, .int x2, .int x3, .int x4] μ (some (.int r)) mo := by
  replace hf := (zgd_s hf).2
  refine zC.of (by decide) (Nat.le_of_ble_eq_true rfl) (fun K hin => ?_)
  clear hin
  show zz K cX11_bargain (6, RX11, some .int, 3, 0, 0, some (.int r), mo) 0 0 0 [(0, .ref x0), (1, .int x1), (2, .int x2), (3, .int x3), (4, .int x4)] [] μ
  refine zr_aload_n 0 dX11_bargain_0 rfl ?_
  refine zr_iload_n 1 dX11_bargain_1 rfl ?_
  replace hf := zb1_s hf
  obtain ⟨v2, h1, hf⟩ := hf
  refine zr_callV (ci := 11) [.int x1] (cX11_valleyAt_ok h1) zvs_X11_valleyAt zl_684 zl_685 (fX11_valleyAt_ck h1) rfl rfl zl_683 rfl (Nat.le_of_ble_eq_true rfl) (Nat.le_of_ble_eq_true rfl) (Nat.le_of_ble_eq_true rfl) (Nat.le_of_ble_eq_true rfl) dX11_bargain_2 rfl ?_
  refine zr_ostore [(5, va_rf v2), (0, .ref x0), (1, .int x1), (2, .int x2), (3, .int x3), (4, .int x4)] dX11_bargain_5 (Nat.le_of_ble_eq_true rfl) rfl ?_
  refine zr_oload 0 dX11_bargain_7 rfl ?_
  cases v2 with
  | none =>
    replace hf := zmo_n hf
    refine zr_ifnull_n 32 dX11_bargain_9 (by decide) ?_
    refine zr_iconst (-1) dX11_bargain_32 (by decide) ?_
    cases hf
    exact zr_iret dX11_bargain_33
  | some a3 =>
    replace hf := zmo_s hf
    refine zr_ifnull_r dX11_bargain_9 ?_
    refine zr_aload 0 dX11_bargain_12 rfl ?_
    refine zr_iload_n 3 dX11_bargain_14 rfl ?_
    refine zr_iconst 0 dX11_bargain_15 (by decide) ?_
    replace hf := zb1_s hf
    obtain ⟨v5, h4, hf⟩ := hf
    refine zr_callV (ci := 9) [.int x2, .int 0] (cX9_isOfKind_ok h4) zvs_X9_isOfKind zl_546 zl_547 (fX9_isOfKind_ck h4) rfl rfl zl_740 rfl (Nat.le_of_ble_eq_true rfl) (Nat.le_of_ble_eq_true rfl) (Nat.le_of_ble_eq_true rfl) (Nat.le_of_ble_eq_true rfl) dX11_bargain_16 rfl ?_
    refine zr_if_eq 32 dX11_bargain_19 (by decide) (fun hc => ?_) (fun hc => ?_)
    · rw [if_pos hc] at hf
      refine zr_iconst (-1) dX11_bargain_32 (by decide) ?_
      cases hf
      exact zr_iret dX11_bargain_33
    · rw [if_neg hc] at hf
      refine zr_aload 0 dX11_bargain_22 rfl ?_
      refine zr_iload_n 4 dX11_bargain_24 rfl ?_
      refine zr_iconst 1 dX11_bargain_25 (by decide) ?_
      replace hf := zb1_s hf
      obtain ⟨v7, h6, hf⟩ := hf
      refine zr_callV (ci := 9) [.int x3, .int 1] (cX9_isOfKind_ok h6) zvs_X9_isOfKind zl_546 zl_547 (fX9_isOfKind_ck h6) rfl rfl zl_740 rfl (Nat.le_of_ble_eq_true rfl) (Nat.le_of_ble_eq_true rfl) (Nat.le_of_ble_eq_true rfl) (Nat.le_of_ble_eq_true rfl) dX11_bargain_26 rfl ?_
      refine zr_if_ne 34 dX11_bargain_29 (by decide) (fun hc => ?_) (fun hc => ?_)
      · rw [if_neg hc] at hf
        refine zr_aload_n 1 dX11_bargain_34 rfl ?_
        replace hf := zb1_s hf
        obtain ⟨v8, h9, hf⟩ := hf
        refine zr_get (zm_gR_g h9) zk11 (by decide) zl_652 dX11_bargain_35 ?_
        refine zr_aload 0 dX11_bargain_38 rfl ?_
        replace hf := zb1_s hf
        obtain ⟨v10, h11, hf⟩ := hf
        refine zr_get (zm_gR_g h11) zk9 (by decide) zl_741 dX11_bargain_40 ?_
        refine zr_iload_n 3 dX11_bargain_43 rfl ?_
        replace hf := zb1_s hf
        obtain ⟨v12, h13, hf⟩ := hf
        refine zr_iald h13 dX11_bargain_44 ?_
        refine zr_aload 0 dX11_bargain_45 rfl ?_
        replace hf := zb1_s hf
        obtain ⟨v14, h15, hf⟩ := hf
        refine zr_get (zm_gR_g h15) zk9 (by decide) zl_741 dX11_bargain_47 ?_
        refine zr_iload_n 4 dX11_bargain_50 rfl ?_
        replace hf := zb1_s hf
        obtain ⟨v16, h17, hf⟩ := hf
        refine zr_iald h17 dX11_bargain_51 ?_
        refine zr_iload 5 dX11_bargain_52 rfl ?_
        replace hf := zb2_s hf
        obtain ⟨v20, m19, h18, hf⟩ := hf
        refine zr_callV (ci := 8) [.int v12, .int v16, .int x4] (cX8_rests_ok h18) zvs_X8_rests zl_744 zl_745 (fX8_rests_ck h18) rfl rfl zl_743 rfl (Nat.le_of_ble_eq_true rfl) (Nat.le_of_ble_eq_true rfl) (Nat.le_of_ble_eq_true rfl) (Nat.le_of_ble_eq_true rfl) dX11_bargain_54 rfl ?_
        cases hf
        exact zr_iret dX11_bargain_57
      · rw [if_pos hc] at hf
        refine zr_iconst (-1) dX11_bargain_32 (by decide) ?_
        cases hf
        exact zr_iret dX11_bargain_33
theorem zl_746 : Cond.code yX10_fewestAnswers cX10_fewestAnswers 6 (some .int) ∈ zt := zt_at 1025 (by decide +kernel)
theorem zvs_X10_fewestAnswers : zvS yX10_fewestAnswers cX10_fewestAnswers 6 (some .int) 2 := ⟨zl_746, zl_596, ⟨by decide +kernel, by decide +kernel, by decide +kernel⟩, by decide⟩
theorem zl_747 : Cond.methodLink RX11 191 yX10_fewestAnswers ∈ zt := zt_at 1023 (by decide +kernel)
theorem zl_748 : Cond.static yX10_fewestAnswers ∈ zt := zt_at 1024 (by decide +kernel)
theorem dX11_talk_0 : decode cX11_talk 0 = .ok (.aload_n 0, 1) := by decide +kernel
theorem dX11_talk_1 : decode cX11_talk 1 = .ok (.iload_n 1, 1) := by decide +kernel
theorem dX11_talk_2 : decode cX11_talk 2 = .ok (.invokevirtual 89, 3) := by decide +kernel
theorem dX11_talk_5 : decode cX11_talk 5 = .ok (.astore_n 3, 1) := by decide +kernel
theorem dX11_talk_6 : decode cX11_talk 6 = .ok (.aload_n 3, 1) := by decide +kernel
theorem dX11_talk_7 : decode cX11_talk 7 = .ok (.ifnonnull 5, 3) := by decide +kernel
theorem dX11_talk_10 : decode cX11_talk 10 = .ok (.iconst (-1), 1) := by decide +kernel
theorem dX11_talk_11 : decode cX11_talk 11 = .ok (.ireturn, 1) := by decide +kernel
theorem dX11_talk_12 : decode cX11_talk 12 = .ok (.iload_n 2, 1) := by decide +kernel
theorem dX11_talk_13 : decode cX11_talk 13 = .ok (.iconst (-1), 1) := by decide +kernel
theorem dX11_talk_14 : decode cX11_talk 14 = .ok (.if_icmp .ne 10, 3) := by decide +kernel
theorem dX11_talk_17 : decode cX11_talk 17 = .ok (.aload_n 3, 1) := by decide +kernel
theorem dX11_talk_18 : decode cX11_talk 18 = .ok (.bipush 7, 2) := by decide +kernel
theorem dX11_talk_20 : decode cX11_talk 20 = .ok (.invokestatic 191, 3) := by decide +kernel
theorem dX11_talk_23 : decode cX11_talk 23 = .ok (.ireturn, 1) := by decide +kernel
theorem dX11_talk_24 : decode cX11_talk 24 = .ok (.iload_n 2, 1) := by decide +kernel
theorem dX11_talk_25 : decode cX11_talk 25 = .ok (.iconst 3, 1) := by decide +kernel
theorem dX11_talk_26 : decode cX11_talk 26 = .ok (.if_icmp .lt 9, 3) := by decide +kernel
theorem dX11_talk_29 : decode cX11_talk 29 = .ok (.iload_n 2, 1) := by decide +kernel
theorem dX11_talk_30 : decode cX11_talk 30 = .ok (.bipush 7, 2) := by decide +kernel
theorem dX11_talk_32 : decode cX11_talk 32 = .ok (.if_icmp .le 5, 3) := by decide +kernel
theorem dX11_talk_35 : decode cX11_talk 35 = .ok (.iconst (-1), 1) := by decide +kernel
theorem dX11_talk_36 : decode cX11_talk 36 = .ok (.ireturn, 1) := by decide +kernel
theorem dX11_talk_37 : decode cX11_talk 37 = .ok (.aload_n 3, 1) := by decide +kernel
theorem dX11_talk_38 : decode cX11_talk 38 = .ok (.iload_n 2, 1) := by decide +kernel
theorem dX11_talk_39 : decode cX11_talk 39 = .ok (.invokestatic 191, 3) := by decide +kernel
theorem dX11_talk_42 : decode cX11_talk 42 = .ok (.ireturn, 1) := by decide +kernel
noncomputable def fX11_talk (μ : zM) (x0 : Nat) (x1 : Int32) (x2 : Int32) : Option (Int32 × zM) := zgd (zm_ck μ 11 x0) <|
  zb1 (fX11_valleyAt μ x0 x1) fun v2 =>
  zmo v2 (
  some ((-1), μ)) fun a3 =>
  if x2 = (-1) then (
  zb2 (fX10_fewestAnswers μ a3 7) fun v9 m8 =>
  some (v9, m8))
  else (
  if x2 < 3 then (
  some ((-1), μ))
  else (
  if x2 ≤ 7 then (
  zb2 (fX10_fewestAnswers μ a3 x2) fun v6 m5 =>
  some (v6, m5))
  else (
  some ((-1), μ))))
theorem fX11_talk_ck {μ : zM} {x0 : Nat} {x1 : Int32} {x2 : Int32} {z : Int32 × zM} (h : fX11_talk μ x0 x1 x2 = some z) : zm_ck μ 11 x0 = true := (zgd_s h).1
set_option maxHeartbeats 4000000 in
set_option maxRecDepth 100000 in
theorem cX11_talk_ok {μ : zM} {x0 : Nat} {x1 : Int32} {x2 : Int32} {r : Int32} {mo : zM} (hf : fX11_talk μ x0 x1 x2 = some (r, mo)) : zC yX11_talk cX11_talk 4 (some .int) 12 1 8 [.ref x0, .int x1, .int x2] μ (some (.int r)) mo := by
  replace hf := (zgd_s hf).2
  refine zC.of (by decide) (Nat.le_of_ble_eq_true rfl) (fun K hin => ?_)
  clear hin
  show zz K cX11_talk (4, RX11, some .int, 12, 1, 8, some (.int r), mo) 0 0 0 [(0, .ref x0), (1, .int x1), (2, .int x2)] [] μ
  refine zr_aload_n 0 dX11_talk_0 rfl ?_
  refine zr_iload_n 1 dX11_talk_1 rfl ?_
  replace hf := zb1_s hf
  obtain ⟨v2, h1, hf⟩ := hf
  refine zr_callV (ci := 11) [.int x1] (cX11_valleyAt_ok h1) zvs_X11_valleyAt zl_684 zl_685 (fX11_valleyAt_ck h1) rfl rfl zl_683 rfl (Nat.le_of_ble_eq_true rfl) (Nat.le_of_ble_eq_true rfl) (Nat.le_of_ble_eq_true rfl) (Nat.le_of_ble_eq_true rfl) dX11_talk_2 rfl ?_
  refine zr_ostore_n [(3, va_rf v2), (0, .ref x0), (1, .int x1), (2, .int x2)] dX11_talk_5 (Nat.le_of_ble_eq_true rfl) rfl ?_
  refine zr_oload_n 0 dX11_talk_6 rfl ?_
  cases v2 with
  | none =>
    replace hf := zmo_n hf
    refine zr_ifnonnull_n dX11_talk_7 ?_
    refine zr_iconst (-1) dX11_talk_10 (by decide) ?_
    refine zr_widen (k := 1) (n := 8) (by omega) (by omega) ?_
    cases hf
    exact zr_iret dX11_talk_11
  | some a3 =>
    replace hf := zmo_s hf
    refine zr_ifnonnull_r 12 dX11_talk_7 (by decide) ?_
    refine zr_iload_n 3 dX11_talk_12 rfl ?_
    refine zr_iconst (-1) dX11_talk_13 (by decide) ?_
    refine zr_icmp_ne 24 dX11_talk_14 (by decide) (fun hc => ?_) (fun hc => ?_)
    · rw [if_neg hc] at hf
      refine zr_iload_n 3 dX11_talk_24 rfl ?_
      refine zr_iconst 3 dX11_talk_25 (by decide) ?_
      refine zr_icmp_lt 35 dX11_talk_26 (by decide) (fun hc => ?_) (fun hc => ?_)
      · rw [if_pos hc] at hf
        refine zr_iconst (-1) dX11_talk_35 (by decide) ?_
        refine zr_widen (k := 1) (n := 8) (by omega) (by omega) ?_
        cases hf
        exact zr_iret dX11_talk_36
      · rw [if_neg hc] at hf
        refine zr_iload_n 3 dX11_talk_29 rfl ?_
        refine zr_bipush 7 dX11_talk_30 (by decide) ?_
        refine zr_icmp_le 37 dX11_talk_32 (by decide) (fun hc => ?_) (fun hc => ?_)
        · rw [if_pos hc] at hf
          refine zr_aload_n 0 dX11_talk_37 rfl ?_
          refine zr_iload_n 3 dX11_talk_38 rfl ?_
          replace hf := zb2_s hf
          obtain ⟨v6, m5, h4, hf⟩ := hf
          refine zr_callS [.ref a3, .int x2] (cX10_fewestAnswers_ok h4) zvs_X10_fewestAnswers zl_748 zl_747 rfl (Nat.le_of_ble_eq_true rfl) (Nat.le_of_ble_eq_true rfl) (Nat.le_of_ble_eq_true rfl) (Nat.le_of_ble_eq_true rfl) dX11_talk_39 rfl ?_
          cases hf
          exact zr_iret dX11_talk_42
        · rw [if_neg hc] at hf
          refine zr_iconst (-1) dX11_talk_35 (by decide) ?_
          refine zr_widen (k := 1) (n := 8) (by omega) (by omega) ?_
          cases hf
          exact zr_iret dX11_talk_36
    · rw [if_pos hc] at hf
      refine zr_aload_n 0 dX11_talk_17 rfl ?_
      refine zr_bipush 7 dX11_talk_18 (by decide) ?_
      replace hf := zb2_s hf
      obtain ⟨v9, m8, h7, hf⟩ := hf
      refine zr_callS [.ref a3, .int 7] (cX10_fewestAnswers_ok h7) zvs_X10_fewestAnswers zl_748 zl_747 rfl (Nat.le_of_ble_eq_true rfl) (Nat.le_of_ble_eq_true rfl) (Nat.le_of_ble_eq_true rfl) (Nat.le_of_ble_eq_true rfl) dX11_talk_20 rfl ?_
      cases hf
      exact zr_iret dX11_talk_23
theorem zl_749 : Cond.fieldLink RX11 333 "TwoEchoes$Told" "lessons" "[LTwoEchoes$Lesson;" ∈ zt := zt_at 330 (by decide +kernel)
theorem dX11_lessonAt_0 : decode cX11_lessonAt 0 = .ok (.iload_n 1, 1) := by decide +kernel
theorem dX11_lessonAt_1 : decode cX11_lessonAt 1 = .ok (.ifCond .lt 16, 3) := by decide +kernel
theorem dX11_lessonAt_4 : decode cX11_lessonAt 4 = .ok (.iload_n 1, 1) := by decide +kernel
theorem dX11_lessonAt_5 : decode cX11_lessonAt 5 = .ok (.aload_n 0, 1) := by decide +kernel
theorem dX11_lessonAt_6 : decode cX11_lessonAt 6 = .ok (.getfield 10, 3) := by decide +kernel
theorem dX11_lessonAt_9 : decode cX11_lessonAt 9 = .ok (.getfield 318, 3) := by decide +kernel
theorem dX11_lessonAt_12 : decode cX11_lessonAt 12 = .ok (.iconst 2, 1) := by decide +kernel
theorem dX11_lessonAt_13 : decode cX11_lessonAt 13 = .ok (.iaload, 1) := by decide +kernel
theorem dX11_lessonAt_14 : decode cX11_lessonAt 14 = .ok (.if_icmp .lt 7, 3) := by decide +kernel
theorem dX11_lessonAt_17 : decode cX11_lessonAt 17 = .ok (.aconst_null, 1) := by decide +kernel
theorem dX11_lessonAt_18 : decode cX11_lessonAt 18 = .ok (.goto 12, 3) := by decide +kernel
theorem dX11_lessonAt_21 : decode cX11_lessonAt 21 = .ok (.aload_n 0, 1) := by decide +kernel
theorem dX11_lessonAt_22 : decode cX11_lessonAt 22 = .ok (.getfield 10, 3) := by decide +kernel
theorem dX11_lessonAt_25 : decode cX11_lessonAt 25 = .ok (.getfield 333, 3) := by decide +kernel
theorem dX11_lessonAt_28 : decode cX11_lessonAt 28 = .ok (.iload_n 1, 1) := by decide +kernel
theorem dX11_lessonAt_29 : decode cX11_lessonAt 29 = .ok (.aaload, 1) := by decide +kernel
theorem dX11_lessonAt_30 : decode cX11_lessonAt 30 = .ok (.areturn, 1) := by decide +kernel
noncomputable def fX11_lessonAt (μ : zM) (x0 : Nat) (x1 : Int32) : Option (Option Nat) := zgd (zm_ck μ 11 x0) <|
  zb1 (if x1 < 0 then (
  some none)
  else (
  zb1 (zm_gR μ 11 x0 0) fun v3 =>
  zb1 (zm_gR μ 7 v3 4) fun v5 =>
  zb1 (zm_aI μ 0 v5 2) fun v7 =>
  if x1 < v7 then (
  zb1 (zm_gR μ 11 x0 0) fun v9 =>
  zb1 (zm_gR μ 7 v9 7) fun v11 =>
  zb1 (zm_aQ μ 6 v11 x1) fun v13 =>
  some v13)
  else (
  some none)) : Option ((Option Nat))) fun (s1 : Option Nat) =>
  some s1
theorem fX11_lessonAt_ck {μ : zM} {x0 : Nat} {x1 : Int32} {z : Option Nat} (h : fX11_lessonAt μ x0 x1 = some z) : zm_ck μ 11 x0 = true := (zgd_s h).1
set_option maxHeartbeats 4000000 in
set_option maxRecDepth 100000 in
theorem cX11_lessonAt_ok {μ : zM} {x0 : Nat} {x1 : Int32} {r : Option Nat} (hf : fX11_lessonAt μ x0 x1 = some r) : zC yX11_lessonAt cX11_lessonAt 2 (some (.object "TwoEchoes$Lesson")) 0 0 0 [.ref x0, .int x1] μ (some (va_rf r)) μ := by
  replace hf := (zgd_s hf).2
  refine zC.of (by decide) (Nat.le_of_ble_eq_true rfl) (fun K hin => ?_)
  clear hin
  show zz K cX11_lessonAt (2, RX11, some (.object "TwoEchoes$Lesson"), 0, 0, 0, some (va_rf r), μ) 0 0 0 [(0, .ref x0), (1, .int x1)] [] μ
  refine zr_iload_n 1 dX11_lessonAt_0 rfl ?_
  replace hf := zb1_s hf
  obtain ⟨s1, hg, hf⟩ := hf
  have hj2 : zz K cX11_lessonAt (2, RX11, some (.object "TwoEchoes$Lesson"), 0, 0, 0, some (va_rf r), μ) 0 0 30 [] [va_rf s1] μ := by
    cases hf
    exact zr_aret dX11_lessonAt_30
  clear hf
  have hf := hg
  clear hg
  refine zr_if_lt 17 dX11_lessonAt_1 (by decide) (fun hc => ?_) (fun hc => ?_)
  · rw [if_pos hc] at hf
    refine zr_null dX11_lessonAt_17 ?_
    refine zr_goto 30 dX11_lessonAt_18 (by decide) ?_
    cases hf
    exact zr_lv [] rfl hj2
  · rw [if_neg hc] at hf
    refine zr_iload_n 1 dX11_lessonAt_4 rfl ?_
    refine zr_aload_n 0 dX11_lessonAt_5 rfl ?_
    replace hf := zb1_s hf
    obtain ⟨v3, h4, hf⟩ := hf
    refine zr_get (zm_gR_g h4) zk11 (by decide) zl_626 dX11_lessonAt_6 ?_
    replace hf := zb1_s hf
    obtain ⟨v5, h6, hf⟩ := hf
    refine zr_get (zm_gR_g h6) zk7 (by decide) zl_680 dX11_lessonAt_9 ?_
    refine zr_iconst 2 dX11_lessonAt_12 (by decide) ?_
    replace hf := zb1_s hf
    obtain ⟨v7, h8, hf⟩ := hf
    refine zr_iald h8 dX11_lessonAt_13 ?_
    refine zr_icmp_lt 21 dX11_lessonAt_14 (by decide) (fun hc => ?_) (fun hc => ?_)
    · rw [if_pos hc] at hf
      refine zr_aload_n 0 dX11_lessonAt_21 rfl ?_
      replace hf := zb1_s hf
      obtain ⟨v9, h10, hf⟩ := hf
      refine zr_get (zm_gR_g h10) zk11 (by decide) zl_626 dX11_lessonAt_22 ?_
      replace hf := zb1_s hf
      obtain ⟨v11, h12, hf⟩ := hf
      refine zr_get (zm_gR_g h12) zk7 (by decide) zl_749 dX11_lessonAt_25 ?_
      refine zr_iload_n 1 dX11_lessonAt_28 rfl ?_
      replace hf := zb1_s hf
      obtain ⟨v13, h14, hf⟩ := hf
      refine zr_aald h14 (by decide) rfl dX11_lessonAt_29 ?_
      cases hf
      exact zr_lv [] rfl hj2
    · rw [if_neg hc] at hf
      refine zr_null dX11_lessonAt_17 ?_
      refine zr_goto 30 dX11_lessonAt_18 (by decide) ?_
      cases hf
      exact zr_lv [] rfl hj2
theorem zl_750 : Cond.code yX11_lessonAt cX11_lessonAt 2 (some (.object "TwoEchoes$Lesson")) ∈ zt := zt_at 1048 (by decide +kernel)
theorem zvs_X11_lessonAt : zvS yX11_lessonAt cX11_lessonAt 2 (some (.object "TwoEchoes$Lesson")) 1 := ⟨zl_750, zl_118, ⟨by decide +kernel, by decide +kernel, by decide +kernel⟩, by decide⟩
theorem zl_751 : Cond.methodLink RX11 194 yX11_lessonAt ∈ zt := zt_at 1045 (by decide +kernel)
theorem zl_752 : Cond.instanceMethod yX11_lessonAt ∈ zt := zt_at 1047 (by decide +kernel)
theorem zl_753 : Cond.selects RX11 yX11_lessonAt yX11_lessonAt ∈ zt := zt_at 34 (by decide +kernel)
theorem zl_754 : Cond.code yX3_tell cX3_tell 2 (some .int) ∈ zt := zt_at 1052 (by decide +kernel)
theorem zvs_X3_tell : zvS yX3_tell cX3_tell 2 (some .int) 1 := ⟨zl_754, zl_207, ⟨by decide +kernel, by decide +kernel, by decide +kernel⟩, by decide⟩
theorem zl_755 : Cond.methodLink RX11 198 yX3_tell ∈ zt := zt_at 1049 (by decide +kernel)
theorem zl_756 : Cond.instanceMethod yX3_tell ∈ zt := zt_at 1050 (by decide +kernel)
theorem zl_757 : Cond.selects RX3 yX3_tell yX3_tell ∈ zt := zt_at 1051 (by decide +kernel)
theorem dX11_lesson_0 : decode cX11_lesson 0 = .ok (.aload_n 0, 1) := by decide +kernel
theorem dX11_lesson_1 : decode cX11_lesson 1 = .ok (.iload_n 1, 1) := by decide +kernel
theorem dX11_lesson_2 : decode cX11_lesson 2 = .ok (.invokevirtual 194, 3) := by decide +kernel
theorem dX11_lesson_5 : decode cX11_lesson 5 = .ok (.astore_n 3, 1) := by decide +kernel
theorem dX11_lesson_6 : decode cX11_lesson 6 = .ok (.aload_n 3, 1) := by decide +kernel
theorem dX11_lesson_7 : decode cX11_lesson 7 = .ok (.ifnonnull 7, 3) := by decide +kernel
theorem dX11_lesson_10 : decode cX11_lesson 10 = .ok (.iconst (-1), 1) := by decide +kernel
theorem dX11_lesson_11 : decode cX11_lesson 11 = .ok (.goto 8, 3) := by decide +kernel
theorem dX11_lesson_14 : decode cX11_lesson 14 = .ok (.aload_n 3, 1) := by decide +kernel
theorem dX11_lesson_15 : decode cX11_lesson 15 = .ok (.iload_n 2, 1) := by decide +kernel
theorem dX11_lesson_16 : decode cX11_lesson 16 = .ok (.invokevirtual 198, 3) := by decide +kernel
theorem dX11_lesson_19 : decode cX11_lesson 19 = .ok (.ireturn, 1) := by decide +kernel
noncomputable def fX11_lesson (μ : zM) (x0 : Nat) (x1 : Int32) (x2 : Int32) : Option (Int32) := zgd (zm_ck μ 11 x0) <|
  zb1 (fX11_lessonAt μ x0 x1) fun v2 =>
  zb1 (zmo v2 (
  some (-1)) fun a5 =>
  zb1 (fX3_tell μ a5 x2) fun v7 =>
  some v7 : Option (Int32)) fun (s3 : Int32) =>
  some s3
theorem fX11_lesson_ck {μ : zM} {x0 : Nat} {x1 : Int32} {x2 : Int32} {z : Int32} (h : fX11_lesson μ x0 x1 x2 = some z) : zm_ck μ 11 x0 = true := (zgd_s h).1
set_option maxHeartbeats 4000000 in
set_option maxRecDepth 100000 in
theorem cX11_lesson_ok {μ : zM} {x0 : Nat} {x1 : Int32} {x2 : Int32} {r : Int32} (hf : fX11_lesson μ x0 x1 x2 = some r) : zC yX11_lesson cX11_lesson 4 (some .int) 1 0 0 [.ref x0, .int x1, .int x2] μ (some (.int r)) μ := by
  replace hf := (zgd_s hf).2
  refine zC.of (by decide) (Nat.le_of_ble_eq_true rfl) (fun K hin => ?_)
  clear hin
  show zz K cX11_lesson (4, RX11, some .int, 1, 0, 0, some (.int r), μ) 0 0 0 [(0, .ref x0), (1, .int x1), (2, .int x2)] [] μ
  refine zr_aload_n 0 dX11_lesson_0 rfl ?_
  refine zr_iload_n 1 dX11_lesson_1 rfl ?_
  replace hf := zb1_s hf
  obtain ⟨v2, h1, hf⟩ := hf
  refine zr_callV (ci := 11) [.int x1] (cX11_lessonAt_ok h1) zvs_X11_lessonAt zl_752 zl_753 (fX11_lessonAt_ck h1) rfl rfl zl_751 rfl (Nat.le_of_ble_eq_true rfl) (Nat.le_of_ble_eq_true rfl) (Nat.le_of_ble_eq_true rfl) (Nat.le_of_ble_eq_true rfl) dX11_lesson_2 rfl ?_
  refine zr_ostore_n [(3, va_rf v2), (0, .ref x0), (1, .int x1), (2, .int x2)] dX11_lesson_5 (Nat.le_of_ble_eq_true rfl) rfl ?_
  refine zr_oload_n 0 dX11_lesson_6 rfl ?_
  replace hf := zb1_s hf
  obtain ⟨s3, hg, hf⟩ := hf
  have hj4 : zz K cX11_lesson (4, RX11, some .int, 1, 0, 0, some (.int r), μ) 0 0 19 [] [.int s3] μ := by
    cases hf
    exact zr_iret dX11_lesson_19
  clear hf
  have hf := hg
  clear hg
  cases v2 with
  | none =>
    replace hf := zmo_n hf
    refine zr_ifnonnull_n dX11_lesson_7 ?_
    refine zr_iconst (-1) dX11_lesson_10 (by decide) ?_
    refine zr_goto 19 dX11_lesson_11 (by decide) ?_
    cases hf
    exact zr_lv [] rfl hj4
  | some a5 =>
    replace hf := zmo_s hf
    refine zr_ifnonnull_r 14 dX11_lesson_7 (by decide) ?_
    refine zr_aload_n 0 dX11_lesson_14 rfl ?_
    refine zr_iload_n 3 dX11_lesson_15 rfl ?_
    replace hf := zb1_s hf
    obtain ⟨v7, h6, hf⟩ := hf
    refine zr_callV (ci := 3) [.int x2] (cX3_tell_ok h6) zvs_X3_tell zl_756 zl_757 (fX3_tell_ck h6) rfl rfl zl_755 rfl (Nat.le_of_ble_eq_true rfl) (Nat.le_of_ble_eq_true rfl) (Nat.le_of_ble_eq_true rfl) (Nat.le_of_ble_eq_true rfl) dX11_lesson_16 rfl ?_
    cases hf
    exact zr_lv [] rfl hj4
theorem zl_758 : Cond.methodLink RX11 201 yX3_fits ∈ zt := zt_at 1057 (by decide +kernel)
theorem zl_759 : Cond.code yX3_bestRule cX3_bestRule 3 (some .int) ∈ zt := zt_at 1071 (by decide +kernel)
theorem zvs_X3_bestRule : zvS yX3_bestRule cX3_bestRule 3 (some .int) 0 := ⟨zl_759, zl_207, ⟨by decide +kernel, by decide +kernel, by decide +kernel⟩, by decide⟩
theorem zl_760 : Cond.methodLink RX11 205 yX3_bestRule ∈ zt := zt_at 1068 (by decide +kernel)
theorem zl_761 : Cond.instanceMethod yX3_bestRule ∈ zt := zt_at 1069 (by decide +kernel)
theorem zl_762 : Cond.selects RX3 yX3_bestRule yX3_bestRule ∈ zt := zt_at 1070 (by decide +kernel)
theorem zl_763 : Cond.methodLink RX11 208 yX3_misses ∈ zt := zt_at 1072 (by decide +kernel)
theorem zl_764 : Cond.code yX3_wordToCall cX3_wordToCall 5 (some .int) ∈ zt := zt_at 1076 (by decide +kernel)
theorem zvs_X3_wordToCall : zvS yX3_wordToCall cX3_wordToCall 5 (some .int) 0 := ⟨zl_764, zl_207, ⟨by decide +kernel, by decide +kernel, by decide +kernel⟩, by decide⟩
theorem zl_765 : Cond.methodLink RX11 211 yX3_wordToCall ∈ zt := zt_at 1073 (by decide +kernel)
theorem zl_766 : Cond.instanceMethod yX3_wordToCall ∈ zt := zt_at 1074 (by decide +kernel)
theorem zl_767 : Cond.selects RX3 yX3_wordToCall yX3_wordToCall ∈ zt := zt_at 1075 (by decide +kernel)
theorem zl_768 : Cond.code yX3_surelyComes cX3_surelyComes 5 (some .int) ∈ zt := zt_at 1090 (by decide +kernel)
theorem zvs_X3_surelyComes : zvS yX3_surelyComes cX3_surelyComes 5 (some .int) 1 := ⟨zl_768, zl_207, ⟨by decide +kernel, by decide +kernel, by decide +kernel⟩, by decide⟩
theorem zl_769 : Cond.methodLink RX11 214 yX3_surelyComes ∈ zt := zt_at 1087 (by decide +kernel)
theorem zl_770 : Cond.instanceMethod yX3_surelyComes ∈ zt := zt_at 1088 (by decide +kernel)
theorem zl_771 : Cond.selects RX3 yX3_surelyComes yX3_surelyComes ∈ zt := zt_at 1089 (by decide +kernel)
theorem dX11_rules_0 : decode cX11_rules 0 = .ok (.aload_n 0, 1) := by decide +kernel
theorem dX11_rules_1 : decode cX11_rules 1 = .ok (.iload_n 1, 1) := by decide +kernel
theorem dX11_rules_2 : decode cX11_rules 2 = .ok (.invokevirtual 194, 3) := by decide +kernel
theorem dX11_rules_5 : decode cX11_rules 5 = .ok (.astore_n 3, 1) := by decide +kernel
theorem dX11_rules_6 : decode cX11_rules 6 = .ok (.aload_n 3, 1) := by decide +kernel
theorem dX11_rules_7 : decode cX11_rules 7 = .ok (.ifnonnull 6, 3) := by decide +kernel
theorem dX11_rules_10 : decode cX11_rules 10 = .ok (.bipush (-2), 2) := by decide +kernel
theorem dX11_rules_12 : decode cX11_rules 12 = .ok (.ireturn, 1) := by decide +kernel
theorem dX11_rules_13 : decode cX11_rules 13 = .ok (.iload_n 2, 1) := by decide +kernel
theorem dX11_rules_14 : decode cX11_rules 14 = .ok (.tableswitch 54 0 3 #[30, 35, 44, 49], 30) := by decide +kernel
theorem dX11_rules_44 : decode cX11_rules 44 = .ok (.aload_n 3, 1) := by decide +kernel
theorem dX11_rules_45 : decode cX11_rules 45 = .ok (.invokevirtual 201, 3) := by decide +kernel
theorem dX11_rules_48 : decode cX11_rules 48 = .ok (.ireturn, 1) := by decide +kernel
theorem dX11_rules_49 : decode cX11_rules 49 = .ok (.aload_n 3, 1) := by decide +kernel
theorem dX11_rules_50 : decode cX11_rules 50 = .ok (.aload_n 3, 1) := by decide +kernel
theorem dX11_rules_51 : decode cX11_rules 51 = .ok (.invokevirtual 205, 3) := by decide +kernel
theorem dX11_rules_54 : decode cX11_rules 54 = .ok (.invokevirtual 208, 3) := by decide +kernel
theorem dX11_rules_57 : decode cX11_rules 57 = .ok (.ireturn, 1) := by decide +kernel
theorem dX11_rules_58 : decode cX11_rules 58 = .ok (.aload_n 3, 1) := by decide +kernel
theorem dX11_rules_59 : decode cX11_rules 59 = .ok (.invokevirtual 205, 3) := by decide +kernel
theorem dX11_rules_62 : decode cX11_rules 62 = .ok (.ireturn, 1) := by decide +kernel
theorem dX11_rules_63 : decode cX11_rules 63 = .ok (.aload_n 3, 1) := by decide +kernel
theorem dX11_rules_64 : decode cX11_rules 64 = .ok (.invokevirtual 211, 3) := by decide +kernel
theorem dX11_rules_67 : decode cX11_rules 67 = .ok (.ireturn, 1) := by decide +kernel
theorem dX11_rules_68 : decode cX11_rules 68 = .ok (.iload_n 2, 1) := by decide +kernel
theorem dX11_rules_69 : decode cX11_rules 69 = .ok (.bipush 10, 2) := by decide +kernel
theorem dX11_rules_71 : decode cX11_rules 71 = .ok (.isub, 1) := by decide +kernel
theorem dX11_rules_72 : decode cX11_rules 72 = .ok (.invokestatic 103, 3) := by decide +kernel
theorem dX11_rules_75 : decode cX11_rules 75 = .ok (.ifCond .eq 14, 3) := by decide +kernel
theorem dX11_rules_78 : decode cX11_rules 78 = .ok (.aload_n 3, 1) := by decide +kernel
theorem dX11_rules_79 : decode cX11_rules 79 = .ok (.iload_n 2, 1) := by decide +kernel
theorem dX11_rules_80 : decode cX11_rules 80 = .ok (.bipush 10, 2) := by decide +kernel
theorem dX11_rules_82 : decode cX11_rules 82 = .ok (.isub, 1) := by decide +kernel
theorem dX11_rules_83 : decode cX11_rules 83 = .ok (.invokevirtual 214, 3) := by decide +kernel
theorem dX11_rules_86 : decode cX11_rules 86 = .ok (.goto 5, 3) := by decide +kernel
theorem dX11_rules_89 : decode cX11_rules 89 = .ok (.bipush (-2), 2) := by decide +kernel
theorem dX11_rules_91 : decode cX11_rules 91 = .ok (.ireturn, 1) := by decide +kernel
noncomputable def fX11_rules (μ : zM) (x0 : Nat) (x1 : Int32) (x2 : Int32) : Option (Int32) := zgd (zm_ck μ 11 x0) <|
  zb1 (fX11_lessonAt μ x0 x1) fun v2 =>
  zmo v2 (
  some (-2)) fun a3 =>
  if x2 = 0 then (
  zb1 (fX3_fits μ a3) fun v5 =>
  some v5)
  else (
  if x2 = 1 then (
  zb1 (fX3_bestRule μ a3) fun v8 =>
  zb1 (fX3_misses μ a3 v8) fun v10 =>
  some v10)
  else (
  if x2 = 2 then (
  zb1 (fX3_bestRule μ a3) fun v13 =>
  some v13)
  else (
  if x2 = 3 then (
  zb1 (fX3_wordToCall μ a3) fun v16 =>
  some v16)
  else (
  zb1 (fX11_isWord μ (x2 - 10)) fun v19 =>
  zb1 (if v19 = 0 then (
  some (-2))
  else (
  zb1 (fX3_surelyComes μ a3 (x2 - 10)) fun v23 =>
  some v23) : Option (Int32)) fun (s20 : Int32) =>
  some s20))))
theorem fX11_rules_ck {μ : zM} {x0 : Nat} {x1 : Int32} {x2 : Int32} {z : Int32} (h : fX11_rules μ x0 x1 x2 = some z) : zm_ck μ 11 x0 = true := (zgd_s h).1
set_option maxHeartbeats 4000000 in
set_option maxRecDepth 100000 in
theorem cX11_rules_ok {μ : zM} {x0 : Nat} {x1 : Int32} {x2 : Int32} {r : Int32} (hf : fX11_rules μ x0 x1 x2 = some r) : zC yX11_rules cX11_rules 4 (some .int) 5 0 0 [.ref x0, .int x1, .int x2] μ (some (.int r)) μ := by
  replace hf := (zgd_s hf).2
  refine zC.of (by decide) (Nat.le_of_ble_eq_true rfl) (fun K hin => ?_)
  clear hin
  show zz K cX11_rules (4, RX11, some .int, 5, 0, 0, some (.int r), μ) 0 0 0 [(0, .ref x0), (1, .int x1), (2, .int x2)] [] μ
  refine zr_aload_n 0 dX11_rules_0 rfl ?_
  refine zr_iload_n 1 dX11_rules_1 rfl ?_
  replace hf := zb1_s hf
  obtain ⟨v2, h1, hf⟩ := hf
  refine zr_callV (ci := 11) [.int x1] (cX11_lessonAt_ok h1) zvs_X11_lessonAt zl_752 zl_753 (fX11_lessonAt_ck h1) rfl rfl zl_751 rfl (Nat.le_of_ble_eq_true rfl) (Nat.le_of_ble_eq_true rfl) (Nat.le_of_ble_eq_true rfl) (Nat.le_of_ble_eq_true rfl) dX11_rules_2 rfl ?_
  refine zr_ostore_n [(3, va_rf v2), (0, .ref x0), (1, .int x1), (2, .int x2)] dX11_rules_5 (Nat.le_of_ble_eq_true rfl) rfl ?_
  refine zr_oload_n 0 dX11_rules_6 rfl ?_
  cases v2 with
  | none =>
    replace hf := zmo_n hf
    refine zr_ifnonnull_n dX11_rules_7 ?_
    refine zr_bipush (-2) dX11_rules_10 (by decide) ?_
    cases hf
    exact zr_iret dX11_rules_12
  | some a3 =>
    replace hf := zmo_s hf
    refine zr_ifnonnull_r 13 dX11_rules_7 (by decide) ?_
    refine zr_iload_n 3 dX11_rules_13 rfl ?_
    rcases zdec (x2 = 0) with hs6 | hs6
    · rw [if_pos hs6] at hf
      refine zr_tableIn (off := 30) 44 dX11_rules_14 (by rw [hs6]; decide) (by rw [hs6]; decide) (by rw [hs6]; rfl) (by decide) ?_
      refine zr_aload_n 0 dX11_rules_44 rfl ?_
      replace hf := zb1_s hf
      obtain ⟨v5, h4, hf⟩ := hf
      refine zr_callV (ci := 3) [] (cX3_fits_ok h4) zvs_X3_fits zl_221 zl_222 (fX3_fits_ck h4) rfl rfl zl_758 rfl (Nat.le_of_ble_eq_true rfl) (Nat.le_of_ble_eq_true rfl) (Nat.le_of_ble_eq_true rfl) (Nat.le_of_ble_eq_true rfl) dX11_rules_45 rfl ?_
      cases hf
      exact zr_iret dX11_rules_48
    rw [if_neg hs6] at hf
    rcases zdec (x2 = 1) with hs11 | hs11
    · rw [if_pos hs11] at hf
      refine zr_tableIn (off := 35) 49 dX11_rules_14 (by rw [hs11]; decide) (by rw [hs11]; decide) (by rw [hs11]; rfl) (by decide) ?_
      refine zr_aload_n 0 dX11_rules_49 rfl ?_
      refine zr_aload_n 0 dX11_rules_50 rfl ?_
      replace hf := zb1_s hf
      obtain ⟨v8, h7, hf⟩ := hf
      refine zr_callV (ci := 3) [] (cX3_bestRule_ok h7) zvs_X3_bestRule zl_761 zl_762 (fX3_bestRule_ck h7) rfl rfl zl_760 rfl (Nat.le_of_ble_eq_true rfl) (Nat.le_of_ble_eq_true rfl) (Nat.le_of_ble_eq_true rfl) (Nat.le_of_ble_eq_true rfl) dX11_rules_51 rfl ?_
      replace hf := zb1_s hf
      obtain ⟨v10, h9, hf⟩ := hf
      refine zr_callV (ci := 3) [.int v8] (cX3_misses_ok h9) zvs_X3_misses zl_212 zl_213 (fX3_misses_ck h9) rfl rfl zl_763 rfl (Nat.le_of_ble_eq_true rfl) (Nat.le_of_ble_eq_true rfl) (Nat.le_of_ble_eq_true rfl) (Nat.le_of_ble_eq_true rfl) dX11_rules_54 rfl ?_
      cases hf
      exact zr_iret dX11_rules_57
    rw [if_neg hs11] at hf
    rcases zdec (x2 = 2) with hs14 | hs14
    · rw [if_pos hs14] at hf
      refine zr_tableIn (off := 44) 58 dX11_rules_14 (by rw [hs14]; decide) (by rw [hs14]; decide) (by rw [hs14]; rfl) (by decide) ?_
      refine zr_aload_n 0 dX11_rules_58 rfl ?_
      replace hf := zb1_s hf
      obtain ⟨v13, h12, hf⟩ := hf
      refine zr_callV (ci := 3) [] (cX3_bestRule_ok h12) zvs_X3_bestRule zl_761 zl_762 (fX3_bestRule_ck h12) rfl rfl zl_760 rfl (Nat.le_of_ble_eq_true rfl) (Nat.le_of_ble_eq_true rfl) (Nat.le_of_ble_eq_true rfl) (Nat.le_of_ble_eq_true rfl) dX11_rules_59 rfl ?_
      cases hf
      exact zr_iret dX11_rules_62
    rw [if_neg hs14] at hf
    rcases zdec (x2 = 3) with hs17 | hs17
    · rw [if_pos hs17] at hf
      refine zr_tableIn (off := 49) 63 dX11_rules_14 (by rw [hs17]; decide) (by rw [hs17]; decide) (by rw [hs17]; rfl) (by decide) ?_
      refine zr_aload_n 0 dX11_rules_63 rfl ?_
      replace hf := zb1_s hf
      obtain ⟨v16, h15, hf⟩ := hf
      refine zr_callV (ci := 3) [] (cX3_wordToCall_ok h15) zvs_X3_wordToCall zl_766 zl_767 (fX3_wordToCall_ck h15) rfl rfl zl_765 rfl (Nat.le_of_ble_eq_true rfl) (Nat.le_of_ble_eq_true rfl) (Nat.le_of_ble_eq_true rfl) (Nat.le_of_ble_eq_true rfl) dX11_rules_64 rfl ?_
      cases hf
      exact zr_iret dX11_rules_67
    rw [if_neg hs17] at hf
    refine zr_tableOut 68 dX11_rules_14 (by simp only [← Int32.toInt_inj] at hs6 hs11 hs14 hs17; simp at hs6 hs11 hs14 hs17; omega) (by decide) ?_
    refine zr_iload_n 3 dX11_rules_68 rfl ?_
    refine zr_bipush 10 dX11_rules_69 (by decide) ?_
    refine zr_isub dX11_rules_71 ?_
    replace hf := zb1_s hf
    obtain ⟨v19, h18, hf⟩ := hf
    refine zr_callS [.int (x2 - 10)] (cX11_isWord_ok h18) zvs_X11_isWord zl_374 zl_691 rfl (Nat.le_of_ble_eq_true rfl) (Nat.le_of_ble_eq_true rfl) (Nat.le_of_ble_eq_true rfl) (Nat.le_of_ble_eq_true rfl) dX11_rules_72 rfl ?_
    replace hf := zb1_s hf
    obtain ⟨s20, hg, hf⟩ := hf
    have hj21 : zz K cX11_rules (4, RX11, some .int, 5, 0, 0, some (.int r), μ) 0 0 91 [] [.int s20] μ := by
      cases hf
      exact zr_iret dX11_rules_91
    clear hf
    have hf := hg
    clear hg
    refine zr_if_eq 89 dX11_rules_75 (by decide) (fun hc => ?_) (fun hc => ?_)
    · rw [if_pos hc] at hf
      refine zr_bipush (-2) dX11_rules_89 (by decide) ?_
      cases hf
      exact zr_lv [] rfl hj21
    · rw [if_neg hc] at hf
      refine zr_aload_n 0 dX11_rules_78 rfl ?_
      refine zr_iload_n 3 dX11_rules_79 rfl ?_
      refine zr_bipush 10 dX11_rules_80 (by decide) ?_
      refine zr_isub dX11_rules_82 ?_
      replace hf := zb1_s hf
      obtain ⟨v23, h22, hf⟩ := hf
      refine zr_callV (ci := 3) [.int (x2 - 10)] (cX3_surelyComes_ok h22) zvs_X3_surelyComes zl_770 zl_771 (fX3_surelyComes_ck h22) rfl rfl zl_769 rfl (Nat.le_of_ble_eq_true rfl) (Nat.le_of_ble_eq_true rfl) (Nat.le_of_ble_eq_true rfl) (Nat.le_of_ble_eq_true rfl) dX11_rules_83 rfl ?_
      refine zr_goto 91 dX11_rules_86 (by decide) ?_
      cases hf
      exact zr_lv [] rfl hj21
theorem zl_772 : Cond.fieldLink RX11 337 "TwoEchoes$Told" "sights" "[LTwoEchoes$Sight;" ∈ zt := zt_at 332 (by decide +kernel)
theorem dX11_sightAt_0 : decode cX11_sightAt 0 = .ok (.iload_n 1, 1) := by decide +kernel
theorem dX11_sightAt_1 : decode cX11_sightAt 1 = .ok (.ifCond .lt 16, 3) := by decide +kernel
theorem dX11_sightAt_4 : decode cX11_sightAt 4 = .ok (.iload_n 1, 1) := by decide +kernel
theorem dX11_sightAt_5 : decode cX11_sightAt 5 = .ok (.aload_n 0, 1) := by decide +kernel
theorem dX11_sightAt_6 : decode cX11_sightAt 6 = .ok (.getfield 10, 3) := by decide +kernel
theorem dX11_sightAt_9 : decode cX11_sightAt 9 = .ok (.getfield 318, 3) := by decide +kernel
theorem dX11_sightAt_12 : decode cX11_sightAt 12 = .ok (.iconst 3, 1) := by decide +kernel
theorem dX11_sightAt_13 : decode cX11_sightAt 13 = .ok (.iaload, 1) := by decide +kernel
theorem dX11_sightAt_14 : decode cX11_sightAt 14 = .ok (.if_icmp .lt 7, 3) := by decide +kernel
theorem dX11_sightAt_17 : decode cX11_sightAt 17 = .ok (.aconst_null, 1) := by decide +kernel
theorem dX11_sightAt_18 : decode cX11_sightAt 18 = .ok (.goto 12, 3) := by decide +kernel
theorem dX11_sightAt_21 : decode cX11_sightAt 21 = .ok (.aload_n 0, 1) := by decide +kernel
theorem dX11_sightAt_22 : decode cX11_sightAt 22 = .ok (.getfield 10, 3) := by decide +kernel
theorem dX11_sightAt_25 : decode cX11_sightAt 25 = .ok (.getfield 337, 3) := by decide +kernel
theorem dX11_sightAt_28 : decode cX11_sightAt 28 = .ok (.iload_n 1, 1) := by decide +kernel
theorem dX11_sightAt_29 : decode cX11_sightAt 29 = .ok (.aaload, 1) := by decide +kernel
theorem dX11_sightAt_30 : decode cX11_sightAt 30 = .ok (.areturn, 1) := by decide +kernel
noncomputable def fX11_sightAt (μ : zM) (x0 : Nat) (x1 : Int32) : Option (Option Nat) := zgd (zm_ck μ 11 x0) <|
  zb1 (if x1 < 0 then (
  some none)
  else (
  zb1 (zm_gR μ 11 x0 0) fun v3 =>
  zb1 (zm_gR μ 7 v3 4) fun v5 =>
  zb1 (zm_aI μ 0 v5 3) fun v7 =>
  if x1 < v7 then (
  zb1 (zm_gR μ 11 x0 0) fun v9 =>
  zb1 (zm_gR μ 7 v9 8) fun v11 =>
  zb1 (zm_aQ μ 7 v11 x1) fun v13 =>
  some v13)
  else (
  some none)) : Option ((Option Nat))) fun (s1 : Option Nat) =>
  some s1
theorem fX11_sightAt_ck {μ : zM} {x0 : Nat} {x1 : Int32} {z : Option Nat} (h : fX11_sightAt μ x0 x1 = some z) : zm_ck μ 11 x0 = true := (zgd_s h).1
set_option maxHeartbeats 4000000 in
set_option maxRecDepth 100000 in
theorem cX11_sightAt_ok {μ : zM} {x0 : Nat} {x1 : Int32} {r : Option Nat} (hf : fX11_sightAt μ x0 x1 = some r) : zC yX11_sightAt cX11_sightAt 2 (some (.object "TwoEchoes$Sight")) 0 0 0 [.ref x0, .int x1] μ (some (va_rf r)) μ := by
  replace hf := (zgd_s hf).2
  refine zC.of (by decide) (Nat.le_of_ble_eq_true rfl) (fun K hin => ?_)
  clear hin
  show zz K cX11_sightAt (2, RX11, some (.object "TwoEchoes$Sight"), 0, 0, 0, some (va_rf r), μ) 0 0 0 [(0, .ref x0), (1, .int x1)] [] μ
  refine zr_iload_n 1 dX11_sightAt_0 rfl ?_
  replace hf := zb1_s hf
  obtain ⟨s1, hg, hf⟩ := hf
  have hj2 : zz K cX11_sightAt (2, RX11, some (.object "TwoEchoes$Sight"), 0, 0, 0, some (va_rf r), μ) 0 0 30 [] [va_rf s1] μ := by
    cases hf
    exact zr_aret dX11_sightAt_30
  clear hf
  have hf := hg
  clear hg
  refine zr_if_lt 17 dX11_sightAt_1 (by decide) (fun hc => ?_) (fun hc => ?_)
  · rw [if_pos hc] at hf
    refine zr_null dX11_sightAt_17 ?_
    refine zr_goto 30 dX11_sightAt_18 (by decide) ?_
    cases hf
    exact zr_lv [] rfl hj2
  · rw [if_neg hc] at hf
    refine zr_iload_n 1 dX11_sightAt_4 rfl ?_
    refine zr_aload_n 0 dX11_sightAt_5 rfl ?_
    replace hf := zb1_s hf
    obtain ⟨v3, h4, hf⟩ := hf
    refine zr_get (zm_gR_g h4) zk11 (by decide) zl_626 dX11_sightAt_6 ?_
    replace hf := zb1_s hf
    obtain ⟨v5, h6, hf⟩ := hf
    refine zr_get (zm_gR_g h6) zk7 (by decide) zl_680 dX11_sightAt_9 ?_
    refine zr_iconst 3 dX11_sightAt_12 (by decide) ?_
    replace hf := zb1_s hf
    obtain ⟨v7, h8, hf⟩ := hf
    refine zr_iald h8 dX11_sightAt_13 ?_
    refine zr_icmp_lt 21 dX11_sightAt_14 (by decide) (fun hc => ?_) (fun hc => ?_)
    · rw [if_pos hc] at hf
      refine zr_aload_n 0 dX11_sightAt_21 rfl ?_
      replace hf := zb1_s hf
      obtain ⟨v9, h10, hf⟩ := hf
      refine zr_get (zm_gR_g h10) zk11 (by decide) zl_626 dX11_sightAt_22 ?_
      replace hf := zb1_s hf
      obtain ⟨v11, h12, hf⟩ := hf
      refine zr_get (zm_gR_g h12) zk7 (by decide) zl_772 dX11_sightAt_25 ?_
      refine zr_iload_n 1 dX11_sightAt_28 rfl ?_
      replace hf := zb1_s hf
      obtain ⟨v13, h14, hf⟩ := hf
      refine zr_aald h14 (by decide) rfl dX11_sightAt_29 ?_
      cases hf
      exact zr_lv [] rfl hj2
    · rw [if_neg hc] at hf
      refine zr_null dX11_sightAt_17 ?_
      refine zr_goto 30 dX11_sightAt_18 (by decide) ?_
      cases hf
      exact zr_lv [] rfl hj2
theorem zl_773 : Cond.code yX11_sightAt cX11_sightAt 2 (some (.object "TwoEchoes$Sight")) ∈ zt := zt_at 1098 (by decide +kernel)
theorem zvs_X11_sightAt : zvS yX11_sightAt cX11_sightAt 2 (some (.object "TwoEchoes$Sight")) 1 := ⟨zl_773, zl_118, ⟨by decide +kernel, by decide +kernel, by decide +kernel⟩, by decide⟩
theorem zl_774 : Cond.methodLink RX11 217 yX11_sightAt ∈ zt := zt_at 1095 (by decide +kernel)
theorem zl_775 : Cond.instanceMethod yX11_sightAt ∈ zt := zt_at 1097 (by decide +kernel)
theorem zl_776 : Cond.selects RX11 yX11_sightAt yX11_sightAt ∈ zt := zt_at 37 (by decide +kernel)
theorem zl_777 : Cond.code yX6_tell cX6_tell 3 (some .int) ∈ zt := zt_at 1102 (by decide +kernel)
theorem zvs_X6_tell : zvS yX6_tell cX6_tell 3 (some .int) 2 := ⟨zl_777, zl_262, ⟨by decide +kernel, by decide +kernel, by decide +kernel⟩, by decide⟩
theorem zl_778 : Cond.methodLink RX11 221 yX6_tell ∈ zt := zt_at 1099 (by decide +kernel)
theorem zl_779 : Cond.instanceMethod yX6_tell ∈ zt := zt_at 1100 (by decide +kernel)
theorem zl_780 : Cond.selects RX6 yX6_tell yX6_tell ∈ zt := zt_at 1101 (by decide +kernel)
theorem dX11_fact_0 : decode cX11_fact 0 = .ok (.aload_n 0, 1) := by decide +kernel
theorem dX11_fact_1 : decode cX11_fact 1 = .ok (.iload_n 1, 1) := by decide +kernel
theorem dX11_fact_2 : decode cX11_fact 2 = .ok (.invokevirtual 217, 3) := by decide +kernel
theorem dX11_fact_5 : decode cX11_fact 5 = .ok (.astore 4, 2) := by decide +kernel
theorem dX11_fact_7 : decode cX11_fact 7 = .ok (.aload 4, 2) := by decide +kernel
theorem dX11_fact_9 : decode cX11_fact 9 = .ok (.ifnonnull 8, 3) := by decide +kernel
theorem dX11_fact_12 : decode cX11_fact 12 = .ok (.bipush (-2), 2) := by decide +kernel
theorem dX11_fact_14 : decode cX11_fact 14 = .ok (.goto 10, 3) := by decide +kernel
theorem dX11_fact_17 : decode cX11_fact 17 = .ok (.aload 4, 2) := by decide +kernel
theorem dX11_fact_19 : decode cX11_fact 19 = .ok (.iload_n 2, 1) := by decide +kernel
theorem dX11_fact_20 : decode cX11_fact 20 = .ok (.iload_n 3, 1) := by decide +kernel
theorem dX11_fact_21 : decode cX11_fact 21 = .ok (.invokevirtual 221, 3) := by decide +kernel
theorem dX11_fact_24 : decode cX11_fact 24 = .ok (.ireturn, 1) := by decide +kernel
noncomputable def fX11_fact (μ : zM) (x0 : Nat) (x1 : Int32) (x2 : Int32) (x3 : Int32) : Option (Int32) := zgd (zm_ck μ 11 x0) <|
  zb1 (fX11_sightAt μ x0 x1) fun v2 =>
  zb1 (zmo v2 (
  some (-2)) fun a5 =>
  zb1 (fX6_tell μ a5 x2 x3) fun v7 =>
  some v7 : Option (Int32)) fun (s3 : Int32) =>
  some s3
theorem fX11_fact_ck {μ : zM} {x0 : Nat} {x1 : Int32} {x2 : Int32} {x3 : Int32} {z : Int32} (h : fX11_fact μ x0 x1 x2 x3 = some z) : zm_ck μ 11 x0 = true := (zgd_s h).1
set_option maxHeartbeats 4000000 in
set_option maxRecDepth 100000 in
theorem cX11_fact_ok {μ : zM} {x0 : Nat} {x1 : Int32} {x2 : Int32} {x3 : Int32} {r : Int32} (hf : fX11_fact μ x0 x1 x2 x3 = some r) : zC yX11_fact cX11_fact 5 (some .int) 1 0 0 [.ref x0, .int x1, .int x2, .int x3] μ (some (.int r)) μ := by
  replace hf := (zgd_s hf).2
  refine zC.of (by decide) (Nat.le_of_ble_eq_true rfl) (fun K hin => ?_)
  clear hin
  show zz K cX11_fact (5, RX11, some .int, 1, 0, 0, some (.int r), μ) 0 0 0 [(0, .ref x0), (1, .int x1), (2, .int x2), (3, .int x3)] [] μ
  refine zr_aload_n 0 dX11_fact_0 rfl ?_
  refine zr_iload_n 1 dX11_fact_1 rfl ?_
  replace hf := zb1_s hf
  obtain ⟨v2, h1, hf⟩ := hf
  refine zr_callV (ci := 11) [.int x1] (cX11_sightAt_ok h1) zvs_X11_sightAt zl_775 zl_776 (fX11_sightAt_ck h1) rfl rfl zl_774 rfl (Nat.le_of_ble_eq_true rfl) (Nat.le_of_ble_eq_true rfl) (Nat.le_of_ble_eq_true rfl) (Nat.le_of_ble_eq_true rfl) dX11_fact_2 rfl ?_
  refine zr_ostore [(4, va_rf v2), (0, .ref x0), (1, .int x1), (2, .int x2), (3, .int x3)] dX11_fact_5 (Nat.le_of_ble_eq_true rfl) rfl ?_
  refine zr_oload 0 dX11_fact_7 rfl ?_
  replace hf := zb1_s hf
  obtain ⟨s3, hg, hf⟩ := hf
  have hj4 : zz K cX11_fact (5, RX11, some .int, 1, 0, 0, some (.int r), μ) 0 0 24 [] [.int s3] μ := by
    cases hf
    exact zr_iret dX11_fact_24
  clear hf
  have hf := hg
  clear hg
  cases v2 with
  | none =>
    replace hf := zmo_n hf
    refine zr_ifnonnull_n dX11_fact_9 ?_
    refine zr_bipush (-2) dX11_fact_12 (by decide) ?_
    refine zr_goto 24 dX11_fact_14 (by decide) ?_
    cases hf
    exact zr_lv [] rfl hj4
  | some a5 =>
    replace hf := zmo_s hf
    refine zr_ifnonnull_r 17 dX11_fact_9 (by decide) ?_
    refine zr_aload 0 dX11_fact_17 rfl ?_
    refine zr_iload_n 3 dX11_fact_19 rfl ?_
    refine zr_iload_n 4 dX11_fact_20 rfl ?_
    replace hf := zb1_s hf
    obtain ⟨v7, h6, hf⟩ := hf
    refine zr_callV (ci := 6) [.int x2, .int x3] (cX6_tell_ok h6) zvs_X6_tell zl_779 zl_780 (fX6_tell_ck h6) rfl rfl zl_778 rfl (Nat.le_of_ble_eq_true rfl) (Nat.le_of_ble_eq_true rfl) (Nat.le_of_ble_eq_true rfl) (Nat.le_of_ble_eq_true rfl) dX11_fact_21 rfl ?_
    cases hf
    exact zr_lv [] rfl hj4
theorem zl_781 : Cond.code yX6_isWithin cX6_isWithin 3 (some .boolean) ∈ zt := zt_at 1110 (by decide +kernel)
theorem zvs_X6_isWithin : zvS yX6_isWithin cX6_isWithin 3 (some .boolean) 1 := ⟨zl_781, zl_262, ⟨by decide +kernel, by decide +kernel, by decide +kernel⟩, by decide⟩
theorem zl_782 : Cond.methodLink RX11 224 yX6_isWithin ∈ zt := zt_at 1107 (by decide +kernel)
theorem zl_783 : Cond.instanceMethod yX6_isWithin ∈ zt := zt_at 1108 (by decide +kernel)
theorem zl_784 : Cond.selects RX6 yX6_isWithin yX6_isWithin ∈ zt := zt_at 1109 (by decide +kernel)
theorem zl_785 : Cond.code yX5_numbered cX5_numbered 8 (some .int) ∈ zt := zt_at 1133 (by decide +kernel)
theorem zvs_X5_numbered : zvS yX5_numbered cX5_numbered 8 (some .int) 3 := ⟨zl_785, zl_457, ⟨by decide +kernel, by decide +kernel, by decide +kernel⟩, by decide⟩
theorem zl_786 : Cond.methodLink RX11 232 yX5_numbered ∈ zt := zt_at 1131 (by decide +kernel)
theorem zl_787 : Cond.static yX5_numbered ∈ zt := zt_at 1132 (by decide +kernel)
theorem zl_788 : Cond.code yX5_howMany cX5_howMany 4 (some .int) ∈ zt := zt_at 1114 (by decide +kernel)
theorem zvs_X5_howMany : zvS yX5_howMany cX5_howMany 4 (some .int) 2 := ⟨zl_788, zl_457, ⟨by decide +kernel, by decide +kernel, by decide +kernel⟩, by decide⟩
theorem zl_789 : Cond.methodLink RX11 228 yX5_howMany ∈ zt := zt_at 1112 (by decide +kernel)
theorem zl_790 : Cond.static yX5_howMany ∈ zt := zt_at 1113 (by decide +kernel)
theorem dX11_said_0 : decode cX11_said 0 = .ok (.aload_n 0, 1) := by decide +kernel
theorem dX11_said_1 : decode cX11_said 1 = .ok (.iload_n 1, 1) := by decide +kernel
theorem dX11_said_2 : decode cX11_said 2 = .ok (.invokevirtual 89, 3) := by decide +kernel
theorem dX11_said_5 : decode cX11_said 5 = .ok (.astore 4, 2) := by decide +kernel
theorem dX11_said_7 : decode cX11_said 7 = .ok (.aload_n 0, 1) := by decide +kernel
theorem dX11_said_8 : decode cX11_said 8 = .ok (.iload_n 2, 1) := by decide +kernel
theorem dX11_said_9 : decode cX11_said 9 = .ok (.invokevirtual 217, 3) := by decide +kernel
theorem dX11_said_12 : decode cX11_said 12 = .ok (.astore 5, 2) := by decide +kernel
theorem dX11_said_14 : decode cX11_said 14 = .ok (.aload 4, 2) := by decide +kernel
theorem dX11_said_16 : decode cX11_said 16 = .ok (.ifnull 18, 3) := by decide +kernel
theorem dX11_said_19 : decode cX11_said 19 = .ok (.aload 5, 2) := by decide +kernel
theorem dX11_said_21 : decode cX11_said 21 = .ok (.ifnull 13, 3) := by decide +kernel
theorem dX11_said_24 : decode cX11_said 24 = .ok (.aload 5, 2) := by decide +kernel
theorem dX11_said_26 : decode cX11_said 26 = .ok (.aload 4, 2) := by decide +kernel
theorem dX11_said_28 : decode cX11_said 28 = .ok (.invokevirtual 224, 3) := by decide +kernel
theorem dX11_said_31 : decode cX11_said 31 = .ok (.ifCond .ne 5, 3) := by decide +kernel
theorem dX11_said_34 : decode cX11_said 34 = .ok (.iconst (-1), 1) := by decide +kernel
theorem dX11_said_35 : decode cX11_said 35 = .ok (.ireturn, 1) := by decide +kernel
theorem dX11_said_36 : decode cX11_said 36 = .ok (.iload_n 3, 1) := by decide +kernel
theorem dX11_said_37 : decode cX11_said 37 = .ok (.iconst (-1), 1) := by decide +kernel
theorem dX11_said_38 : decode cX11_said 38 = .ok (.if_icmp .ne 13, 3) := by decide +kernel
theorem dX11_said_41 : decode cX11_said 41 = .ok (.aload 4, 2) := by decide +kernel
theorem dX11_said_43 : decode cX11_said 43 = .ok (.aload 5, 2) := by decide +kernel
theorem dX11_said_45 : decode cX11_said 45 = .ok (.invokestatic 228, 3) := by decide +kernel
theorem dX11_said_48 : decode cX11_said 48 = .ok (.goto 11, 3) := by decide +kernel
theorem dX11_said_51 : decode cX11_said 51 = .ok (.aload 4, 2) := by decide +kernel
theorem dX11_said_53 : decode cX11_said 53 = .ok (.aload 5, 2) := by decide +kernel
theorem dX11_said_55 : decode cX11_said 55 = .ok (.iload_n 3, 1) := by decide +kernel
theorem dX11_said_56 : decode cX11_said 56 = .ok (.invokestatic 232, 3) := by decide +kernel
theorem dX11_said_59 : decode cX11_said 59 = .ok (.ireturn, 1) := by decide +kernel
noncomputable def fX11_said (μ : zM) (x0 : Nat) (x1 : Int32) (x2 : Int32) (x3 : Int32) : Option (Int32) := zgd (zm_ck μ 11 x0) <|
  zb1 (fX11_valleyAt μ x0 x1) fun v2 =>
  zb1 (fX11_sightAt μ x0 x2) fun v4 =>
  zmo v2 (
  some (-1)) fun a5 =>
  zmo v4 (
  some (-1)) fun a6 =>
  zb1 (fX6_isWithin μ a6 a5) fun v8 =>
  if v8 = 0 then (
  some (-1))
  else (
  zb1 (if x3 = (-1) then (
  zb1 (fX5_howMany μ a5 a6) fun v14 =>
  some v14)
  else (
  zb1 (fX5_numbered μ a5 a6 x3) fun v12 =>
  some v12) : Option (Int32)) fun (s9 : Int32) =>
  some s9)
theorem fX11_said_ck {μ : zM} {x0 : Nat} {x1 : Int32} {x2 : Int32} {x3 : Int32} {z : Int32} (h : fX11_said μ x0 x1 x2 x3 = some z) : zm_ck μ 11 x0 = true := (zgd_s h).1
set_option maxHeartbeats 4000000 in
set_option maxRecDepth 100000 in
theorem cX11_said_ok {μ : zM} {x0 : Nat} {x1 : Int32} {x2 : Int32} {x3 : Int32} {r : Int32} (hf : fX11_said μ x0 x1 x2 x3 = some r) : zC yX11_said cX11_said 6 (some .int) 6 0 0 [.ref x0, .int x1, .int x2, .int x3] μ (some (.int r)) μ := by
  replace hf := (zgd_s hf).2
  refine zC.of (by decide) (Nat.le_of_ble_eq_true rfl) (fun K hin => ?_)
  clear hin
  show zz K cX11_said (6, RX11, some .int, 6, 0, 0, some (.int r), μ) 0 0 0 [(0, .ref x0), (1, .int x1), (2, .int x2), (3, .int x3)] [] μ
  refine zr_aload_n 0 dX11_said_0 rfl ?_
  refine zr_iload_n 1 dX11_said_1 rfl ?_
  replace hf := zb1_s hf
  obtain ⟨v2, h1, hf⟩ := hf
  refine zr_callV (ci := 11) [.int x1] (cX11_valleyAt_ok h1) zvs_X11_valleyAt zl_684 zl_685 (fX11_valleyAt_ck h1) rfl rfl zl_683 rfl (Nat.le_of_ble_eq_true rfl) (Nat.le_of_ble_eq_true rfl) (Nat.le_of_ble_eq_true rfl) (Nat.le_of_ble_eq_true rfl) dX11_said_2 rfl ?_
  refine zr_ostore [(4, va_rf v2), (0, .ref x0), (1, .int x1), (2, .int x2), (3, .int x3)] dX11_said_5 (Nat.le_of_ble_eq_true rfl) rfl ?_
  refine zr_aload_n 1 dX11_said_7 rfl ?_
  refine zr_iload_n 3 dX11_said_8 rfl ?_
  replace hf := zb1_s hf
  obtain ⟨v4, h3, hf⟩ := hf
  refine zr_callV (ci := 11) [.int x2] (cX11_sightAt_ok h3) zvs_X11_sightAt zl_775 zl_776 (fX11_sightAt_ck h3) rfl rfl zl_774 rfl (Nat.le_of_ble_eq_true rfl) (Nat.le_of_ble_eq_true rfl) (Nat.le_of_ble_eq_true rfl) (Nat.le_of_ble_eq_true rfl) dX11_said_9 rfl ?_
  refine zr_ostore [(5, va_rf v4), (4, va_rf v2), (0, .ref x0), (1, .int x1), (2, .int x2), (3, .int x3)] dX11_said_12 (Nat.le_of_ble_eq_true rfl) (by cases v2 <;> rfl) ?_
  refine zr_oload 1 dX11_said_14 rfl ?_
  cases v2 with
  | none =>
    replace hf := zmo_n hf
    refine zr_ifnull_n 34 dX11_said_16 (by decide) ?_
    refine zr_iconst (-1) dX11_said_34 (by decide) ?_
    cases hf
    exact zr_iret dX11_said_35
  | some a5 =>
    replace hf := zmo_s hf
    refine zr_ifnull_r dX11_said_16 ?_
    refine zr_oload 0 dX11_said_19 rfl ?_
    cases v4 with
    | none =>
      replace hf := zmo_n hf
      refine zr_ifnull_n 34 dX11_said_21 (by decide) ?_
      refine zr_iconst (-1) dX11_said_34 (by decide) ?_
      cases hf
      exact zr_iret dX11_said_35
    | some a6 =>
      replace hf := zmo_s hf
      refine zr_ifnull_r dX11_said_21 ?_
      refine zr_aload 0 dX11_said_24 rfl ?_
      refine zr_aload 1 dX11_said_26 rfl ?_
      replace hf := zb1_s hf
      obtain ⟨v8, h7, hf⟩ := hf
      refine zr_callV (ci := 6) [.ref a5] (cX6_isWithin_ok h7) zvs_X6_isWithin zl_783 zl_784 (fX6_isWithin_ck h7) rfl rfl zl_782 rfl (Nat.le_of_ble_eq_true rfl) (Nat.le_of_ble_eq_true rfl) (Nat.le_of_ble_eq_true rfl) (Nat.le_of_ble_eq_true rfl) dX11_said_28 rfl ?_
      refine zr_if_ne 36 dX11_said_31 (by decide) (fun hc => ?_) (fun hc => ?_)
      · rw [if_neg hc] at hf
        refine zr_iload_n 5 dX11_said_36 rfl ?_
        refine zr_iconst (-1) dX11_said_37 (by decide) ?_
        replace hf := zb1_s hf
        obtain ⟨s9, hg, hf⟩ := hf
        have hj10 : zz K cX11_said (6, RX11, some .int, 6, 0, 0, some (.int r), μ) 0 0 59 [] [.int s9] μ := by
          cases hf
          exact zr_iret dX11_said_59
        clear hf
        have hf := hg
        clear hg
        refine zr_icmp_ne 51 dX11_said_38 (by decide) (fun hc => ?_) (fun hc => ?_)
        · rw [if_neg hc] at hf
          refine zr_aload 1 dX11_said_51 rfl ?_
          refine zr_aload 0 dX11_said_53 rfl ?_
          refine zr_iload_n 5 dX11_said_55 rfl ?_
          replace hf := zb1_s hf
          obtain ⟨v12, h11, hf⟩ := hf
          refine zr_callS [.ref a5, .ref a6, .int x3] (cX5_numbered_ok h11) zvs_X5_numbered zl_787 zl_786 rfl (Nat.le_of_ble_eq_true rfl) (Nat.le_of_ble_eq_true rfl) (Nat.le_of_ble_eq_true rfl) (Nat.le_of_ble_eq_true rfl) dX11_said_56 rfl ?_
          cases hf
          exact zr_lv [] rfl hj10
        · rw [if_pos hc] at hf
          refine zr_aload 1 dX11_said_41 rfl ?_
          refine zr_aload 0 dX11_said_43 rfl ?_
          replace hf := zb1_s hf
          obtain ⟨v14, h13, hf⟩ := hf
          refine zr_callS [.ref a5, .ref a6] (cX5_howMany_ok h13) zvs_X5_howMany zl_790 zl_789 rfl (Nat.le_of_ble_eq_true rfl) (Nat.le_of_ble_eq_true rfl) (Nat.le_of_ble_eq_true rfl) (Nat.le_of_ble_eq_true rfl) dX11_said_45 rfl ?_
          refine zr_goto 59 dX11_said_48 (by decide) ?_
          cases hf
          exact zr_lv [] rfl hj10
      · rw [if_pos hc] at hf
        refine zr_iconst (-1) dX11_said_34 (by decide) ?_
        cases hf
        exact zr_iret dX11_said_35
theorem zl_791 : Cond.code yX5_onlyPlace cX5_onlyPlace 4 (some .int) ∈ zt := zt_at 1166 (by decide +kernel)
theorem zvs_X5_onlyPlace : zvS yX5_onlyPlace cX5_onlyPlace 4 (some .int) 2 := ⟨zl_791, zl_457, ⟨by decide +kernel, by decide +kernel, by decide +kernel⟩, by decide⟩
theorem zl_792 : Cond.methodLink RX11 239 yX5_onlyPlace ∈ zt := zt_at 1164 (by decide +kernel)
theorem zl_793 : Cond.static yX5_onlyPlace ∈ zt := zt_at 1165 (by decide +kernel)
theorem zl_794 : Cond.code yX5_whereToListen cX5_whereToListen 8 (some .int) ∈ zt := zt_at 1144 (by decide +kernel)
theorem zvs_X5_whereToListen : zvS yX5_whereToListen cX5_whereToListen 8 (some .int) 2 := ⟨zl_794, zl_457, ⟨by decide +kernel, by decide +kernel, by decide +kernel⟩, by decide⟩
theorem zl_795 : Cond.methodLink RX11 236 yX5_whereToListen ∈ zt := zt_at 1141 (by decide +kernel)
theorem zl_796 : Cond.instanceMethod yX5_whereToListen ∈ zt := zt_at 1142 (by decide +kernel)
theorem zl_797 : Cond.selects RX5 yX5_whereToListen yX5_whereToListen ∈ zt := zt_at 1143 (by decide +kernel)
theorem dX11_spot_0 : decode cX11_spot 0 = .ok (.aload_n 0, 1) := by decide +kernel
theorem dX11_spot_1 : decode cX11_spot 1 = .ok (.iload_n 1, 1) := by decide +kernel
theorem dX11_spot_2 : decode cX11_spot 2 = .ok (.invokevirtual 89, 3) := by decide +kernel
theorem dX11_spot_5 : decode cX11_spot 5 = .ok (.astore 4, 2) := by decide +kernel
theorem dX11_spot_7 : decode cX11_spot 7 = .ok (.aload_n 0, 1) := by decide +kernel
theorem dX11_spot_8 : decode cX11_spot 8 = .ok (.iload_n 2, 1) := by decide +kernel
theorem dX11_spot_9 : decode cX11_spot 9 = .ok (.invokevirtual 217, 3) := by decide +kernel
theorem dX11_spot_12 : decode cX11_spot 12 = .ok (.astore 5, 2) := by decide +kernel
theorem dX11_spot_14 : decode cX11_spot 14 = .ok (.aload 4, 2) := by decide +kernel
theorem dX11_spot_16 : decode cX11_spot 16 = .ok (.ifnull 18, 3) := by decide +kernel
theorem dX11_spot_19 : decode cX11_spot 19 = .ok (.aload 5, 2) := by decide +kernel
theorem dX11_spot_21 : decode cX11_spot 21 = .ok (.ifnull 13, 3) := by decide +kernel
theorem dX11_spot_24 : decode cX11_spot 24 = .ok (.aload 5, 2) := by decide +kernel
theorem dX11_spot_26 : decode cX11_spot 26 = .ok (.aload 4, 2) := by decide +kernel
theorem dX11_spot_28 : decode cX11_spot 28 = .ok (.invokevirtual 224, 3) := by decide +kernel
theorem dX11_spot_31 : decode cX11_spot 31 = .ok (.ifCond .ne 5, 3) := by decide +kernel
theorem dX11_spot_34 : decode cX11_spot 34 = .ok (.iconst (-1), 1) := by decide +kernel
theorem dX11_spot_35 : decode cX11_spot 35 = .ok (.ireturn, 1) := by decide +kernel
theorem dX11_spot_36 : decode cX11_spot 36 = .ok (.iload_n 3, 1) := by decide +kernel
theorem dX11_spot_37 : decode cX11_spot 37 = .ok (.ifCond .eq 17, 3) := by decide +kernel
theorem dX11_spot_40 : decode cX11_spot 40 = .ok (.aload_n 0, 1) := by decide +kernel
theorem dX11_spot_41 : decode cX11_spot 41 = .ok (.getfield 43, 3) := by decide +kernel
theorem dX11_spot_44 : decode cX11_spot 44 = .ok (.aload 4, 2) := by decide +kernel
theorem dX11_spot_46 : decode cX11_spot 46 = .ok (.aload 5, 2) := by decide +kernel
theorem dX11_spot_48 : decode cX11_spot 48 = .ok (.invokevirtual 236, 3) := by decide +kernel
theorem dX11_spot_51 : decode cX11_spot 51 = .ok (.goto 10, 3) := by decide +kernel
theorem dX11_spot_54 : decode cX11_spot 54 = .ok (.aload 4, 2) := by decide +kernel
theorem dX11_spot_56 : decode cX11_spot 56 = .ok (.aload 5, 2) := by decide +kernel
theorem dX11_spot_58 : decode cX11_spot 58 = .ok (.invokestatic 239, 3) := by decide +kernel
theorem dX11_spot_61 : decode cX11_spot 61 = .ok (.ireturn, 1) := by decide +kernel
noncomputable def fX11_spot (μ : zM) (x0 : Nat) (x1 : Int32) (x2 : Int32) (x3 : Int32) : Option (Int32 × zM) := zgd (zm_ck μ 11 x0) <|
  zb1 (fX11_valleyAt μ x0 x1) fun v2 =>
  zb1 (fX11_sightAt μ x0 x2) fun v4 =>
  zmo v2 (
  some ((-1), μ)) fun a5 =>
  zmo v4 (
  some ((-1), μ)) fun a6 =>
  zb1 (fX6_isWithin μ a6 a5) fun v8 =>
  if v8 = 0 then (
  some ((-1), μ))
  else (
  zc2 (if x3 = 0 then (
  zb1 (fX5_onlyPlace μ a5 a6) fun v13 =>
  some (v13, μ))
  else (
  zb1 (zm_gR μ 11 x0 4) fun v14 =>
  zb2 (fX5_whereToListen μ v14 a5 a6) fun v18 m17 =>
  some (v18, m17)) : Option (Int32 × zM)) fun (s9 : Int32) (m10 : zM) =>
  some (s9, m10))
theorem fX11_spot_ck {μ : zM} {x0 : Nat} {x1 : Int32} {x2 : Int32} {x3 : Int32} {z : Int32 × zM} (h : fX11_spot μ x0 x1 x2 x3 = some z) : zm_ck μ 11 x0 = true := (zgd_s h).1
set_option maxHeartbeats 4000000 in
set_option maxRecDepth 100000 in
theorem cX11_spot_ok {μ : zM} {x0 : Nat} {x1 : Int32} {x2 : Int32} {x3 : Int32} {r : Int32} {mo : zM} (hf : fX11_spot μ x0 x1 x2 x3 = some (r, mo)) : zC yX11_spot cX11_spot 6 (some .int) 6 0 0 [.ref x0, .int x1, .int x2, .int x3] μ (some (.int r)) mo := by
  replace hf := (zgd_s hf).2
  refine zC.of (by decide) (Nat.le_of_ble_eq_true rfl) (fun K hin => ?_)
  clear hin
  show zz K cX11_spot (6, RX11, some .int, 6, 0, 0, some (.int r), mo) 0 0 0 [(0, .ref x0), (1, .int x1), (2, .int x2), (3, .int x3)] [] μ
  refine zr_aload_n 0 dX11_spot_0 rfl ?_
  refine zr_iload_n 1 dX11_spot_1 rfl ?_
  replace hf := zb1_s hf
  obtain ⟨v2, h1, hf⟩ := hf
  refine zr_callV (ci := 11) [.int x1] (cX11_valleyAt_ok h1) zvs_X11_valleyAt zl_684 zl_685 (fX11_valleyAt_ck h1) rfl rfl zl_683 rfl (Nat.le_of_ble_eq_true rfl) (Nat.le_of_ble_eq_true rfl) (Nat.le_of_ble_eq_true rfl) (Nat.le_of_ble_eq_true rfl) dX11_spot_2 rfl ?_
  refine zr_ostore [(4, va_rf v2), (0, .ref x0), (1, .int x1), (2, .int x2), (3, .int x3)] dX11_spot_5 (Nat.le_of_ble_eq_true rfl) rfl ?_
  refine zr_aload_n 1 dX11_spot_7 rfl ?_
  refine zr_iload_n 3 dX11_spot_8 rfl ?_
  replace hf := zb1_s hf
  obtain ⟨v4, h3, hf⟩ := hf
  refine zr_callV (ci := 11) [.int x2] (cX11_sightAt_ok h3) zvs_X11_sightAt zl_775 zl_776 (fX11_sightAt_ck h3) rfl rfl zl_774 rfl (Nat.le_of_ble_eq_true rfl) (Nat.le_of_ble_eq_true rfl) (Nat.le_of_ble_eq_true rfl) (Nat.le_of_ble_eq_true rfl) dX11_spot_9 rfl ?_
  refine zr_ostore [(5, va_rf v4), (4, va_rf v2), (0, .ref x0), (1, .int x1), (2, .int x2), (3, .int x3)] dX11_spot_12 (Nat.le_of_ble_eq_true rfl) (by cases v2 <;> rfl) ?_
  refine zr_oload 1 dX11_spot_14 rfl ?_
  cases v2 with
  | none =>
    replace hf := zmo_n hf
    refine zr_ifnull_n 34 dX11_spot_16 (by decide) ?_
    refine zr_iconst (-1) dX11_spot_34 (by decide) ?_
    cases hf
    exact zr_iret dX11_spot_35
  | some a5 =>
    replace hf := zmo_s hf
    refine zr_ifnull_r dX11_spot_16 ?_
    refine zr_oload 0 dX11_spot_19 rfl ?_
    cases v4 with
    | none =>
      replace hf := zmo_n hf
      refine zr_ifnull_n 34 dX11_spot_21 (by decide) ?_
      refine zr_iconst (-1) dX11_spot_34 (by decide) ?_
      cases hf
      exact zr_iret dX11_spot_35
    | some a6 =>
      replace hf := zmo_s hf
      refine zr_ifnull_r dX11_spot_21 ?_
      refine zr_aload 0 dX11_spot_24 rfl ?_
      refine zr_aload 1 dX11_spot_26 rfl ?_
      replace hf := zb1_s hf
      obtain ⟨v8, h7, hf⟩ := hf
      refine zr_callV (ci := 6) [.ref a5] (cX6_isWithin_ok h7) zvs_X6_isWithin zl_783 zl_784 (fX6_isWithin_ck h7) rfl rfl zl_782 rfl (Nat.le_of_ble_eq_true rfl) (Nat.le_of_ble_eq_true rfl) (Nat.le_of_ble_eq_true rfl) (Nat.le_of_ble_eq_true rfl) dX11_spot_28 rfl ?_
      refine zr_if_ne 36 dX11_spot_31 (by decide) (fun hc => ?_) (fun hc => ?_)
      · rw [if_neg hc] at hf
        refine zr_iload_n 5 dX11_spot_36 rfl ?_
        replace hf := zc2_s hf
        obtain ⟨s9, m10, hg, hf⟩ := hf
        have hj11 : zz K cX11_spot (6, RX11, some .int, 6, 0, 0, some (.int r), mo) 0 0 61 [] [.int s9] m10 := by
          cases hf
          exact zr_iret dX11_spot_61
        clear hf
        have hf := hg
        clear hg
        refine zr_if_eq 54 dX11_spot_37 (by decide) (fun hc => ?_) (fun hc => ?_)
        · rw [if_pos hc] at hf
          refine zr_aload 1 dX11_spot_54 rfl ?_
          refine zr_aload 0 dX11_spot_56 rfl ?_
          replace hf := zb1_s hf
          obtain ⟨v13, h12, hf⟩ := hf
          refine zr_callS [.ref a5, .ref a6] (cX5_onlyPlace_ok h12) zvs_X5_onlyPlace zl_793 zl_792 rfl (Nat.le_of_ble_eq_true rfl) (Nat.le_of_ble_eq_true rfl) (Nat.le_of_ble_eq_true rfl) (Nat.le_of_ble_eq_true rfl) dX11_spot_58 rfl ?_
          cases hf
          exact zr_lv [] rfl hj11
        · rw [if_neg hc] at hf
          refine zr_aload_n 2 dX11_spot_40 rfl ?_
          replace hf := zb1_s hf
          obtain ⟨v14, h15, hf⟩ := hf
          refine zr_get (zm_gR_g h15) zk11 (by decide) zl_646 dX11_spot_41 ?_
          refine zr_aload 1 dX11_spot_44 rfl ?_
          refine zr_aload 0 dX11_spot_46 rfl ?_
          replace hf := zb2_s hf
          obtain ⟨v18, m17, h16, hf⟩ := hf
          refine zr_callV (ci := 5) [.ref a5, .ref a6] (cX5_whereToListen_ok h16) zvs_X5_whereToListen zl_796 zl_797 (fX5_whereToListen_ck h16) rfl rfl zl_795 rfl (Nat.le_of_ble_eq_true rfl) (Nat.le_of_ble_eq_true rfl) (Nat.le_of_ble_eq_true rfl) (Nat.le_of_ble_eq_true rfl) dX11_spot_48 rfl ?_
          refine zr_goto 61 dX11_spot_51 (by decide) ?_
          cases hf
          exact zr_lv [] rfl hj11
      · rw [if_pos hc] at hf
        refine zr_iconst (-1) dX11_spot_34 (by decide) ?_
        cases hf
        exact zr_iret dX11_spot_35
theorem zl_798 : Cond.code yX1_draw cX1_draw 7 (none) ∈ zt := zt_at 1174 (by decide +kernel)
theorem zvs_X1_draw : zvS yX1_draw cX1_draw 7 (none) 3 := ⟨zl_798, zl_110, ⟨by decide +kernel, by decide +kernel, by decide +kernel⟩, by decide⟩
theorem zl_799 : Cond.methodLink RX11 242 yX1_draw ∈ zt := zt_at 1171 (by decide +kernel)
theorem zl_800 : Cond.instanceMethod yX1_draw ∈ zt := zt_at 1172 (by decide +kernel)
theorem zl_801 : Cond.selects RX1 yX1_draw yX1_draw ∈ zt := zt_at 1173 (by decide +kernel)
theorem dX11_drawn_0 : decode cX11_drawn 0 = .ok (.aload_n 0, 1) := by decide +kernel
theorem dX11_drawn_1 : decode cX11_drawn 1 = .ok (.iload_n 1, 1) := by decide +kernel
theorem dX11_drawn_2 : decode cX11_drawn 2 = .ok (.invokevirtual 89, 3) := by decide +kernel
theorem dX11_drawn_5 : decode cX11_drawn 5 = .ok (.astore 5, 2) := by decide +kernel
theorem dX11_drawn_7 : decode cX11_drawn 7 = .ok (.aload 5, 2) := by decide +kernel
theorem dX11_drawn_9 : decode cX11_drawn 9 = .ok (.ifnull 21, 3) := by decide +kernel
theorem dX11_drawn_12 : decode cX11_drawn 12 = .ok (.aload 5, 2) := by decide +kernel
theorem dX11_drawn_14 : decode cX11_drawn 14 = .ok (.getfield 138, 3) := by decide +kernel
theorem dX11_drawn_17 : decode cX11_drawn 17 = .ok (.ifCond .eq 13, 3) := by decide +kernel
theorem dX11_drawn_20 : decode cX11_drawn 20 = .ok (.iload_n 3, 1) := by decide +kernel
theorem dX11_drawn_21 : decode cX11_drawn 21 = .ok (.ifCond .lt 9, 3) := by decide +kernel
theorem dX11_drawn_24 : decode cX11_drawn 24 = .ok (.iload_n 3, 1) := by decide +kernel
theorem dX11_drawn_25 : decode cX11_drawn 25 = .ok (.bipush 60, 2) := by decide +kernel
theorem dX11_drawn_27 : decode cX11_drawn 27 = .ok (.if_icmp .le 6, 3) := by decide +kernel
theorem dX11_drawn_30 : decode cX11_drawn 30 = .ok (.bipush (-2), 2) := by decide +kernel
theorem dX11_drawn_32 : decode cX11_drawn 32 = .ok (.ireturn, 1) := by decide +kernel
theorem dX11_drawn_33 : decode cX11_drawn 33 = .ok (.aload_n 0, 1) := by decide +kernel
theorem dX11_drawn_34 : decode cX11_drawn 34 = .ok (.getfield 36, 3) := by decide +kernel
theorem dX11_drawn_37 : decode cX11_drawn 37 = .ok (.aload 5, 2) := by decide +kernel
theorem dX11_drawn_39 : decode cX11_drawn 39 = .ok (.iload_n 2, 1) := by decide +kernel
theorem dX11_drawn_40 : decode cX11_drawn 40 = .ok (.iload_n 3, 1) := by decide +kernel
theorem dX11_drawn_41 : decode cX11_drawn 41 = .ok (.invokevirtual 242, 3) := by decide +kernel
theorem dX11_drawn_44 : decode cX11_drawn 44 = .ok (.aload_n 0, 1) := by decide +kernel
theorem dX11_drawn_45 : decode cX11_drawn 45 = .ok (.getfield 36, 3) := by decide +kernel
theorem dX11_drawn_48 : decode cX11_drawn 48 = .ok (.aload 5, 2) := by decide +kernel
theorem dX11_drawn_50 : decode cX11_drawn 50 = .ok (.iload 4, 2) := by decide +kernel
theorem dX11_drawn_52 : decode cX11_drawn 52 = .ok (.invokevirtual 135, 3) := by decide +kernel
theorem dX11_drawn_55 : decode cX11_drawn 55 = .ok (.ireturn, 1) := by decide +kernel
noncomputable def fX11_drawn (μ : zM) (x0 : Nat) (x1 : Int32) (x2 : Int32) (x3 : Int32) (x4 : Int32) : Option (Int32 × zM) := zgd (zm_ck μ 11 x0) <|
  zb1 (fX11_valleyAt μ x0 x1) fun v2 =>
  zmo v2 (
  some ((-2), μ)) fun a3 =>
  zb1 (zm_gI μ 9 a3 4) fun v4 =>
  if v4 = 0 then (
  some ((-2), μ))
  else (
  if x3 < 0 then (
  some ((-2), μ))
  else (
  if x3 ≤ 60 then (
  zb1 (zm_gR μ 11 x0 3) fun v6 =>
  zb1 (fX1_draw μ v6 a3 x2 x3) fun m9 =>
  zb1 (zm_gR m9 11 x0 3) fun v10 =>
  zb1 (fX1_tell m9 v10 a3 x4) fun v13 =>
  some (v13, m9))
  else (
  some ((-2), μ))))
theorem fX11_drawn_ck {μ : zM} {x0 : Nat} {x1 : Int32} {x2 : Int32} {x3 : Int32} {x4 : Int32} {z : Int32 × zM} (h : fX11_drawn μ x0 x1 x2 x3 x4 = some z) : zm_ck μ 11 x0 = true := (zgd_s h).1
set_option maxHeartbeats 4000000 in
set_option maxRecDepth 100000 in
theorem cX11_drawn_ok {μ : zM} {x0 : Nat} {x1 : Int32} {x2 : Int32} {x3 : Int32} {x4 : Int32} {r : Int32} {mo : zM} (hf : fX11_drawn μ x0 x1 x2 x3 x4 = some (r, mo)) : zC yX11_drawn cX11_drawn 6 (some .int) 6 0 0 [.ref x0, .int x1, .int x2, .int x3, .int x4] μ (some (.int r)) mo := by
  replace hf := (zgd_s hf).2
  refine zC.of (by decide) (Nat.le_of_ble_eq_true rfl) (fun K hin => ?_)
  clear hin
  show zz K cX11_drawn (6, RX11, some .int, 6, 0, 0, some (.int r), mo) 0 0 0 [(0, .ref x0), (1, .int x1), (2, .int x2), (3, .int x3), (4, .int x4)] [] μ
  refine zr_aload_n 0 dX11_drawn_0 rfl ?_
  refine zr_iload_n 1 dX11_drawn_1 rfl ?_
  replace hf := zb1_s hf
  obtain ⟨v2, h1, hf⟩ := hf
  refine zr_callV (ci := 11) [.int x1] (cX11_valleyAt_ok h1) zvs_X11_valleyAt zl_684 zl_685 (fX11_valleyAt_ck h1) rfl rfl zl_683 rfl (Nat.le_of_ble_eq_true rfl) (Nat.le_of_ble_eq_true rfl) (Nat.le_of_ble_eq_true rfl) (Nat.le_of_ble_eq_true rfl) dX11_drawn_2 rfl ?_
  refine zr_ostore [(5, va_rf v2), (0, .ref x0), (1, .int x1), (2, .int x2), (3, .int x3), (4, .int x4)] dX11_drawn_5 (Nat.le_of_ble_eq_true rfl) rfl ?_
  refine zr_oload 0 dX11_drawn_7 rfl ?_
  cases v2 with
  | none =>
    replace hf := zmo_n hf
    refine zr_ifnull_n 30 dX11_drawn_9 (by decide) ?_
    refine zr_bipush (-2) dX11_drawn_30 (by decide) ?_
    cases hf
    exact zr_iret dX11_drawn_32
  | some a3 =>
    replace hf := zmo_s hf
    refine zr_ifnull_r dX11_drawn_9 ?_
    refine zr_aload 0 dX11_drawn_12 rfl ?_
    replace hf := zb1_s hf
    obtain ⟨v4, h5, hf⟩ := hf
    refine zr_get (zm_gI_g h5) zk9 (by decide) zl_716 dX11_drawn_14 ?_
    refine zr_if_eq 30 dX11_drawn_17 (by decide) (fun hc => ?_) (fun hc => ?_)
    · rw [if_pos hc] at hf
      refine zr_bipush (-2) dX11_drawn_30 (by decide) ?_
      cases hf
      exact zr_iret dX11_drawn_32
    · rw [if_neg hc] at hf
      refine zr_iload_n 4 dX11_drawn_20 rfl ?_
      refine zr_if_lt 30 dX11_drawn_21 (by decide) (fun hc => ?_) (fun hc => ?_)
      · rw [if_pos hc] at hf
        refine zr_bipush (-2) dX11_drawn_30 (by decide) ?_
        cases hf
        exact zr_iret dX11_drawn_32
      · rw [if_neg hc] at hf
        refine zr_iload_n 4 dX11_drawn_24 rfl ?_
        refine zr_bipush 60 dX11_drawn_25 (by decide) ?_
        refine zr_icmp_le 33 dX11_drawn_27 (by decide) (fun hc => ?_) (fun hc => ?_)
        · rw [if_pos hc] at hf
          refine zr_aload_n 1 dX11_drawn_33 rfl ?_
          replace hf := zb1_s hf
          obtain ⟨v6, h7, hf⟩ := hf
          refine zr_get (zm_gR_g h7) zk11 (by decide) zl_640 dX11_drawn_34 ?_
          refine zr_aload 0 dX11_drawn_37 rfl ?_
          refine zr_iload_n 3 dX11_drawn_39 rfl ?_
          refine zr_iload_n 4 dX11_drawn_40 rfl ?_
          replace hf := zb1_s hf
          obtain ⟨m9, h8, hf⟩ := hf
          refine zr_callV (ci := 1) [.ref a3, .int x2, .int x3] (cX1_draw_ok h8) zvs_X1_draw zl_800 zl_801 (fX1_draw_ck h8) rfl rfl zl_799 rfl (Nat.le_of_ble_eq_true rfl) (Nat.le_of_ble_eq_true rfl) (Nat.le_of_ble_eq_true rfl) (Nat.le_of_ble_eq_true rfl) dX11_drawn_41 rfl ?_
          refine zr_aload_n 1 dX11_drawn_44 rfl ?_
          replace hf := zb1_s hf
          obtain ⟨v10, h11, hf⟩ := hf
          refine zr_get (zm_gR_g h11) zk11 (by decide) zl_640 dX11_drawn_45 ?_
          refine zr_aload 0 dX11_drawn_48 rfl ?_
          refine zr_iload 5 dX11_drawn_50 rfl ?_
          replace hf := zb1_s hf
          obtain ⟨v13, h12, hf⟩ := hf
          refine zr_callV (ci := 1) [.ref a3, .int x4] (cX1_tell_ok h12) zvs_X1_tell zl_714 zl_715 (fX1_tell_ck h12) rfl rfl zl_713 rfl (Nat.le_of_ble_eq_true rfl) (Nat.le_of_ble_eq_true rfl) (Nat.le_of_ble_eq_true rfl) (Nat.le_of_ble_eq_true rfl) dX11_drawn_52 rfl ?_
          cases hf
          exact zr_iret dX11_drawn_55
        · rw [if_neg hc] at hf
          refine zr_bipush (-2) dX11_drawn_30 (by decide) ?_
          cases hf
          exact zr_iret dX11_drawn_32
theorem zl_802 : Cond.code yX10_ringCount cX10_ringCount 3 (some .int) ∈ zt := zt_at 1188 (by decide +kernel)
theorem zvs_X10_ringCount : zvS yX10_ringCount cX10_ringCount 3 (some .int) 1 := ⟨zl_802, zl_596, ⟨by decide +kernel, by decide +kernel, by decide +kernel⟩, by decide⟩
theorem zl_803 : Cond.methodLink RX11 246 yX10_ringCount ∈ zt := zt_at 1186 (by decide +kernel)
theorem zl_804 : Cond.static yX10_ringCount ∈ zt := zt_at 1187 (by decide +kernel)
theorem zl_805 : Cond.code yX10_longestRing cX10_longestRing 3 (some .int) ∈ zt := zt_at 1195 (by decide +kernel)
theorem zvs_X10_longestRing : zvS yX10_longestRing cX10_longestRing 3 (some .int) 1 := ⟨zl_805, zl_596, ⟨by decide +kernel, by decide +kernel, by decide +kernel⟩, by decide⟩
theorem zl_806 : Cond.methodLink RX11 249 yX10_longestRing ∈ zt := zt_at 1193 (by decide +kernel)
theorem zl_807 : Cond.static yX10_longestRing ∈ zt := zt_at 1194 (by decide +kernel)
theorem zl_808 : Cond.code yX10_wordsInRings cX10_wordsInRings 3 (some .int) ∈ zt := zt_at 1199 (by decide +kernel)
theorem zvs_X10_wordsInRings : zvS yX10_wordsInRings cX10_wordsInRings 3 (some .int) 1 := ⟨zl_808, zl_596, ⟨by decide +kernel, by decide +kernel, by decide +kernel⟩, by decide⟩
theorem zl_809 : Cond.methodLink RX11 252 yX10_wordsInRings ∈ zt := zt_at 1197 (by decide +kernel)
theorem zl_810 : Cond.static yX10_wordsInRings ∈ zt := zt_at 1198 (by decide +kernel)
theorem dX11_rings_0 : decode cX11_rings 0 = .ok (.aload_n 0, 1) := by decide +kernel
theorem dX11_rings_1 : decode cX11_rings 1 = .ok (.iload_n 1, 1) := by decide +kernel
theorem dX11_rings_2 : decode cX11_rings 2 = .ok (.invokevirtual 89, 3) := by decide +kernel
theorem dX11_rings_5 : decode cX11_rings 5 = .ok (.astore_n 3, 1) := by decide +kernel
theorem dX11_rings_6 : decode cX11_rings 6 = .ok (.aload_n 3, 1) := by decide +kernel
theorem dX11_rings_7 : decode cX11_rings 7 = .ok (.ifnonnull 5, 3) := by decide +kernel
theorem dX11_rings_10 : decode cX11_rings 10 = .ok (.iconst (-1), 1) := by decide +kernel
theorem dX11_rings_11 : decode cX11_rings 11 = .ok (.ireturn, 1) := by decide +kernel
theorem dX11_rings_12 : decode cX11_rings 12 = .ok (.iload_n 2, 1) := by decide +kernel
theorem dX11_rings_13 : decode cX11_rings 13 = .ok (.tableswitch 42 0 2 #[27, 32, 37], 27) := by decide +kernel
theorem dX11_rings_40 : decode cX11_rings 40 = .ok (.aload_n 3, 1) := by decide +kernel
theorem dX11_rings_41 : decode cX11_rings 41 = .ok (.invokestatic 246, 3) := by decide +kernel
theorem dX11_rings_44 : decode cX11_rings 44 = .ok (.ireturn, 1) := by decide +kernel
theorem dX11_rings_45 : decode cX11_rings 45 = .ok (.aload_n 3, 1) := by decide +kernel
theorem dX11_rings_46 : decode cX11_rings 46 = .ok (.invokestatic 249, 3) := by decide +kernel
theorem dX11_rings_49 : decode cX11_rings 49 = .ok (.ireturn, 1) := by decide +kernel
theorem dX11_rings_50 : decode cX11_rings 50 = .ok (.aload_n 3, 1) := by decide +kernel
theorem dX11_rings_51 : decode cX11_rings 51 = .ok (.invokestatic 252, 3) := by decide +kernel
theorem dX11_rings_54 : decode cX11_rings 54 = .ok (.ireturn, 1) := by decide +kernel
theorem dX11_rings_55 : decode cX11_rings 55 = .ok (.iconst (-1), 1) := by decide +kernel
theorem dX11_rings_56 : decode cX11_rings 56 = .ok (.ireturn, 1) := by decide +kernel
noncomputable def fX11_rings (μ : zM) (x0 : Nat) (x1 : Int32) (x2 : Int32) : Option (Int32) := zgd (zm_ck μ 11 x0) <|
  zb1 (fX11_valleyAt μ x0 x1) fun v2 =>
  zmo v2 (
  some (-1)) fun a3 =>
  if x2 = 0 then (
  zb1 (fX10_ringCount μ a3) fun v5 =>
  some v5)
  else (
  if x2 = 1 then (
  zb1 (fX10_longestRing μ a3) fun v8 =>
  some v8)
  else (
  if x2 = 2 then (
  zb1 (fX10_wordsInRings μ a3) fun v11 =>
  some v11)
  else (
  some (-1))))
theorem fX11_rings_ck {μ : zM} {x0 : Nat} {x1 : Int32} {x2 : Int32} {z : Int32} (h : fX11_rings μ x0 x1 x2 = some z) : zm_ck μ 11 x0 = true := (zgd_s h).1
set_option maxHeartbeats 4000000 in
set_option maxRecDepth 100000 in
theorem cX11_rings_ok {μ : zM} {x0 : Nat} {x1 : Int32} {x2 : Int32} {r : Int32} (hf : fX11_rings μ x0 x1 x2 = some r) : zC yX11_rings cX11_rings 4 (some .int) 3 0 0 [.ref x0, .int x1, .int x2] μ (some (.int r)) μ := by
  replace hf := (zgd_s hf).2
  refine zC.of (by decide) (Nat.le_of_ble_eq_true rfl) (fun K hin => ?_)
  clear hin
  show zz K cX11_rings (4, RX11, some .int, 3, 0, 0, some (.int r), μ) 0 0 0 [(0, .ref x0), (1, .int x1), (2, .int x2)] [] μ
  refine zr_aload_n 0 dX11_rings_0 rfl ?_
  refine zr_iload_n 1 dX11_rings_1 rfl ?_
  replace hf := zb1_s hf
  obtain ⟨v2, h1, hf⟩ := hf
  refine zr_callV (ci := 11) [.int x1] (cX11_valleyAt_ok h1) zvs_X11_valleyAt zl_684 zl_685 (fX11_valleyAt_ck h1) rfl rfl zl_683 rfl (Nat.le_of_ble_eq_true rfl) (Nat.le_of_ble_eq_true rfl) (Nat.le_of_ble_eq_true rfl) (Nat.le_of_ble_eq_true rfl) dX11_rings_2 rfl ?_
  refine zr_ostore_n [(3, va_rf v2), (0, .ref x0), (1, .int x1), (2, .int x2)] dX11_rings_5 (Nat.le_of_ble_eq_true rfl) rfl ?_
  refine zr_oload_n 0 dX11_rings_6 rfl ?_
  cases v2 with
  | none =>
    replace hf := zmo_n hf
    refine zr_ifnonnull_n dX11_rings_7 ?_
    refine zr_iconst (-1) dX11_rings_10 (by decide) ?_
    cases hf
    exact zr_iret dX11_rings_11
  | some a3 =>
    replace hf := zmo_s hf
    refine zr_ifnonnull_r 12 dX11_rings_7 (by decide) ?_
    refine zr_iload_n 3 dX11_rings_12 rfl ?_
    rcases zdec (x2 = 0) with hs6 | hs6
    · rw [if_pos hs6] at hf
      refine zr_tableIn (off := 27) 40 dX11_rings_13 (by rw [hs6]; decide) (by rw [hs6]; decide) (by rw [hs6]; rfl) (by decide) ?_
      refine zr_aload_n 0 dX11_rings_40 rfl ?_
      replace hf := zb1_s hf
      obtain ⟨v5, h4, hf⟩ := hf
      refine zr_callS [.ref a3] (cX10_ringCount_ok h4) zvs_X10_ringCount zl_804 zl_803 rfl (Nat.le_of_ble_eq_true rfl) (Nat.le_of_ble_eq_true rfl) (Nat.le_of_ble_eq_true rfl) (Nat.le_of_ble_eq_true rfl) dX11_rings_41 rfl ?_
      cases hf
      exact zr_iret dX11_rings_44
    rw [if_neg hs6] at hf
    rcases zdec (x2 = 1) with hs9 | hs9
    · rw [if_pos hs9] at hf
      refine zr_tableIn (off := 32) 45 dX11_rings_13 (by rw [hs9]; decide) (by rw [hs9]; decide) (by rw [hs9]; rfl) (by decide) ?_
      refine zr_aload_n 0 dX11_rings_45 rfl ?_
      replace hf := zb1_s hf
      obtain ⟨v8, h7, hf⟩ := hf
      refine zr_callS [.ref a3] (cX10_longestRing_ok h7) zvs_X10_longestRing zl_807 zl_806 rfl (Nat.le_of_ble_eq_true rfl) (Nat.le_of_ble_eq_true rfl) (Nat.le_of_ble_eq_true rfl) (Nat.le_of_ble_eq_true rfl) dX11_rings_46 rfl ?_
      cases hf
      exact zr_iret dX11_rings_49
    rw [if_neg hs9] at hf
    rcases zdec (x2 = 2) with hs12 | hs12
    · rw [if_pos hs12] at hf
      refine zr_tableIn (off := 37) 50 dX11_rings_13 (by rw [hs12]; decide) (by rw [hs12]; decide) (by rw [hs12]; rfl) (by decide) ?_
      refine zr_aload_n 0 dX11_rings_50 rfl ?_
      replace hf := zb1_s hf
      obtain ⟨v11, h10, hf⟩ := hf
      refine zr_callS [.ref a3] (cX10_wordsInRings_ok h10) zvs_X10_wordsInRings zl_810 zl_809 rfl (Nat.le_of_ble_eq_true rfl) (Nat.le_of_ble_eq_true rfl) (Nat.le_of_ble_eq_true rfl) (Nat.le_of_ble_eq_true rfl) dX11_rings_51 rfl ?_
      cases hf
      exact zr_iret dX11_rings_54
    rw [if_neg hs12] at hf
    refine zr_tableOut 55 dX11_rings_13 (by simp only [← Int32.toInt_inj] at hs6 hs9 hs12; simp at hs6 hs9 hs12; omega) (by decide) ?_
    refine zr_iconst (-1) dX11_rings_55 (by decide) ?_
    cases hf
    exact zr_iret dX11_rings_56
theorem zl_811 : Cond.constantLong RX11 255 (-1) ∈ zt := zt_at 1204 (by decide +kernel)
theorem zl_812 : Cond.code yX10_weightOfAll cX10_weightOfAll 4 (some .long) ∈ zt := zt_at 1207 (by decide +kernel)
theorem zvs_X10_weightOfAll : zvS yX10_weightOfAll cX10_weightOfAll 4 (some .long) 1 := ⟨zl_812, zl_596, ⟨by decide +kernel, by decide +kernel, by decide +kernel⟩, by decide⟩
theorem zl_813 : Cond.methodLink RX11 257 yX10_weightOfAll ∈ zt := zt_at 1205 (by decide +kernel)
theorem zl_814 : Cond.static yX10_weightOfAll ∈ zt := zt_at 1206 (by decide +kernel)
theorem zl_815 : Cond.code yX10_weightOfSelfSame cX10_weightOfSelfSame 4 (some .long) ∈ zt := zt_at 1210 (by decide +kernel)
theorem zvs_X10_weightOfSelfSame : zvS yX10_weightOfSelfSame cX10_weightOfSelfSame 4 (some .long) 1 := ⟨zl_815, zl_596, ⟨by decide +kernel, by decide +kernel, by decide +kernel⟩, by decide⟩
theorem zl_816 : Cond.methodLink RX11 261 yX10_weightOfSelfSame ∈ zt := zt_at 1208 (by decide +kernel)
theorem zl_817 : Cond.static yX10_weightOfSelfSame ∈ zt := zt_at 1209 (by decide +kernel)
theorem zl_818 : Cond.code yX10_commonDivisor cX10_commonDivisor 11 (some .long) ∈ zt := zt_at 1213 (by decide +kernel)
theorem zvs_X10_commonDivisor : zvS yX10_commonDivisor cX10_commonDivisor 11 (some .long) 2 := ⟨zl_818, zl_596, ⟨by decide +kernel, by decide +kernel, by decide +kernel⟩, by decide⟩
theorem zl_819 : Cond.methodLink RX11 264 yX10_commonDivisor ∈ zt := zt_at 1211 (by decide +kernel)
theorem zl_820 : Cond.static yX10_commonDivisor ∈ zt := zt_at 1212 (by decide +kernel)
theorem zl_821 : Cond.code yX10_power cX10_power 6 (some .long) ∈ zt := zt_at 1216 (by decide +kernel)
theorem zvs_X10_power : zvS yX10_power cX10_power 6 (some .long) 2 := ⟨zl_821, zl_596, ⟨by decide +kernel, by decide +kernel, by decide +kernel⟩, by decide⟩
theorem zl_822 : Cond.methodLink RX11 268 yX10_power ∈ zt := zt_at 1214 (by decide +kernel)
theorem zl_823 : Cond.static yX10_power ∈ zt := zt_at 1215 (by decide +kernel)
theorem dX11_unsure_0 : decode cX11_unsure 0 = .ok (.aload_n 0, 1) := by decide +kernel
theorem dX11_unsure_1 : decode cX11_unsure 1 = .ok (.iload_n 1, 1) := by decide +kernel
theorem dX11_unsure_2 : decode cX11_unsure 2 = .ok (.invokevirtual 89, 3) := by decide +kernel
theorem dX11_unsure_5 : decode cX11_unsure 5 = .ok (.astore 4, 2) := by decide +kernel
theorem dX11_unsure_7 : decode cX11_unsure 7 = .ok (.aload 4, 2) := by decide +kernel
theorem dX11_unsure_9 : decode cX11_unsure 9 = .ok (.ifnull 13, 3) := by decide +kernel
theorem dX11_unsure_12 : decode cX11_unsure 12 = .ok (.iload_n 2, 1) := by decide +kernel
theorem dX11_unsure_13 : decode cX11_unsure 13 = .ok (.ifCond .lt 9, 3) := by decide +kernel
theorem dX11_unsure_16 : decode cX11_unsure 16 = .ok (.iload_n 2, 1) := by decide +kernel
theorem dX11_unsure_17 : decode cX11_unsure 17 = .ok (.bipush 6, 2) := by decide +kernel
theorem dX11_unsure_19 : decode cX11_unsure 19 = .ok (.if_icmp .le 7, 3) := by decide +kernel
theorem dX11_unsure_22 : decode cX11_unsure 22 = .ok (.ldc2_w 255, 3) := by decide +kernel
theorem dX11_unsure_25 : decode cX11_unsure 25 = .ok (.lreturn, 1) := by decide +kernel
theorem dX11_unsure_26 : decode cX11_unsure 26 = .ok (.aload 4, 2) := by decide +kernel
theorem dX11_unsure_28 : decode cX11_unsure 28 = .ok (.invokestatic 257, 3) := by decide +kernel
theorem dX11_unsure_31 : decode cX11_unsure 31 = .ok (.lstore 5, 2) := by decide +kernel
theorem dX11_unsure_33 : decode cX11_unsure 33 = .ok (.aload 4, 2) := by decide +kernel
theorem dX11_unsure_35 : decode cX11_unsure 35 = .ok (.invokestatic 261, 3) := by decide +kernel
theorem dX11_unsure_38 : decode cX11_unsure 38 = .ok (.lstore 7, 2) := by decide +kernel
theorem dX11_unsure_40 : decode cX11_unsure 40 = .ok (.lload 7, 2) := by decide +kernel
theorem dX11_unsure_42 : decode cX11_unsure 42 = .ok (.lload 5, 2) := by decide +kernel
theorem dX11_unsure_44 : decode cX11_unsure 44 = .ok (.invokestatic 264, 3) := by decide +kernel
theorem dX11_unsure_47 : decode cX11_unsure 47 = .ok (.lstore 9, 2) := by decide +kernel
theorem dX11_unsure_49 : decode cX11_unsure 49 = .ok (.lload 5, 2) := by decide +kernel
theorem dX11_unsure_51 : decode cX11_unsure 51 = .ok (.lconst 0, 1) := by decide +kernel
theorem dX11_unsure_52 : decode cX11_unsure 52 = .ok (.lcmp, 1) := by decide +kernel
theorem dX11_unsure_53 : decode cX11_unsure 53 = .ok (.ifCond .eq 10, 3) := by decide +kernel
theorem dX11_unsure_56 : decode cX11_unsure 56 = .ok (.lload 9, 2) := by decide +kernel
theorem dX11_unsure_58 : decode cX11_unsure 58 = .ok (.lconst 0, 1) := by decide +kernel
theorem dX11_unsure_59 : decode cX11_unsure 59 = .ok (.lcmp, 1) := by decide +kernel
theorem dX11_unsure_60 : decode cX11_unsure 60 = .ok (.ifCond .ne 7, 3) := by decide +kernel
theorem dX11_unsure_63 : decode cX11_unsure 63 = .ok (.ldc2_w 255, 3) := by decide +kernel
theorem dX11_unsure_66 : decode cX11_unsure 66 = .ok (.lreturn, 1) := by decide +kernel
theorem dX11_unsure_67 : decode cX11_unsure 67 = .ok (.iload_n 3, 1) := by decide +kernel
theorem dX11_unsure_68 : decode cX11_unsure 68 = .ok (.ifCond .eq 8, 3) := by decide +kernel
theorem dX11_unsure_71 : decode cX11_unsure 71 = .ok (.lload 5, 2) := by decide +kernel
theorem dX11_unsure_73 : decode cX11_unsure 73 = .ok (.goto 5, 3) := by decide +kernel
theorem dX11_unsure_76 : decode cX11_unsure 76 = .ok (.lload 7, 2) := by decide +kernel
theorem dX11_unsure_78 : decode cX11_unsure 78 = .ok (.lload 9, 2) := by decide +kernel
theorem dX11_unsure_80 : decode cX11_unsure 80 = .ok (.ldiv, 1) := by decide +kernel
theorem dX11_unsure_81 : decode cX11_unsure 81 = .ok (.iload_n 2, 1) := by decide +kernel
theorem dX11_unsure_82 : decode cX11_unsure 82 = .ok (.invokestatic 268, 3) := by decide +kernel
theorem dX11_unsure_85 : decode cX11_unsure 85 = .ok (.lreturn, 1) := by decide +kernel
noncomputable def fX11_unsure (μ : zM) (x0 : Nat) (x1 : Int32) (x2 : Int32) (x3 : Int32) : Option (Int64) := zgd (zm_ck μ 11 x0) <|
  zb1 (fX11_valleyAt μ x0 x1) fun v2 =>
  zmo v2 (
  some (-1)) fun a3 =>
  if x2 < 0 then (
  some (-1))
  else (
  if x2 ≤ 6 then (
  zb1 (fX10_weightOfAll μ a3) fun v5 =>
  zb1 (fX10_weightOfSelfSame μ a3) fun v7 =>
  zb1 (fX10_commonDivisor μ v7 v5) fun v9 =>
  if (lg_cmp v5 0) = 0 then (
  some (-1))
  else (
  if (lg_cmp v9 0) = 0 then (
  some (-1))
  else (
  zb1 (if x3 = 0 then (
  some v7)
  else (
  some v5) : Option (Int64)) fun (s10 : Int64) =>
  zni (v9 = 0) <|
  zb1 (fX10_power μ (s10 / v9) x2) fun v14 =>
  some v14)))
  else (
  some (-1)))
theorem fX11_unsure_ck {μ : zM} {x0 : Nat} {x1 : Int32} {x2 : Int32} {x3 : Int32} {z : Int64} (h : fX11_unsure μ x0 x1 x2 x3 = some z) : zm_ck μ 11 x0 = true := (zgd_s h).1
set_option maxHeartbeats 4000000 in
set_option maxRecDepth 100000 in
theorem cX11_unsure_ok {μ : zM} {x0 : Nat} {x1 : Int32} {x2 : Int32} {x3 : Int32} {r : Int64} (hf : fX11_unsure μ x0 x1 x2 x3 = some r) : zC yX11_unsure cX11_unsure 11 (some .long) 1 0 0 [.ref x0, .int x1, .int x2, .int x3] μ (some (.long r)) μ := by
  replace hf := (zgd_s hf).2
  refine zC.of (by decide) (Nat.le_of_ble_eq_true rfl) (fun K hin => ?_)
  clear hin
  show zz K cX11_unsure (11, RX11, some .long, 1, 0, 0, some (.long r), μ) 0 0 0 [(0, .ref x0), (1, .int x1), (2, .int x2), (3, .int x3)] [] μ
  refine zr_aload_n 0 dX11_unsure_0 rfl ?_
  refine zr_iload_n 1 dX11_unsure_1 rfl ?_
  replace hf := zb1_s hf
  obtain ⟨v2, h1, hf⟩ := hf
  refine zr_callV (ci := 11) [.int x1] (cX11_valleyAt_ok h1) zvs_X11_valleyAt zl_684 zl_685 (fX11_valleyAt_ck h1) rfl rfl zl_683 rfl (Nat.le_of_ble_eq_true rfl) (Nat.le_of_ble_eq_true rfl) (Nat.le_of_ble_eq_true rfl) (Nat.le_of_ble_eq_true rfl) dX11_unsure_2 rfl ?_
  refine zr_ostore [(4, va_rf v2), (0, .ref x0), (1, .int x1), (2, .int x2), (3, .int x3)] dX11_unsure_5 (Nat.le_of_ble_eq_true rfl) rfl ?_
  refine zr_oload 0 dX11_unsure_7 rfl ?_
  cases v2 with
  | none =>
    replace hf := zmo_n hf
    refine zr_ifnull_n 22 dX11_unsure_9 (by decide) ?_
    refine zr_ldc2 zl_811 dX11_unsure_22 ?_
    cases hf
    exact zr_lret dX11_unsure_25
  | some a3 =>
    replace hf := zmo_s hf
    refine zr_ifnull_r dX11_unsure_9 ?_
    refine zr_iload_n 3 dX11_unsure_12 rfl ?_
    refine zr_if_lt 22 dX11_unsure_13 (by decide) (fun hc => ?_) (fun hc => ?_)
    · rw [if_pos hc] at hf
      refine zr_ldc2 zl_811 dX11_unsure_22 ?_
      cases hf
      exact zr_lret dX11_unsure_25
    · rw [if_neg hc] at hf
      refine zr_iload_n 3 dX11_unsure_16 rfl ?_
      refine zr_bipush 6 dX11_unsure_17 (by decide) ?_
      refine zr_icmp_le 26 dX11_unsure_19 (by decide) (fun hc => ?_) (fun hc => ?_)
      · rw [if_pos hc] at hf
        refine zr_aload 0 dX11_unsure_26 rfl ?_
        replace hf := zb1_s hf
        obtain ⟨v5, h4, hf⟩ := hf
        refine zr_callS [.ref a3] (cX10_weightOfAll_ok h4) zvs_X10_weightOfAll zl_814 zl_813 rfl (Nat.le_of_ble_eq_true rfl) (Nat.le_of_ble_eq_true rfl) (Nat.le_of_ble_eq_true rfl) (Nat.le_of_ble_eq_true rfl) dX11_unsure_28 rfl ?_
        refine zr_lstore [(5, .long v5), (4, .ref a3), (0, .ref x0), (1, .int x1), (2, .int x2), (3, .int x3)] dX11_unsure_31 (Nat.le_of_ble_eq_true rfl) rfl ?_
        refine zr_aload 1 dX11_unsure_33 rfl ?_
        replace hf := zb1_s hf
        obtain ⟨v7, h6, hf⟩ := hf
        refine zr_callS [.ref a3] (cX10_weightOfSelfSame_ok h6) zvs_X10_weightOfSelfSame zl_817 zl_816 rfl (Nat.le_of_ble_eq_true rfl) (Nat.le_of_ble_eq_true rfl) (Nat.le_of_ble_eq_true rfl) (Nat.le_of_ble_eq_true rfl) dX11_unsure_35 rfl ?_
        refine zr_lstore [(7, .long v7), (5, .long v5), (4, .ref a3), (0, .ref x0), (1, .int x1), (2, .int x2), (3, .int x3)] dX11_unsure_38 (Nat.le_of_ble_eq_true rfl) rfl ?_
        refine zr_lload 0 dX11_unsure_40 rfl ?_
        refine zr_lload 1 dX11_unsure_42 rfl ?_
        replace hf := zb1_s hf
        obtain ⟨v9, h8, hf⟩ := hf
        refine zr_callS [.long v7, .long v5] (cX10_commonDivisor_ok h8) zvs_X10_commonDivisor zl_820 zl_819 rfl (Nat.le_of_ble_eq_true rfl) (Nat.le_of_ble_eq_true rfl) (Nat.le_of_ble_eq_true rfl) (Nat.le_of_ble_eq_true rfl) dX11_unsure_44 rfl ?_
        refine zr_lstore [(9, .long v9), (7, .long v7), (5, .long v5), (4, .ref a3), (0, .ref x0), (1, .int x1), (2, .int x2), (3, .int x3)] dX11_unsure_47 (Nat.le_of_ble_eq_true rfl) rfl ?_
        refine zr_lload 2 dX11_unsure_49 rfl ?_
        refine zr_lconst 0 dX11_unsure_51 (by decide) ?_
        refine zr_lcmp dX11_unsure_52 ?_
        refine zr_if_eq 63 dX11_unsure_53 (by decide) (fun hc => ?_) (fun hc => ?_)
        · rw [if_pos hc] at hf
          refine zr_ldc2 zl_811 dX11_unsure_63 ?_
          cases hf
          exact zr_lret dX11_unsure_66
        · rw [if_neg hc] at hf
          refine zr_lload 0 dX11_unsure_56 rfl ?_
          refine zr_lconst 0 dX11_unsure_58 (by decide) ?_
          refine zr_lcmp dX11_unsure_59 ?_
          refine zr_if_ne 67 dX11_unsure_60 (by decide) (fun hc => ?_) (fun hc => ?_)
          · rw [if_neg hc] at hf
            refine zr_iload_n 7 dX11_unsure_67 rfl ?_
            replace hf := zb1_s hf
            obtain ⟨s10, hg, hf⟩ := hf
            have hj11 : zz K cX11_unsure (11, RX11, some .long, 1, 0, 0, some (.long r), μ) 0 0 78 [(2, .int x2), (9, .long v9)] [.long s10] μ := by
              refine zr_lload 1 dX11_unsure_78 rfl ?_
              replace hf := zni_s hf
              obtain ⟨hn12, hf⟩ := hf
              refine zr_ldiv dX11_unsure_80 hn12 ?_
              refine zr_iload_n 0 dX11_unsure_81 rfl ?_
              replace hf := zb1_s hf
              obtain ⟨v14, h13, hf⟩ := hf
              refine zr_callS [.long (s10 / v9), .int x2] (cX10_power_ok h13) zvs_X10_power zl_823 zl_822 rfl (Nat.le_of_ble_eq_true rfl) (Nat.le_of_ble_eq_true rfl) (Nat.le_of_ble_eq_true rfl) (Nat.le_of_ble_eq_true rfl) dX11_unsure_82 rfl ?_
              cases hf
              exact zr_lret dX11_unsure_85
            clear hf
            have hf := hg
            clear hg
            refine zr_if_eq 76 dX11_unsure_68 (by decide) (fun hc => ?_) (fun hc => ?_)
            · rw [if_pos hc] at hf
              refine zr_lload 1 dX11_unsure_76 rfl ?_
              cases hf
              exact zr_lv [6, 0] rfl hj11
            · rw [if_neg hc] at hf
              refine zr_lload 2 dX11_unsure_71 rfl ?_
              refine zr_goto 78 dX11_unsure_73 (by decide) ?_
              cases hf
              exact zr_lv [6, 0] rfl hj11
          · rw [if_pos hc] at hf
            refine zr_ldc2 zl_811 dX11_unsure_63 ?_
            cases hf
            exact zr_lret dX11_unsure_66
      · rw [if_neg hc] at hf
        refine zr_ldc2 zl_811 dX11_unsure_22 ?_
        cases hf
        exact zr_lret dX11_unsure_25
theorem zl_824 : Cond.methodLink RX11 272 yX9_hasPerson ∈ zt := zt_at 1221 (by decide +kernel)
theorem zl_825 : Cond.code yX0_reach cX0_reach 7 (none) ∈ zt := zt_at 1225 (by decide +kernel)
theorem zvs_X0_reach : zvS yX0_reach cX0_reach 7 (none) 4 := ⟨zl_825, zl_31, ⟨by decide +kernel, by decide +kernel, by decide +kernel⟩, by decide⟩
theorem zl_826 : Cond.methodLink RX11 275 yX0_reach ∈ zt := zt_at 1222 (by decide +kernel)
theorem zl_827 : Cond.instanceMethod yX0_reach ∈ zt := zt_at 1223 (by decide +kernel)
theorem zl_828 : Cond.selects RX0 yX0_reach yX0_reach ∈ zt := zt_at 1224 (by decide +kernel)
theorem zl_829 : Cond.code yX0_howManyReached cX0_howManyReached 3 (some .int) ∈ zt := zt_at 1244 (by decide +kernel)
theorem zvs_X0_howManyReached : zvS yX0_howManyReached cX0_howManyReached 3 (some .int) 0 := ⟨zl_829, zl_31, ⟨by decide +kernel, by decide +kernel, by decide +kernel⟩, by decide⟩
theorem zl_830 : Cond.methodLink RX11 282 yX0_howManyReached ∈ zt := zt_at 1241 (by decide +kernel)
theorem zl_831 : Cond.instanceMethod yX0_howManyReached ∈ zt := zt_at 1242 (by decide +kernel)
theorem zl_832 : Cond.selects RX0 yX0_howManyReached yX0_howManyReached ∈ zt := zt_at 1243 (by decide +kernel)
theorem zl_833 : Cond.code yX0_lastReached cX0_lastReached 3 (some .int) ∈ zt := zt_at 1239 (by decide +kernel)
theorem zvs_X0_lastReached : zvS yX0_lastReached cX0_lastReached 3 (some .int) 0 := ⟨zl_833, zl_31, ⟨by decide +kernel, by decide +kernel, by decide +kernel⟩, by decide⟩
theorem zl_834 : Cond.methodLink RX11 279 yX0_lastReached ∈ zt := zt_at 1236 (by decide +kernel)
theorem zl_835 : Cond.instanceMethod yX0_lastReached ∈ zt := zt_at 1237 (by decide +kernel)
theorem zl_836 : Cond.selects RX0 yX0_lastReached yX0_lastReached ∈ zt := zt_at 1238 (by decide +kernel)
theorem dX11_spread_0 : decode cX11_spread 0 = .ok (.aload_n 0, 1) := by decide +kernel
theorem dX11_spread_1 : decode cX11_spread 1 = .ok (.iload_n 1, 1) := by decide +kernel
theorem dX11_spread_2 : decode cX11_spread 2 = .ok (.invokevirtual 89, 3) := by decide +kernel
theorem dX11_spread_5 : decode cX11_spread 5 = .ok (.astore 5, 2) := by decide +kernel
theorem dX11_spread_7 : decode cX11_spread 7 = .ok (.aload 5, 2) := by decide +kernel
theorem dX11_spread_9 : decode cX11_spread 9 = .ok (.ifnull 19, 3) := by decide +kernel
theorem dX11_spread_12 : decode cX11_spread 12 = .ok (.aload 5, 2) := by decide +kernel
theorem dX11_spread_14 : decode cX11_spread 14 = .ok (.iload_n 2, 1) := by decide +kernel
theorem dX11_spread_15 : decode cX11_spread 15 = .ok (.invokevirtual 272, 3) := by decide +kernel
theorem dX11_spread_18 : decode cX11_spread 18 = .ok (.ifCond .eq 10, 3) := by decide +kernel
theorem dX11_spread_21 : decode cX11_spread 21 = .ok (.iload_n 3, 1) := by decide +kernel
theorem dX11_spread_22 : decode cX11_spread 22 = .ok (.invokestatic 106, 3) := by decide +kernel
theorem dX11_spread_25 : decode cX11_spread 25 = .ok (.ifCond .ne 5, 3) := by decide +kernel
theorem dX11_spread_28 : decode cX11_spread 28 = .ok (.iconst (-1), 1) := by decide +kernel
theorem dX11_spread_29 : decode cX11_spread 29 = .ok (.ireturn, 1) := by decide +kernel
theorem dX11_spread_30 : decode cX11_spread 30 = .ok (.aload_n 0, 1) := by decide +kernel
theorem dX11_spread_31 : decode cX11_spread 31 = .ok (.getfield 57, 3) := by decide +kernel
theorem dX11_spread_34 : decode cX11_spread 34 = .ok (.aload 5, 2) := by decide +kernel
theorem dX11_spread_36 : decode cX11_spread 36 = .ok (.iload_n 2, 1) := by decide +kernel
theorem dX11_spread_37 : decode cX11_spread 37 = .ok (.iload_n 3, 1) := by decide +kernel
theorem dX11_spread_38 : decode cX11_spread 38 = .ok (.iconst 0, 1) := by decide +kernel
theorem dX11_spread_39 : decode cX11_spread 39 = .ok (.invokevirtual 275, 3) := by decide +kernel
theorem dX11_spread_42 : decode cX11_spread 42 = .ok (.iload 4, 2) := by decide +kernel
theorem dX11_spread_44 : decode cX11_spread 44 = .ok (.ifCond .eq 13, 3) := by decide +kernel
theorem dX11_spread_47 : decode cX11_spread 47 = .ok (.aload_n 0, 1) := by decide +kernel
theorem dX11_spread_48 : decode cX11_spread 48 = .ok (.getfield 57, 3) := by decide +kernel
theorem dX11_spread_51 : decode cX11_spread 51 = .ok (.invokevirtual 279, 3) := by decide +kernel
theorem dX11_spread_54 : decode cX11_spread 54 = .ok (.goto 10, 3) := by decide +kernel
theorem dX11_spread_57 : decode cX11_spread 57 = .ok (.aload_n 0, 1) := by decide +kernel
theorem dX11_spread_58 : decode cX11_spread 58 = .ok (.getfield 57, 3) := by decide +kernel
theorem dX11_spread_61 : decode cX11_spread 61 = .ok (.invokevirtual 282, 3) := by decide +kernel
theorem dX11_spread_64 : decode cX11_spread 64 = .ok (.ireturn, 1) := by decide +kernel
noncomputable def fX11_spread (μ : zM) (x0 : Nat) (x1 : Int32) (x2 : Int32) (x3 : Int32) (x4 : Int32) : Option (Int32 × zM) := zgd (zm_ck μ 11 x0) <|
  zb1 (fX11_valleyAt μ x0 x1) fun v2 =>
  zmo v2 (
  some ((-1), μ)) fun a3 =>
  zb1 (fX9_hasPerson μ a3 x2) fun v5 =>
  if v5 = 0 then (
  some ((-1), μ))
  else (
  zb1 (fX11_isLoud μ x3) fun v7 =>
  if v7 = 0 then (
  some ((-1), μ))
  else (
  zb1 (zm_gR μ 11 x0 6) fun v8 =>
  zb1 (fX0_reach μ v8 a3 x2 x3 0) fun m11 =>
  zb1 (if x4 = 0 then (
  zb1 (zm_gR m11 11 x0 6) fun v14 =>
  zb1 (fX0_howManyReached m11 v14) fun v17 =>
  some v17)
  else (
  zb1 (zm_gR m11 11 x0 6) fun v18 =>
  zb1 (fX0_lastReached m11 v18) fun v21 =>
  some v21) : Option (Int32)) fun (s12 : Int32) =>
  some (s12, m11)))
theorem fX11_spread_ck {μ : zM} {x0 : Nat} {x1 : Int32} {x2 : Int32} {x3 : Int32} {x4 : Int32} {z : Int32 × zM} (h : fX11_spread μ x0 x1 x2 x3 x4 = some z) : zm_ck μ 11 x0 = true := (zgd_s h).1
set_option maxHeartbeats 4000000 in
set_option maxRecDepth 100000 in
theorem cX11_spread_ok {μ : zM} {x0 : Nat} {x1 : Int32} {x2 : Int32} {x3 : Int32} {x4 : Int32} {r : Int32} {mo : zM} (hf : fX11_spread μ x0 x1 x2 x3 x4 = some (r, mo)) : zC yX11_spread cX11_spread 6 (some .int) 4 0 0 [.ref x0, .int x1, .int x2, .int x3, .int x4] μ (some (.int r)) mo := by
  replace hf := (zgd_s hf).2
  refine zC.of (by decide) (Nat.le_of_ble_eq_true rfl) (fun K hin => ?_)
  clear hin
  show zz K cX11_spread (6, RX11, some .int, 4, 0, 0, some (.int r), mo) 0 0 0 [(0, .ref x0), (1, .int x1), (2, .int x2), (3, .int x3), (4, .int x4)] [] μ
  refine zr_aload_n 0 dX11_spread_0 rfl ?_
  refine zr_iload_n 1 dX11_spread_1 rfl ?_
  replace hf := zb1_s hf
  obtain ⟨v2, h1, hf⟩ := hf
  refine zr_callV (ci := 11) [.int x1] (cX11_valleyAt_ok h1) zvs_X11_valleyAt zl_684 zl_685 (fX11_valleyAt_ck h1) rfl rfl zl_683 rfl (Nat.le_of_ble_eq_true rfl) (Nat.le_of_ble_eq_true rfl) (Nat.le_of_ble_eq_true rfl) (Nat.le_of_ble_eq_true rfl) dX11_spread_2 rfl ?_
  refine zr_ostore [(5, va_rf v2), (0, .ref x0), (1, .int x1), (2, .int x2), (3, .int x3), (4, .int x4)] dX11_spread_5 (Nat.le_of_ble_eq_true rfl) rfl ?_
  refine zr_oload 0 dX11_spread_7 rfl ?_
  cases v2 with
  | none =>
    replace hf := zmo_n hf
    refine zr_ifnull_n 28 dX11_spread_9 (by decide) ?_
    refine zr_iconst (-1) dX11_spread_28 (by decide) ?_
    cases hf
    exact zr_iret dX11_spread_29
  | some a3 =>
    replace hf := zmo_s hf
    refine zr_ifnull_r dX11_spread_9 ?_
    refine zr_aload 0 dX11_spread_12 rfl ?_
    refine zr_iload_n 3 dX11_spread_14 rfl ?_
    replace hf := zb1_s hf
    obtain ⟨v5, h4, hf⟩ := hf
    refine zr_callV (ci := 9) [.int x2] (cX9_hasPerson_ok h4) zvs_X9_hasPerson zl_136 zl_137 (fX9_hasPerson_ck h4) rfl rfl zl_824 rfl (Nat.le_of_ble_eq_true rfl) (Nat.le_of_ble_eq_true rfl) (Nat.le_of_ble_eq_true rfl) (Nat.le_of_ble_eq_true rfl) dX11_spread_15 rfl ?_
    refine zr_if_eq 28 dX11_spread_18 (by decide) (fun hc => ?_) (fun hc => ?_)
    · rw [if_pos hc] at hf
      refine zr_iconst (-1) dX11_spread_28 (by decide) ?_
      cases hf
      exact zr_iret dX11_spread_29
    · rw [if_neg hc] at hf
      refine zr_iload_n 4 dX11_spread_21 rfl ?_
      replace hf := zb1_s hf
      obtain ⟨v7, h6, hf⟩ := hf
      refine zr_callS [.int x3] (cX11_isLoud_ok h6) zvs_X11_isLoud zl_694 zl_693 rfl (Nat.le_of_ble_eq_true rfl) (Nat.le_of_ble_eq_true rfl) (Nat.le_of_ble_eq_true rfl) (Nat.le_of_ble_eq_true rfl) dX11_spread_22 rfl ?_
      refine zr_if_ne 30 dX11_spread_25 (by decide) (fun hc => ?_) (fun hc => ?_)
      · rw [if_neg hc] at hf
        refine zr_aload_n 1 dX11_spread_30 rfl ?_
        replace hf := zb1_s hf
        obtain ⟨v8, h9, hf⟩ := hf
        refine zr_get (zm_gR_g h9) zk11 (by decide) zl_658 dX11_spread_31 ?_
        refine zr_aload 0 dX11_spread_34 rfl ?_
        refine zr_iload_n 3 dX11_spread_36 rfl ?_
        refine zr_iload_n 4 dX11_spread_37 rfl ?_
        refine zr_iconst 0 dX11_spread_38 (by decide) ?_
        replace hf := zb1_s hf
        obtain ⟨m11, h10, hf⟩ := hf
        refine zr_callV (ci := 0) [.ref a3, .int x2, .int x3, .int 0] (cX0_reach_ok h10) zvs_X0_reach zl_827 zl_828 (fX0_reach_ck h10) rfl rfl zl_826 rfl (Nat.le_of_ble_eq_true rfl) (Nat.le_of_ble_eq_true rfl) (Nat.le_of_ble_eq_true rfl) (Nat.le_of_ble_eq_true rfl) dX11_spread_39 rfl ?_
        refine zr_iload 5 dX11_spread_42 rfl ?_
        replace hf := zb1_s hf
        obtain ⟨s12, hg, hf⟩ := hf
        have hj13 : zz K cX11_spread (6, RX11, some .int, 4, 0, 0, some (.int r), mo) 0 0 64 [] [.int s12] m11 := by
          cases hf
          exact zr_iret dX11_spread_64
        clear hf
        have hf := hg
        clear hg
        refine zr_if_eq 57 dX11_spread_44 (by decide) (fun hc => ?_) (fun hc => ?_)
        · rw [if_pos hc] at hf
          refine zr_aload_n 1 dX11_spread_57 rfl ?_
          replace hf := zb1_s hf
          obtain ⟨v14, h15, hf⟩ := hf
          refine zr_get (zm_gR_g h15) zk11 (by decide) zl_658 dX11_spread_58 ?_
          replace hf := zb1_s hf
          obtain ⟨v17, h16, hf⟩ := hf
          refine zr_callV (ci := 0) [] (cX0_howManyReached_ok h16) zvs_X0_howManyReached zl_831 zl_832 (fX0_howManyReached_ck h16) rfl rfl zl_830 rfl (Nat.le_of_ble_eq_true rfl) (Nat.le_of_ble_eq_true rfl) (Nat.le_of_ble_eq_true rfl) (Nat.le_of_ble_eq_true rfl) dX11_spread_61 rfl ?_
          cases hf
          exact zr_lv [] rfl hj13
        · rw [if_neg hc] at hf
          refine zr_aload_n 1 dX11_spread_47 rfl ?_
          replace hf := zb1_s hf
          obtain ⟨v18, h19, hf⟩ := hf
          refine zr_get (zm_gR_g h19) zk11 (by decide) zl_658 dX11_spread_48 ?_
          replace hf := zb1_s hf
          obtain ⟨v21, h20, hf⟩ := hf
          refine zr_callV (ci := 0) [] (cX0_lastReached_ok h20) zvs_X0_lastReached zl_835 zl_836 (fX0_lastReached_ck h20) rfl rfl zl_834 rfl (Nat.le_of_ble_eq_true rfl) (Nat.le_of_ble_eq_true rfl) (Nat.le_of_ble_eq_true rfl) (Nat.le_of_ble_eq_true rfl) dX11_spread_51 rfl ?_
          refine zr_goto 64 dX11_spread_54 (by decide) ?_
          cases hf
          exact zr_lv [] rfl hj13
      · rw [if_pos hc] at hf
        refine zr_iconst (-1) dX11_spread_28 (by decide) ?_
        cases hf
        exact zr_iret dX11_spread_29
theorem zl_837 : Cond.code yX0_fewestGuards cX0_fewestGuards 6 (some .int) ∈ zt := zt_at 1251 (by decide +kernel)
theorem zvs_X0_fewestGuards : zvS yX0_fewestGuards cX0_fewestGuards 6 (some .int) 2 := ⟨zl_837, zl_31, ⟨by decide +kernel, by decide +kernel, by decide +kernel⟩, by decide⟩
theorem zl_838 : Cond.methodLink RX11 285 yX0_fewestGuards ∈ zt := zt_at 1249 (by decide +kernel)
theorem zl_839 : Cond.static yX0_fewestGuards ∈ zt := zt_at 1250 (by decide +kernel)
theorem dX11_guards_0 : decode cX11_guards 0 = .ok (.aload_n 0, 1) := by decide +kernel
theorem dX11_guards_1 : decode cX11_guards 1 = .ok (.iload_n 1, 1) := by decide +kernel
theorem dX11_guards_2 : decode cX11_guards 2 = .ok (.invokevirtual 89, 3) := by decide +kernel
theorem dX11_guards_5 : decode cX11_guards 5 = .ok (.astore_n 3, 1) := by decide +kernel
theorem dX11_guards_6 : decode cX11_guards 6 = .ok (.aload_n 3, 1) := by decide +kernel
theorem dX11_guards_7 : decode cX11_guards 7 = .ok (.ifnull 10, 3) := by decide +kernel
theorem dX11_guards_10 : decode cX11_guards 10 = .ok (.iload_n 2, 1) := by decide +kernel
theorem dX11_guards_11 : decode cX11_guards 11 = .ok (.invokestatic 106, 3) := by decide +kernel
theorem dX11_guards_14 : decode cX11_guards 14 = .ok (.ifCond .ne 5, 3) := by decide +kernel
theorem dX11_guards_17 : decode cX11_guards 17 = .ok (.iconst (-1), 1) := by decide +kernel
theorem dX11_guards_18 : decode cX11_guards 18 = .ok (.ireturn, 1) := by decide +kernel
theorem dX11_guards_19 : decode cX11_guards 19 = .ok (.aload_n 3, 1) := by decide +kernel
theorem dX11_guards_20 : decode cX11_guards 20 = .ok (.iload_n 2, 1) := by decide +kernel
theorem dX11_guards_21 : decode cX11_guards 21 = .ok (.invokestatic 285, 3) := by decide +kernel
theorem dX11_guards_24 : decode cX11_guards 24 = .ok (.ireturn, 1) := by decide +kernel
noncomputable def fX11_guards (μ : zM) (x0 : Nat) (x1 : Int32) (x2 : Int32) : Option (Int32) := zgd (zm_ck μ 11 x0) <|
  zb1 (fX11_valleyAt μ x0 x1) fun v2 =>
  zmo v2 (
  some (-1)) fun a3 =>
  zb1 (fX11_isLoud μ x2) fun v5 =>
  if v5 = 0 then (
  some (-1))
  else (
  zb1 (fX0_fewestGuards μ a3 x2) fun v7 =>
  some v7)
theorem fX11_guards_ck {μ : zM} {x0 : Nat} {x1 : Int32} {x2 : Int32} {z : Int32} (h : fX11_guards μ x0 x1 x2 = some z) : zm_ck μ 11 x0 = true := (zgd_s h).1
set_option maxHeartbeats 4000000 in
set_option maxRecDepth 100000 in
theorem cX11_guards_ok {μ : zM} {x0 : Nat} {x1 : Int32} {x2 : Int32} {r : Int32} (hf : fX11_guards μ x0 x1 x2 = some r) : zC yX11_guards cX11_guards 4 (some .int) 5 0 0 [.ref x0, .int x1, .int x2] μ (some (.int r)) μ := by
  replace hf := (zgd_s hf).2
  refine zC.of (by decide) (Nat.le_of_ble_eq_true rfl) (fun K hin => ?_)
  clear hin
  show zz K cX11_guards (4, RX11, some .int, 5, 0, 0, some (.int r), μ) 0 0 0 [(0, .ref x0), (1, .int x1), (2, .int x2)] [] μ
  refine zr_aload_n 0 dX11_guards_0 rfl ?_
  refine zr_iload_n 1 dX11_guards_1 rfl ?_
  replace hf := zb1_s hf
  obtain ⟨v2, h1, hf⟩ := hf
  refine zr_callV (ci := 11) [.int x1] (cX11_valleyAt_ok h1) zvs_X11_valleyAt zl_684 zl_685 (fX11_valleyAt_ck h1) rfl rfl zl_683 rfl (Nat.le_of_ble_eq_true rfl) (Nat.le_of_ble_eq_true rfl) (Nat.le_of_ble_eq_true rfl) (Nat.le_of_ble_eq_true rfl) dX11_guards_2 rfl ?_
  refine zr_ostore_n [(3, va_rf v2), (0, .ref x0), (1, .int x1), (2, .int x2)] dX11_guards_5 (Nat.le_of_ble_eq_true rfl) rfl ?_
  refine zr_oload_n 0 dX11_guards_6 rfl ?_
  cases v2 with
  | none =>
    replace hf := zmo_n hf
    refine zr_ifnull_n 17 dX11_guards_7 (by decide) ?_
    refine zr_iconst (-1) dX11_guards_17 (by decide) ?_
    cases hf
    exact zr_iret dX11_guards_18
  | some a3 =>
    replace hf := zmo_s hf
    refine zr_ifnull_r dX11_guards_7 ?_
    refine zr_iload_n 3 dX11_guards_10 rfl ?_
    replace hf := zb1_s hf
    obtain ⟨v5, h4, hf⟩ := hf
    refine zr_callS [.int x2] (cX11_isLoud_ok h4) zvs_X11_isLoud zl_694 zl_693 rfl (Nat.le_of_ble_eq_true rfl) (Nat.le_of_ble_eq_true rfl) (Nat.le_of_ble_eq_true rfl) (Nat.le_of_ble_eq_true rfl) dX11_guards_11 rfl ?_
    refine zr_if_ne 19 dX11_guards_14 (by decide) (fun hc => ?_) (fun hc => ?_)
    · rw [if_neg hc] at hf
      refine zr_aload_n 0 dX11_guards_19 rfl ?_
      refine zr_iload_n 3 dX11_guards_20 rfl ?_
      replace hf := zb1_s hf
      obtain ⟨v7, h6, hf⟩ := hf
      refine zr_callS [.ref a3, .int x2] (cX0_fewestGuards_ok h6) zvs_X0_fewestGuards zl_839 zl_838 rfl (Nat.le_of_ble_eq_true rfl) (Nat.le_of_ble_eq_true rfl) (Nat.le_of_ble_eq_true rfl) (Nat.le_of_ble_eq_true rfl) dX11_guards_21 rfl ?_
      cases hf
      exact zr_iret dX11_guards_24
    · rw [if_pos hc] at hf
      refine zr_iconst (-1) dX11_guards_17 (by decide) ?_
      cases hf
      exact zr_iret dX11_guards_18
theorem zl_840 : Cond.code yX0_nearestPlace cX0_nearestPlace 4 (some .int) ∈ zt := zt_at 1266 (by decide +kernel)
theorem zvs_X0_nearestPlace : zvS yX0_nearestPlace cX0_nearestPlace 4 (some .int) 2 := ⟨zl_840, zl_31, ⟨by decide +kernel, by decide +kernel, by decide +kernel⟩, by decide⟩
theorem zl_841 : Cond.methodLink RX11 288 yX0_nearestPlace ∈ zt := zt_at 1264 (by decide +kernel)
theorem zl_842 : Cond.static yX0_nearestPlace ∈ zt := zt_at 1265 (by decide +kernel)
theorem zl_843 : Cond.methodLink RX11 292 yX0_farness ∈ zt := zt_at 1270 (by decide +kernel)
theorem dX11_middle_0 : decode cX11_middle 0 = .ok (.aload_n 0, 1) := by decide +kernel
theorem dX11_middle_1 : decode cX11_middle 1 = .ok (.iload_n 1, 1) := by decide +kernel
theorem dX11_middle_2 : decode cX11_middle 2 = .ok (.invokevirtual 89, 3) := by decide +kernel
theorem dX11_middle_5 : decode cX11_middle 5 = .ok (.astore_n 3, 1) := by decide +kernel
theorem dX11_middle_6 : decode cX11_middle 6 = .ok (.aload_n 3, 1) := by decide +kernel
theorem dX11_middle_7 : decode cX11_middle 7 = .ok (.ifnonnull 5, 3) := by decide +kernel
theorem dX11_middle_10 : decode cX11_middle 10 = .ok (.iconst (-1), 1) := by decide +kernel
theorem dX11_middle_11 : decode cX11_middle 11 = .ok (.ireturn, 1) := by decide +kernel
theorem dX11_middle_12 : decode cX11_middle 12 = .ok (.iload_n 2, 1) := by decide +kernel
theorem dX11_middle_13 : decode cX11_middle 13 = .ok (.tableswitch 65 0 3 #[31, 37, 48, 54], 31) := by decide +kernel
theorem dX11_middle_44 : decode cX11_middle 44 = .ok (.aload_n 3, 1) := by decide +kernel
theorem dX11_middle_45 : decode cX11_middle 45 = .ok (.iconst 0, 1) := by decide +kernel
theorem dX11_middle_46 : decode cX11_middle 46 = .ok (.invokestatic 288, 3) := by decide +kernel
theorem dX11_middle_49 : decode cX11_middle 49 = .ok (.ireturn, 1) := by decide +kernel
theorem dX11_middle_50 : decode cX11_middle 50 = .ok (.aload_n 3, 1) := by decide +kernel
theorem dX11_middle_51 : decode cX11_middle 51 = .ok (.aload_n 3, 1) := by decide +kernel
theorem dX11_middle_52 : decode cX11_middle 52 = .ok (.iconst 0, 1) := by decide +kernel
theorem dX11_middle_53 : decode cX11_middle 53 = .ok (.invokestatic 288, 3) := by decide +kernel
theorem dX11_middle_56 : decode cX11_middle 56 = .ok (.iconst 0, 1) := by decide +kernel
theorem dX11_middle_57 : decode cX11_middle 57 = .ok (.invokestatic 292, 3) := by decide +kernel
theorem dX11_middle_60 : decode cX11_middle 60 = .ok (.ireturn, 1) := by decide +kernel
theorem dX11_middle_61 : decode cX11_middle 61 = .ok (.aload_n 3, 1) := by decide +kernel
theorem dX11_middle_62 : decode cX11_middle 62 = .ok (.iconst 1, 1) := by decide +kernel
theorem dX11_middle_63 : decode cX11_middle 63 = .ok (.invokestatic 288, 3) := by decide +kernel
theorem dX11_middle_66 : decode cX11_middle 66 = .ok (.ireturn, 1) := by decide +kernel
theorem dX11_middle_67 : decode cX11_middle 67 = .ok (.aload_n 3, 1) := by decide +kernel
theorem dX11_middle_68 : decode cX11_middle 68 = .ok (.aload_n 3, 1) := by decide +kernel
theorem dX11_middle_69 : decode cX11_middle 69 = .ok (.iconst 1, 1) := by decide +kernel
theorem dX11_middle_70 : decode cX11_middle 70 = .ok (.invokestatic 288, 3) := by decide +kernel
theorem dX11_middle_73 : decode cX11_middle 73 = .ok (.iconst 1, 1) := by decide +kernel
theorem dX11_middle_74 : decode cX11_middle 74 = .ok (.invokestatic 292, 3) := by decide +kernel
theorem dX11_middle_77 : decode cX11_middle 77 = .ok (.ireturn, 1) := by decide +kernel
theorem dX11_middle_78 : decode cX11_middle 78 = .ok (.iconst (-1), 1) := by decide +kernel
theorem dX11_middle_79 : decode cX11_middle 79 = .ok (.ireturn, 1) := by decide +kernel
noncomputable def fX11_middle (μ : zM) (x0 : Nat) (x1 : Int32) (x2 : Int32) : Option (Int32) := zgd (zm_ck μ 11 x0) <|
  zb1 (fX11_valleyAt μ x0 x1) fun v2 =>
  zmo v2 (
  some (-1)) fun a3 =>
  if x2 = 0 then (
  zb1 (fX0_nearestPlace μ a3 0) fun v5 =>
  some v5)
  else (
  if x2 = 1 then (
  zb1 (fX0_nearestPlace μ a3 0) fun v8 =>
  zb1 (fX0_farness μ a3 v8 0) fun v10 =>
  some v10)
  else (
  if x2 = 2 then (
  zb1 (fX0_nearestPlace μ a3 1) fun v13 =>
  some v13)
  else (
  if x2 = 3 then (
  zb1 (fX0_nearestPlace μ a3 1) fun v16 =>
  zb1 (fX0_farness μ a3 v16 1) fun v18 =>
  some v18)
  else (
  some (-1)))))
theorem fX11_middle_ck {μ : zM} {x0 : Nat} {x1 : Int32} {x2 : Int32} {z : Int32} (h : fX11_middle μ x0 x1 x2 = some z) : zm_ck μ 11 x0 = true := (zgd_s h).1
set_option maxHeartbeats 4000000 in
set_option maxRecDepth 100000 in
theorem cX11_middle_ok {μ : zM} {x0 : Nat} {x1 : Int32} {x2 : Int32} {r : Int32} (hf : fX11_middle μ x0 x1 x2 = some r) : zC yX11_middle cX11_middle 4 (some .int) 4 0 0 [.ref x0, .int x1, .int x2] μ (some (.int r)) μ := by
  replace hf := (zgd_s hf).2
  refine zC.of (by decide) (Nat.le_of_ble_eq_true rfl) (fun K hin => ?_)
  clear hin
  show zz K cX11_middle (4, RX11, some .int, 4, 0, 0, some (.int r), μ) 0 0 0 [(0, .ref x0), (1, .int x1), (2, .int x2)] [] μ
  refine zr_aload_n 0 dX11_middle_0 rfl ?_
  refine zr_iload_n 1 dX11_middle_1 rfl ?_
  replace hf := zb1_s hf
  obtain ⟨v2, h1, hf⟩ := hf
  refine zr_callV (ci := 11) [.int x1] (cX11_valleyAt_ok h1) zvs_X11_valleyAt zl_684 zl_685 (fX11_valleyAt_ck h1) rfl rfl zl_683 rfl (Nat.le_of_ble_eq_true rfl) (Nat.le_of_ble_eq_true rfl) (Nat.le_of_ble_eq_true rfl) (Nat.le_of_ble_eq_true rfl) dX11_middle_2 rfl ?_
  refine zr_ostore_n [(3, va_rf v2), (0, .ref x0), (1, .int x1), (2, .int x2)] dX11_middle_5 (Nat.le_of_ble_eq_true rfl) rfl ?_
  refine zr_oload_n 0 dX11_middle_6 rfl ?_
  cases v2 with
  | none =>
    replace hf := zmo_n hf
    refine zr_ifnonnull_n dX11_middle_7 ?_
    refine zr_iconst (-1) dX11_middle_10 (by decide) ?_
    cases hf
    exact zr_iret dX11_middle_11
  | some a3 =>
    replace hf := zmo_s hf
    refine zr_ifnonnull_r 12 dX11_middle_7 (by decide) ?_
    refine zr_iload_n 3 dX11_middle_12 rfl ?_
    rcases zdec (x2 = 0) with hs6 | hs6
    · rw [if_pos hs6] at hf
      refine zr_tableIn (off := 31) 44 dX11_middle_13 (by rw [hs6]; decide) (by rw [hs6]; decide) (by rw [hs6]; rfl) (by decide) ?_
      refine zr_aload_n 0 dX11_middle_44 rfl ?_
      refine zr_iconst 0 dX11_middle_45 (by decide) ?_
      replace hf := zb1_s hf
      obtain ⟨v5, h4, hf⟩ := hf
      refine zr_callS [.ref a3, .int 0] (cX0_nearestPlace_ok h4) zvs_X0_nearestPlace zl_842 zl_841 rfl (Nat.le_of_ble_eq_true rfl) (Nat.le_of_ble_eq_true rfl) (Nat.le_of_ble_eq_true rfl) (Nat.le_of_ble_eq_true rfl) dX11_middle_46 rfl ?_
      cases hf
      exact zr_iret dX11_middle_49
    rw [if_neg hs6] at hf
    rcases zdec (x2 = 1) with hs11 | hs11
    · rw [if_pos hs11] at hf
      refine zr_tableIn (off := 37) 50 dX11_middle_13 (by rw [hs11]; decide) (by rw [hs11]; decide) (by rw [hs11]; rfl) (by decide) ?_
      refine zr_aload_n 0 dX11_middle_50 rfl ?_
      refine zr_aload_n 0 dX11_middle_51 rfl ?_
      refine zr_iconst 0 dX11_middle_52 (by decide) ?_
      replace hf := zb1_s hf
      obtain ⟨v8, h7, hf⟩ := hf
      refine zr_callS [.ref a3, .int 0] (cX0_nearestPlace_ok h7) zvs_X0_nearestPlace zl_842 zl_841 rfl (Nat.le_of_ble_eq_true rfl) (Nat.le_of_ble_eq_true rfl) (Nat.le_of_ble_eq_true rfl) (Nat.le_of_ble_eq_true rfl) dX11_middle_53 rfl ?_
      refine zr_iconst 0 dX11_middle_56 (by decide) ?_
      replace hf := zb1_s hf
      obtain ⟨v10, h9, hf⟩ := hf
      refine zr_callS [.ref a3, .int v8, .int 0] (cX0_farness_ok h9) zvs_X0_farness zl_73 zl_843 rfl (Nat.le_of_ble_eq_true rfl) (Nat.le_of_ble_eq_true rfl) (Nat.le_of_ble_eq_true rfl) (Nat.le_of_ble_eq_true rfl) dX11_middle_57 rfl ?_
      cases hf
      exact zr_iret dX11_middle_60
    rw [if_neg hs11] at hf
    rcases zdec (x2 = 2) with hs14 | hs14
    · rw [if_pos hs14] at hf
      refine zr_tableIn (off := 48) 61 dX11_middle_13 (by rw [hs14]; decide) (by rw [hs14]; decide) (by rw [hs14]; rfl) (by decide) ?_
      refine zr_aload_n 0 dX11_middle_61 rfl ?_
      refine zr_iconst 1 dX11_middle_62 (by decide) ?_
      replace hf := zb1_s hf
      obtain ⟨v13, h12, hf⟩ := hf
      refine zr_callS [.ref a3, .int 1] (cX0_nearestPlace_ok h12) zvs_X0_nearestPlace zl_842 zl_841 rfl (Nat.le_of_ble_eq_true rfl) (Nat.le_of_ble_eq_true rfl) (Nat.le_of_ble_eq_true rfl) (Nat.le_of_ble_eq_true rfl) dX11_middle_63 rfl ?_
      cases hf
      exact zr_iret dX11_middle_66
    rw [if_neg hs14] at hf
    rcases zdec (x2 = 3) with hs19 | hs19
    · rw [if_pos hs19] at hf
      refine zr_tableIn (off := 54) 67 dX11_middle_13 (by rw [hs19]; decide) (by rw [hs19]; decide) (by rw [hs19]; rfl) (by decide) ?_
      refine zr_aload_n 0 dX11_middle_67 rfl ?_
      refine zr_aload_n 0 dX11_middle_68 rfl ?_
      refine zr_iconst 1 dX11_middle_69 (by decide) ?_
      replace hf := zb1_s hf
      obtain ⟨v16, h15, hf⟩ := hf
      refine zr_callS [.ref a3, .int 1] (cX0_nearestPlace_ok h15) zvs_X0_nearestPlace zl_842 zl_841 rfl (Nat.le_of_ble_eq_true rfl) (Nat.le_of_ble_eq_true rfl) (Nat.le_of_ble_eq_true rfl) (Nat.le_of_ble_eq_true rfl) dX11_middle_70 rfl ?_
      refine zr_iconst 1 dX11_middle_73 (by decide) ?_
      replace hf := zb1_s hf
      obtain ⟨v18, h17, hf⟩ := hf
      refine zr_callS [.ref a3, .int v16, .int 1] (cX0_farness_ok h17) zvs_X0_farness zl_73 zl_843 rfl (Nat.le_of_ble_eq_true rfl) (Nat.le_of_ble_eq_true rfl) (Nat.le_of_ble_eq_true rfl) (Nat.le_of_ble_eq_true rfl) dX11_middle_74 rfl ?_
      cases hf
      exact zr_iret dX11_middle_77
    rw [if_neg hs19] at hf
    refine zr_tableOut 78 dX11_middle_13 (by simp only [← Int32.toInt_inj] at hs6 hs11 hs14 hs19; simp at hs6 hs11 hs14 hs19; omega) (by decide) ?_
    refine zr_iconst (-1) dX11_middle_78 (by decide) ?_
    cases hf
    exact zr_iret dX11_middle_79
