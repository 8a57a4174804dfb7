theorem zl_345 : Cond.fieldLink RX4 141 "TwoEchoes$Valley" "people" "I" ∈ zt := zt_at 191 (by decide +kernel)
theorem zl_346 : Cond.fieldLink RX4 138 "TwoEchoes$Valley" "skies" "I" ∈ zt := zt_at 203 (by decide +kernel)
theorem zl_347 : Cond.fieldLink RX4 135 "TwoEchoes$Day" "deeds" "I" ∈ zt := zt_at 247 (by decide +kernel)
theorem zl_348 : Cond.fieldLink RX4 132 "TwoEchoes$Lesson" "pairs" "I" ∈ zt := zt_at 274 (by decide +kernel)
theorem zl_349 : Cond.fieldLink RX4 129 "TwoEchoes$Sight" "facts" "I" ∈ zt := zt_at 295 (by decide +kernel)
theorem dX4_isFull_0 : decode cX4_isFull 0 = .ok (.iload_n 1, 1) := by decide +kernel
theorem dX4_isFull_1 : decode cX4_isFull 1 = .ok (.bipush 16, 2) := by decide +kernel
theorem dX4_isFull_3 : decode cX4_isFull 3 = .ok (.if_icmp .lt 21, 3) := by decide +kernel
theorem dX4_isFull_6 : decode cX4_isFull 6 = .ok (.aload_n 0, 1) := by decide +kernel
theorem dX4_isFull_7 : decode cX4_isFull 7 = .ok (.getfield 35, 3) := by decide +kernel
theorem dX4_isFull_10 : decode cX4_isFull 10 = .ok (.getfield 129, 3) := by decide +kernel
theorem dX4_isFull_13 : decode cX4_isFull 13 = .ok (.bipush 8, 2) := by decide +kernel
theorem dX4_isFull_15 : decode cX4_isFull 15 = .ok (.if_icmp .lt 7, 3) := by decide +kernel
theorem dX4_isFull_18 : decode cX4_isFull 18 = .ok (.iconst 1, 1) := by decide +kernel
theorem dX4_isFull_19 : decode cX4_isFull 19 = .ok (.goto 4, 3) := by decide +kernel
theorem dX4_isFull_22 : decode cX4_isFull 22 = .ok (.iconst 0, 1) := by decide +kernel
theorem dX4_isFull_23 : decode cX4_isFull 23 = .ok (.ireturn, 1) := by decide +kernel
theorem dX4_isFull_24 : decode cX4_isFull 24 = .ok (.iload_n 1, 1) := by decide +kernel
theorem dX4_isFull_25 : decode cX4_isFull 25 = .ok (.bipush 14, 2) := by decide +kernel
theorem dX4_isFull_27 : decode cX4_isFull 27 = .ok (.if_icmp .lt 27, 3) := by decide +kernel
theorem dX4_isFull_30 : decode cX4_isFull 30 = .ok (.iload_n 1, 1) := by decide +kernel
theorem dX4_isFull_31 : decode cX4_isFull 31 = .ok (.bipush 14, 2) := by decide +kernel
theorem dX4_isFull_33 : decode cX4_isFull 33 = .ok (.if_icmp .ne 19, 3) := by decide +kernel
theorem dX4_isFull_36 : decode cX4_isFull 36 = .ok (.aload_n 0, 1) := by decide +kernel
theorem dX4_isFull_37 : decode cX4_isFull 37 = .ok (.getfield 28, 3) := by decide +kernel
theorem dX4_isFull_40 : decode cX4_isFull 40 = .ok (.getfield 132, 3) := by decide +kernel
theorem dX4_isFull_43 : decode cX4_isFull 43 = .ok (.bipush 10, 2) := by decide +kernel
theorem dX4_isFull_45 : decode cX4_isFull 45 = .ok (.if_icmp .lt 7, 3) := by decide +kernel
theorem dX4_isFull_48 : decode cX4_isFull 48 = .ok (.iconst 1, 1) := by decide +kernel
theorem dX4_isFull_49 : decode cX4_isFull 49 = .ok (.goto 4, 3) := by decide +kernel
theorem dX4_isFull_52 : decode cX4_isFull 52 = .ok (.iconst 0, 1) := by decide +kernel
theorem dX4_isFull_53 : decode cX4_isFull 53 = .ok (.ireturn, 1) := by decide +kernel
theorem dX4_isFull_54 : decode cX4_isFull 54 = .ok (.iload_n 1, 1) := by decide +kernel
theorem dX4_isFull_55 : decode cX4_isFull 55 = .ok (.bipush 9, 2) := by decide +kernel
theorem dX4_isFull_57 : decode cX4_isFull 57 = .ok (.if_icmp .lt 21, 3) := by decide +kernel
theorem dX4_isFull_60 : decode cX4_isFull 60 = .ok (.aload_n 0, 1) := by decide +kernel
theorem dX4_isFull_61 : decode cX4_isFull 61 = .ok (.getfield 21, 3) := by decide +kernel
theorem dX4_isFull_64 : decode cX4_isFull 64 = .ok (.getfield 135, 3) := by decide +kernel
theorem dX4_isFull_67 : decode cX4_isFull 67 = .ok (.bipush 40, 2) := by decide +kernel
theorem dX4_isFull_69 : decode cX4_isFull 69 = .ok (.if_icmp .lt 7, 3) := by decide +kernel
theorem dX4_isFull_72 : decode cX4_isFull 72 = .ok (.iconst 1, 1) := by decide +kernel
theorem dX4_isFull_73 : decode cX4_isFull 73 = .ok (.goto 4, 3) := by decide +kernel
theorem dX4_isFull_76 : decode cX4_isFull 76 = .ok (.iconst 0, 1) := by decide +kernel
theorem dX4_isFull_77 : decode cX4_isFull 77 = .ok (.ireturn, 1) := by decide +kernel
theorem dX4_isFull_78 : decode cX4_isFull 78 = .ok (.iload_n 1, 1) := by decide +kernel
theorem dX4_isFull_79 : decode cX4_isFull 79 = .ok (.bipush 7, 2) := by decide +kernel
theorem dX4_isFull_81 : decode cX4_isFull 81 = .ok (.if_icmp .lt 20, 3) := by decide +kernel
theorem dX4_isFull_84 : decode cX4_isFull 84 = .ok (.aload_n 0, 1) := by decide +kernel
theorem dX4_isFull_85 : decode cX4_isFull 85 = .ok (.getfield 12, 3) := by decide +kernel
theorem dX4_isFull_88 : decode cX4_isFull 88 = .ok (.getfield 138, 3) := by decide +kernel
theorem dX4_isFull_91 : decode cX4_isFull 91 = .ok (.iconst 4, 1) := by decide +kernel
theorem dX4_isFull_92 : decode cX4_isFull 92 = .ok (.if_icmp .lt 7, 3) := by decide +kernel
theorem dX4_isFull_95 : decode cX4_isFull 95 = .ok (.iconst 1, 1) := by decide +kernel
theorem dX4_isFull_96 : decode cX4_isFull 96 = .ok (.goto 4, 3) := by decide +kernel
theorem dX4_isFull_99 : decode cX4_isFull 99 = .ok (.iconst 0, 1) := by decide +kernel
theorem dX4_isFull_100 : decode cX4_isFull 100 = .ok (.ireturn, 1) := by decide +kernel
theorem dX4_isFull_101 : decode cX4_isFull 101 = .ok (.iload_n 1, 1) := by decide +kernel
theorem dX4_isFull_102 : decode cX4_isFull 102 = .ok (.iconst 4, 1) := by decide +kernel
theorem dX4_isFull_103 : decode cX4_isFull 103 = .ok (.if_icmp .lt 19, 3) := by decide +kernel
theorem dX4_isFull_106 : decode cX4_isFull 106 = .ok (.aload_n 0, 1) := by decide +kernel
theorem dX4_isFull_107 : decode cX4_isFull 107 = .ok (.getfield 12, 3) := by decide +kernel
theorem dX4_isFull_110 : decode cX4_isFull 110 = .ok (.getfield 141, 3) := by decide +kernel
theorem dX4_isFull_113 : decode cX4_isFull 113 = .ok (.bipush 6, 2) := by decide +kernel
theorem dX4_isFull_115 : decode cX4_isFull 115 = .ok (.if_icmp .lt 7, 3) := by decide +kernel
theorem dX4_isFull_118 : decode cX4_isFull 118 = .ok (.iconst 1, 1) := by decide +kernel
theorem dX4_isFull_119 : decode cX4_isFull 119 = .ok (.goto 4, 3) := by decide +kernel
theorem dX4_isFull_122 : decode cX4_isFull 122 = .ok (.iconst 0, 1) := by decide +kernel
theorem dX4_isFull_123 : decode cX4_isFull 123 = .ok (.ireturn, 1) := by decide +kernel
noncomputable def fX4_isFull (μ : zM) (x0 : Nat) (x1 : Int32) : Option (Int32) := zgd (zm_ck μ 4 x0) <|
  if x1 < 16 then (
  if x1 < 14 then (
  if x1 < 9 then (
  if x1 < 7 then (
  zb1 (if x1 < 4 then (
  some 0)
  else (
  zb1 (zm_gR μ 4 x0 0) fun v5 =>
  zb1 (zm_gI μ 9 v5 4) fun v7 =>
  if v7 < 6 then (
  some 0)
  else (
  some 1)) : Option (Int32)) fun (s1 : Int32) =>
  zb1 (zbz s1) fun v3 =>
  some v3)
  else (
  zb1 (zm_gR μ 4 x0 0) fun v9 =>
  zb1 (zm_gI μ 9 v9 8) fun v11 =>
  zb1 (if v11 < 4 then (
  some 0)
  else (
  some 1) : Option (Int32)) fun (s13 : Int32) =>
  zb1 (zbz s13) fun v15 =>
  some v15))
  else (
  zb1 (zm_gR μ 4 x0 1) fun v17 =>
  zb1 (zm_gI μ 2 v17 0) fun v19 =>
  zb1 (if v19 < 40 then (
  some 0)
  else (
  some 1) : Option (Int32)) fun (s21 : Int32) =>
  zb1 (zbz s21) fun v23 =>
  some v23))
  else (
  zb1 (if x1 = 14 then (
  zb1 (zm_gR μ 4 x0 2) fun v29 =>
  zb1 (zm_gI μ 3 v29 1) fun v31 =>
  if v31 < 10 then (
  some 0)
  else (
  some 1))
  else (
  some 0) : Option (Int32)) fun (s25 : Int32) =>
  zb1 (zbz s25) fun v27 =>
  some v27))
  else (
  zb1 (zm_gR μ 4 x0 3) fun v33 =>
  zb1 (zm_gI μ 6 v33 0) fun v35 =>
  zb1 (if v35 < 8 then (
  some 0)
  else (
  some 1) : Option (Int32)) fun (s37 : Int32) =>
  zb1 (zbz s37) fun v39 =>
  some v39)
theorem fX4_isFull_ck {μ : zM} {x0 : Nat} {x1 : Int32} {z : Int32} (h : fX4_isFull μ x0 x1 = some z) : zm_ck μ 4 x0 = true := (zgd_s h).1
set_option maxHeartbeats 4000000 in
set_option maxRecDepth 100000 in
theorem cX4_isFull_ok {μ : zM} {x0 : Nat} {x1 : Int32} {r : Int32} (hf : fX4_isFull μ x0 x1 = some r) : zC yX4_isFull cX4_isFull 2 (some .boolean) 0 0 0 [.ref x0, .int x1] μ (some (.int r)) μ := by
  replace hf := (zgd_s hf).2
  refine zC.of (by decide) (Nat.le_of_ble_eq_true rfl) (fun K hin => ?_)
  clear hin
  show zz K cX4_isFull (2, RX4, some .boolean, 0, 0, 0, some (.int r), μ) 0 0 0 [(0, .ref x0), (1, .int x1)] [] μ
  refine zr_iload_n 1 dX4_isFull_0 rfl ?_
  refine zr_bipush 16 dX4_isFull_1 (by decide) ?_
  refine zr_icmp_lt 24 dX4_isFull_3 (by decide) (fun hc => ?_) (fun hc => ?_)
  · rw [if_pos hc] at hf
    refine zr_iload_n 1 dX4_isFull_24 rfl ?_
    refine zr_bipush 14 dX4_isFull_25 (by decide) ?_
    refine zr_icmp_lt 54 dX4_isFull_27 (by decide) (fun hc => ?_) (fun hc => ?_)
    · rw [if_pos hc] at hf
      refine zr_iload_n 1 dX4_isFull_54 rfl ?_
      refine zr_bipush 9 dX4_isFull_55 (by decide) ?_
      refine zr_icmp_lt 78 dX4_isFull_57 (by decide) (fun hc => ?_) (fun hc => ?_)
      · rw [if_pos hc] at hf
        refine zr_iload_n 1 dX4_isFull_78 rfl ?_
        refine zr_bipush 7 dX4_isFull_79 (by decide) ?_
        refine zr_icmp_lt 101 dX4_isFull_81 (by decide) (fun hc => ?_) (fun hc => ?_)
        · rw [if_pos hc] at hf
          refine zr_iload_n 1 dX4_isFull_101 rfl ?_
          refine zr_iconst 4 dX4_isFull_102 (by decide) ?_
          replace hf := zb1_s hf
          obtain ⟨s1, hg, hf⟩ := hf
          have hj2 : zz K cX4_isFull (2, RX4, some .boolean, 0, 0, 0, some (.int r), μ) 0 0 123 [] [.int s1] μ := by
            replace hf := zb1_s hf
            obtain ⟨v3, hn4, hf⟩ := hf
            replace hn4 := zbz_s hn4
            obtain ⟨hn4, rfl⟩ := hn4
            cases hf
            exact zr_zret hn4 dX4_isFull_123
          clear hf
          have hf := hg
          clear hg
          refine zr_icmp_lt 122 dX4_isFull_103 (by decide) (fun hc => ?_) (fun hc => ?_)
          · rw [if_pos hc] at hf
            refine zr_iconst 0 dX4_isFull_122 (by decide) ?_
            cases hf
            exact zr_lv [] rfl hj2
          · rw [if_neg hc] at hf
            refine zr_aload_n 0 dX4_isFull_106 rfl ?_
            replace hf := zb1_s hf
            obtain ⟨v5, h6, hf⟩ := hf
            refine zr_get (zm_gR_g h6) zk4 (by decide) zl_246 dX4_isFull_107 ?_
            replace hf := zb1_s hf
            obtain ⟨v7, h8, hf⟩ := hf
            refine zr_get (zm_gI_g h8) zk9 (by decide) zl_345 dX4_isFull_110 ?_
            refine zr_bipush 6 dX4_isFull_113 (by decide) ?_
            refine zr_icmp_lt 122 dX4_isFull_115 (by decide) (fun hc => ?_) (fun hc => ?_)
            · rw [if_pos hc] at hf
              refine zr_iconst 0 dX4_isFull_122 (by decide) ?_
              cases hf
              exact zr_lv [] rfl hj2
            · rw [if_neg hc] at hf
              refine zr_iconst 1 dX4_isFull_118 (by decide) ?_
              refine zr_goto 123 dX4_isFull_119 (by decide) ?_
              cases hf
              exact zr_lv [] rfl hj2
        · rw [if_neg hc] at hf
          refine zr_aload_n 0 dX4_isFull_84 rfl ?_
          replace hf := zb1_s hf
          obtain ⟨v9, h10, hf⟩ := hf
          refine zr_get (zm_gR_g h10) zk4 (by decide) zl_246 dX4_isFull_85 ?_
          replace hf := zb1_s hf
          obtain ⟨v11, h12, hf⟩ := hf
          refine zr_get (zm_gI_g h12) zk9 (by decide) zl_346 dX4_isFull_88 ?_
          refine zr_iconst 4 dX4_isFull_91 (by decide) ?_
          replace hf := zb1_s hf
          obtain ⟨s13, hg, hf⟩ := hf
          have hj14 : zz K cX4_isFull (2, RX4, some .boolean, 0, 0, 0, some (.int r), μ) 0 0 100 [] [.int s13] μ := by
            replace hf := zb1_s hf
            obtain ⟨v15, hn16, hf⟩ := hf
            replace hn16 := zbz_s hn16
            obtain ⟨hn16, rfl⟩ := hn16
            cases hf
            exact zr_zret hn16 dX4_isFull_100
          clear hf
          have hf := hg
          clear hg
          refine zr_icmp_lt 99 dX4_isFull_92 (by decide) (fun hc => ?_) (fun hc => ?_)
          · rw [if_pos hc] at hf
            refine zr_iconst 0 dX4_isFull_99 (by decide) ?_
            cases hf
            exact zr_lv [] rfl hj14
          · rw [if_neg hc] at hf
            refine zr_iconst 1 dX4_isFull_95 (by decide) ?_
            refine zr_goto 100 dX4_isFull_96 (by decide) ?_
            cases hf
            exact zr_lv [] rfl hj14
      · rw [if_neg hc] at hf
        refine zr_aload_n 0 dX4_isFull_60 rfl ?_
        replace hf := zb1_s hf
        obtain ⟨v17, h18, hf⟩ := hf
        refine zr_get (zm_gR_g h18) zk4 (by decide) zl_253 dX4_isFull_61 ?_
        replace hf := zb1_s hf
        obtain ⟨v19, h20, hf⟩ := hf
        refine zr_get (zm_gI_g h20) zk2 (by decide) zl_347 dX4_isFull_64 ?_
        refine zr_bipush 40 dX4_isFull_67 (by decide) ?_
        replace hf := zb1_s hf
        obtain ⟨s21, hg, hf⟩ := hf
        have hj22 : zz K cX4_isFull (2, RX4, some .boolean, 0, 0, 0, some (.int r), μ) 0 0 77 [] [.int s21] μ := by
          replace hf := zb1_s hf
          obtain ⟨v23, hn24, hf⟩ := hf
          replace hn24 := zbz_s hn24
          obtain ⟨hn24, rfl⟩ := hn24
          cases hf
          exact zr_zret hn24 dX4_isFull_77
        clear hf
        have hf := hg
        clear hg
        refine zr_icmp_lt 76 dX4_isFull_69 (by decide) (fun hc => ?_) (fun hc => ?_)
        · rw [if_pos hc] at hf
          refine zr_iconst 0 dX4_isFull_76 (by decide) ?_
          cases hf
          exact zr_lv [] rfl hj22
        · rw [if_neg hc] at hf
          refine zr_iconst 1 dX4_isFull_72 (by decide) ?_
          refine zr_goto 77 dX4_isFull_73 (by decide) ?_
          cases hf
          exact zr_lv [] rfl hj22
    · rw [if_neg hc] at hf
      refine zr_iload_n 1 dX4_isFull_30 rfl ?_
      refine zr_bipush 14 dX4_isFull_31 (by decide) ?_
      replace hf := zb1_s hf
      obtain ⟨s25, hg, hf⟩ := hf
      have hj26 : zz K cX4_isFull (2, RX4, some .boolean, 0, 0, 0, some (.int r), μ) 0 0 53 [] [.int s25] μ := by
        replace hf := zb1_s hf
        obtain ⟨v27, hn28, hf⟩ := hf
        replace hn28 := zbz_s hn28
        obtain ⟨hn28, rfl⟩ := hn28
        cases hf
        exact zr_zret hn28 dX4_isFull_53
      clear hf
      have hf := hg
      clear hg
      refine zr_icmp_ne 52 dX4_isFull_33 (by decide) (fun hc => ?_) (fun hc => ?_)
      · rw [if_neg hc] at hf
        refine zr_iconst 0 dX4_isFull_52 (by decide) ?_
        cases hf
        exact zr_lv [] rfl hj26
      · rw [if_pos hc] at hf
        refine zr_aload_n 0 dX4_isFull_36 rfl ?_
        replace hf := zb1_s hf
        obtain ⟨v29, h30, hf⟩ := hf
        refine zr_get (zm_gR_g h30) zk4 (by decide) zl_259 dX4_isFull_37 ?_
        replace hf := zb1_s hf
        obtain ⟨v31, h32, hf⟩ := hf
        refine zr_get (zm_gI_g h32) zk3 (by decide) zl_348 dX4_isFull_40 ?_
        refine zr_bipush 10 dX4_isFull_43 (by decide) ?_
        refine zr_icmp_lt 52 dX4_isFull_45 (by decide) (fun hc => ?_) (fun hc => ?_)
        · rw [if_pos hc] at hf
          refine zr_iconst 0 dX4_isFull_52 (by decide) ?_
          cases hf
          exact zr_lv [] rfl hj26
        · rw [if_neg hc] at hf
          refine zr_iconst 1 dX4_isFull_48 (by decide) ?_
          refine zr_goto 53 dX4_isFull_49 (by decide) ?_
          cases hf
          exact zr_lv [] rfl hj26
  · rw [if_neg hc] at hf
    refine zr_aload_n 0 dX4_isFull_6 rfl ?_
    replace hf := zb1_s hf
    obtain ⟨v33, h34, hf⟩ := hf
    refine zr_get (zm_gR_g h34) zk4 (by decide) zl_266 dX4_isFull_7 ?_
    replace hf := zb1_s hf
    obtain ⟨v35, h36, hf⟩ := hf
    refine zr_get (zm_gI_g h36) zk6 (by decide) zl_349 dX4_isFull_10 ?_
    refine zr_bipush 8 dX4_isFull_13 (by decide) ?_
    replace hf := zb1_s hf
    obtain ⟨s37, hg, hf⟩ := hf
    have hj38 : zz K cX4_isFull (2, RX4, some .boolean, 0, 0, 0, some (.int r), μ) 0 0 23 [] [.int s37] μ := by
      replace hf := zb1_s hf
      obtain ⟨v39, hn40, hf⟩ := hf
      replace hn40 := zbz_s hn40
      obtain ⟨hn40, rfl⟩ := hn40
      cases hf
      exact zr_zret hn40 dX4_isFull_23
    clear hf
    have hf := hg
    clear hg
    refine zr_icmp_lt 22 dX4_isFull_15 (by decide) (fun hc => ?_) (fun hc => ?_)
    · rw [if_pos hc] at hf
      refine zr_iconst 0 dX4_isFull_22 (by decide) ?_
      cases hf
      exact zr_lv [] rfl hj38
    · rw [if_neg hc] at hf
      refine zr_iconst 1 dX4_isFull_18 (by decide) ?_
      refine zr_goto 23 dX4_isFull_19 (by decide) ?_
      cases hf
      exact zr_lv [] rfl hj38
theorem dX4_mark_0 : decode cX4_mark 0 = .ok (.aload_n 0, 1) := by decide +kernel
theorem dX4_mark_1 : decode cX4_mark 1 = .ok (.getfield 39, 3) := by decide +kernel
theorem dX4_mark_4 : decode cX4_mark 4 = .ok (.ifCond .ne 13, 3) := by decide +kernel
theorem dX4_mark_7 : decode cX4_mark 7 = .ok (.aload_n 0, 1) := by decide +kernel
theorem dX4_mark_8 : decode cX4_mark 8 = .ok (.iload_n 1, 1) := by decide +kernel
theorem dX4_mark_9 : decode cX4_mark 9 = .ok (.putfield 39, 3) := by decide +kernel
theorem dX4_mark_12 : decode cX4_mark 12 = .ok (.aload_n 0, 1) := by decide +kernel
theorem dX4_mark_13 : decode cX4_mark 13 = .ok (.iload_n 2, 1) := by decide +kernel
theorem dX4_mark_14 : decode cX4_mark 14 = .ok (.putfield 43, 3) := by decide +kernel
theorem dX4_mark_17 : decode cX4_mark 17 = .ok (.return_, 1) := by decide +kernel
noncomputable def fX4_mark (μ : zM) (x0 : Nat) (x1 : Int32) (x2 : Int32) : Option (zM) := zgd (zm_ck μ 4 x0) <|
  zb1 (zm_gI μ 4 x0 4) fun v1 =>
  zc1 (if v1 = 0 then (
  zb1 (zm_p μ 4 x0 4 (.int x1)) fun m5 =>
  zb1 (zm_p m5 4 x0 5 (.int x2)) fun m7 =>
  some m7)
  else (
  some μ) : Option (zM)) fun (m3 : zM) =>
  some m3
theorem fX4_mark_ck {μ : zM} {x0 : Nat} {x1 : Int32} {x2 : Int32} {z : zM} (h : fX4_mark μ x0 x1 x2 = some z) : zm_ck μ 4 x0 = true := (zgd_s h).1
set_option maxHeartbeats 4000000 in
set_option maxRecDepth 100000 in
theorem cX4_mark_ok {μ : zM} {x0 : Nat} {x1 : Int32} {x2 : Int32} {mo : zM} (hf : fX4_mark μ x0 x1 x2 = some mo) : zC yX4_mark cX4_mark 3 (none) 0 0 0 [.ref x0, .int x1, .int x2] μ (none) mo := by
  replace hf := (zgd_s hf).2
  refine zC.of (by decide) (Nat.le_of_ble_eq_true rfl) (fun K hin => ?_)
  clear hin
  show zz K cX4_mark (3, RX4, none, 0, 0, 0, none, mo) 0 0 0 [(0, .ref x0), (1, .int x1), (2, .int x2)] [] μ
  refine zr_aload_n 0 dX4_mark_0 rfl ?_
  replace hf := zb1_s hf
  obtain ⟨v1, h2, hf⟩ := hf
  refine zr_get (zm_gI_g h2) zk4 (by decide) zl_267 dX4_mark_1 ?_
  replace hf := zc1_s hf
  obtain ⟨m3, hg, hf⟩ := hf
  have hj4 : zz K cX4_mark (3, RX4, none, 0, 0, 0, none, mo) 0 0 17 [] [] m3 := by
    cases hf
    exact zr_vret dX4_mark_17
  clear hf
  have hf := hg
  clear hg
  refine zr_if_ne 17 dX4_mark_4 (by decide) (fun hc => ?_) (fun hc => ?_)
  · rw [if_neg hc] at hf
    cases hf
    exact zr_lv [] rfl hj4
  · rw [if_pos hc] at hf
    refine zr_aload_n 0 dX4_mark_7 rfl ?_
    refine zr_iload_n 1 dX4_mark_8 rfl ?_
    replace hf := zb1_s hf
    obtain ⟨m5, h6, hf⟩ := hf
    refine zr_put h6 zk4 (by decide) zl_267 rfl rfl rfl dX4_mark_9 ?_
    refine zr_aload_n 0 dX4_mark_12 rfl ?_
    refine zr_iload_n 2 dX4_mark_13 rfl ?_
    replace hf := zb1_s hf
    obtain ⟨m7, h8, hf⟩ := hf
    refine zr_put h8 zk4 (by decide) zl_268 rfl rfl rfl dX4_mark_14 ?_
    cases hf
    exact zr_lv [] rfl hj4
theorem dX4_leastNumber_0 : decode cX4_leastNumber 0 = .ok (.iload_n 1, 1) := by decide +kernel
theorem dX4_leastNumber_1 : decode cX4_leastNumber 1 = .ok (.ifCond .ne 5, 3) := by decide +kernel
theorem dX4_leastNumber_4 : decode cX4_leastNumber 4 = .ok (.iconst 2, 1) := by decide +kernel
theorem dX4_leastNumber_5 : decode cX4_leastNumber 5 = .ok (.ireturn, 1) := by decide +kernel
theorem dX4_leastNumber_6 : decode cX4_leastNumber 6 = .ok (.iload_n 1, 1) := by decide +kernel
theorem dX4_leastNumber_7 : decode cX4_leastNumber 7 = .ok (.bipush 13, 2) := by decide +kernel
theorem dX4_leastNumber_9 : decode cX4_leastNumber 9 = .ok (.if_icmp .ne 5, 3) := by decide +kernel
theorem dX4_leastNumber_12 : decode cX4_leastNumber 12 = .ok (.iconst 1, 1) := by decide +kernel
theorem dX4_leastNumber_13 : decode cX4_leastNumber 13 = .ok (.ireturn, 1) := by decide +kernel
theorem dX4_leastNumber_14 : decode cX4_leastNumber 14 = .ok (.iload_n 1, 1) := by decide +kernel
theorem dX4_leastNumber_15 : decode cX4_leastNumber 15 = .ok (.bipush 7, 2) := by decide +kernel
theorem dX4_leastNumber_17 : decode cX4_leastNumber 17 = .ok (.if_icmp .eq 9, 3) := by decide +kernel
theorem dX4_leastNumber_20 : decode cX4_leastNumber 20 = .ok (.iload_n 1, 1) := by decide +kernel
theorem dX4_leastNumber_21 : decode cX4_leastNumber 21 = .ok (.bipush 8, 2) := by decide +kernel
theorem dX4_leastNumber_23 : decode cX4_leastNumber 23 = .ok (.if_icmp .ne 12, 3) := by decide +kernel
theorem dX4_leastNumber_26 : decode cX4_leastNumber 26 = .ok (.iload_n 2, 1) := by decide +kernel
theorem dX4_leastNumber_27 : decode cX4_leastNumber 27 = .ok (.iconst 1, 1) := by decide +kernel
theorem dX4_leastNumber_28 : decode cX4_leastNumber 28 = .ok (.if_icmp .ne 7, 3) := by decide +kernel
theorem dX4_leastNumber_31 : decode cX4_leastNumber 31 = .ok (.iconst 1, 1) := by decide +kernel
theorem dX4_leastNumber_32 : decode cX4_leastNumber 32 = .ok (.goto 4, 3) := by decide +kernel
theorem dX4_leastNumber_35 : decode cX4_leastNumber 35 = .ok (.iconst 0, 1) := by decide +kernel
theorem dX4_leastNumber_36 : decode cX4_leastNumber 36 = .ok (.istore_n 3, 1) := by decide +kernel
theorem dX4_leastNumber_37 : decode cX4_leastNumber 37 = .ok (.iload_n 3, 1) := by decide +kernel
theorem dX4_leastNumber_38 : decode cX4_leastNumber 38 = .ok (.ifCond .eq 12, 3) := by decide +kernel
theorem dX4_leastNumber_41 : decode cX4_leastNumber 41 = .ok (.aload_n 0, 1) := by decide +kernel
theorem dX4_leastNumber_42 : decode cX4_leastNumber 42 = .ok (.getfield 58, 3) := by decide +kernel
theorem dX4_leastNumber_45 : decode cX4_leastNumber 45 = .ok (.iconst 0, 1) := by decide +kernel
theorem dX4_leastNumber_46 : decode cX4_leastNumber 46 = .ok (.iaload, 1) := by decide +kernel
theorem dX4_leastNumber_47 : decode cX4_leastNumber 47 = .ok (.goto 4, 3) := by decide +kernel
theorem dX4_leastNumber_50 : decode cX4_leastNumber 50 = .ok (.iconst 0, 1) := by decide +kernel
theorem dX4_leastNumber_51 : decode cX4_leastNumber 51 = .ok (.ireturn, 1) := by decide +kernel
noncomputable def fX4_leastNumber_b35  : Option (Int32) :=
  some 0
noncomputable def fX4_leastNumber_b26 (x2 : Int32) : Option (Int32) :=
  if x2 = 1 then (
  some 1)
  else (
  fX4_leastNumber_b35)
noncomputable def fX4_leastNumber (μ : zM) (x0 : Nat) (x1 : Int32) (x2 : Int32) : Option (Int32) := zgd (zm_ck μ 4 x0) <|
  if x1 = 0 then (
  some 2)
  else (
  if x1 = 13 then (
  some 1)
  else (
  zb1 (if x1 = 7 then (
  fX4_leastNumber_b26 x2)
  else (
  if x1 = 8 then (
  fX4_leastNumber_b26 x2)
  else (
  fX4_leastNumber_b35)) : Option (Int32)) fun (s1 : Int32) =>
  zb1 (if s1 = 0 then (
  some 0)
  else (
  zb1 (zm_gR μ 4 x0 11) fun v7 =>
  zb1 (zm_aI μ 0 v7 0) fun v9 =>
  some v9) : Option (Int32)) fun (s5 : Int32) =>
  some s5))
theorem fX4_leastNumber_ck {μ : zM} {x0 : Nat} {x1 : Int32} {x2 : Int32} {z : Int32} (h : fX4_leastNumber μ x0 x1 x2 = some z) : zm_ck μ 4 x0 = true := (zgd_s h).1
set_option maxHeartbeats 4000000 in
set_option maxRecDepth 100000 in
theorem cX4_leastNumber_ok {μ : zM} {x0 : Nat} {x1 : Int32} {x2 : Int32} {r : Int32} (hf : fX4_leastNumber μ x0 x1 x2 = some r) : zC yX4_leastNumber cX4_leastNumber 4 (some .int) 0 0 0 [.ref x0, .int x1, .int x2] μ (some (.int r)) μ := by
  replace hf := (zgd_s hf).2
  refine zC.of (by decide) (Nat.le_of_ble_eq_true rfl) (fun K hin => ?_)
  clear hin
  show zz K cX4_leastNumber (4, RX4, some .int, 0, 0, 0, some (.int r), μ) 0 0 0 [(0, .ref x0), (1, .int x1), (2, .int x2)] [] μ
  refine zr_iload_n 1 dX4_leastNumber_0 rfl ?_
  refine zr_if_ne 6 dX4_leastNumber_1 (by decide) (fun hc => ?_) (fun hc => ?_)
  · rw [if_neg hc] at hf
    refine zr_iload_n 1 dX4_leastNumber_6 rfl ?_
    refine zr_bipush 13 dX4_leastNumber_7 (by decide) ?_
    refine zr_icmp_ne 14 dX4_leastNumber_9 (by decide) (fun hc => ?_) (fun hc => ?_)
    · rw [if_neg hc] at hf
      refine zr_iload_n 1 dX4_leastNumber_14 rfl ?_
      refine zr_bipush 7 dX4_leastNumber_15 (by decide) ?_
      replace hf := zb1_s hf
      obtain ⟨s1, hg, hf⟩ := hf
      have hj2 : zz K cX4_leastNumber (4, RX4, some .int, 0, 0, 0, some (.int r), μ) 0 0 36 [(0, .ref x0)] [.int s1] μ := by
        refine zr_istore_n [(3, .int s1), (0, .ref x0)] dX4_leastNumber_36 (Nat.le_of_ble_eq_true rfl) rfl ?_
        refine zr_iload_n 0 dX4_leastNumber_37 rfl ?_
        replace hf := zb1_s hf
        obtain ⟨s5, hg, hf⟩ := hf
        have hj6 : zz K cX4_leastNumber (4, RX4, some .int, 0, 0, 0, some (.int r), μ) 0 0 51 [] [.int s5] μ := by
          cases hf
          exact zr_iret dX4_leastNumber_51
        clear hf
        have hf := hg
        clear hg
        refine zr_if_eq 50 dX4_leastNumber_38 (by decide) (fun hc => ?_) (fun hc => ?_)
        · rw [if_pos hc] at hf
          refine zr_iconst 0 dX4_leastNumber_50 (by decide) ?_
          cases hf
          exact zr_lv [] rfl hj6
        · rw [if_neg hc] at hf
          refine zr_aload_n 1 dX4_leastNumber_41 rfl ?_
          replace hf := zb1_s hf
          obtain ⟨v7, h8, hf⟩ := hf
          refine zr_get (zm_gR_g h8) zk4 (by decide) zl_273 dX4_leastNumber_42 ?_
          refine zr_iconst 0 dX4_leastNumber_45 (by decide) ?_
          replace hf := zb1_s hf
          obtain ⟨v9, h10, hf⟩ := hf
          refine zr_iald h10 dX4_leastNumber_46 ?_
          refine zr_goto 51 dX4_leastNumber_47 (by decide) ?_
          cases hf
          exact zr_lv [] rfl hj6
      clear hf
      have hf := hg
      clear hg
      have hb3 : ∀ (_ : Unit), fX4_leastNumber_b35 = some s1 → zz K cX4_leastNumber (4, RX4, some .int, 0, 0, 0, some (.int r), μ) 0 0 35 [(0, .ref x0)] [] μ := by
        intro _ hf
        unfold fX4_leastNumber_b35 at hf
        refine zr_iconst 0 dX4_leastNumber_35 (by decide) ?_
        cases hf
        exact zr_lv [0] rfl hj2
      have hb4 : ∀ (_ : Unit), fX4_leastNumber_b26 x2 = some s1 → zz K cX4_leastNumber (4, RX4, some .int, 0, 0, 0, some (.int r), μ) 0 0 26 [(0, .ref x0), (2, .int x2)] [] μ := by
        intro _ hf
        unfold fX4_leastNumber_b26 at hf
        refine zr_iload_n 1 dX4_leastNumber_26 rfl ?_
        refine zr_iconst 1 dX4_leastNumber_27 (by decide) ?_
        refine zr_icmp_ne 35 dX4_leastNumber_28 (by decide) (fun hc => ?_) (fun hc => ?_)
        · rw [if_neg hc] at hf
          exact zr_lv [0] rfl (hb3 () hf)
        · rw [if_pos hc] at hf
          refine zr_iconst 1 dX4_leastNumber_31 (by decide) ?_
          refine zr_goto 36 dX4_leastNumber_32 (by decide) ?_
          cases hf
          exact zr_lv [0] rfl hj2
      refine zr_icmp_eq 26 dX4_leastNumber_17 (by decide) (fun hc => ?_) (fun hc => ?_)
      · rw [if_pos hc] at hf
        exact zr_lv [0, 2] rfl (hb4 () hf)
      · rw [if_neg hc] at hf
        refine zr_iload_n 1 dX4_leastNumber_20 rfl ?_
        refine zr_bipush 8 dX4_leastNumber_21 (by decide) ?_
        refine zr_icmp_ne 35 dX4_leastNumber_23 (by decide) (fun hc => ?_) (fun hc => ?_)
        · rw [if_neg hc] at hf
          exact zr_lv [0] rfl (hb3 () hf)
        · rw [if_pos hc] at hf
          exact zr_lv [0, 2] rfl (hb4 () hf)
    · rw [if_pos hc] at hf
      refine zr_iconst 1 dX4_leastNumber_12 (by decide) ?_
      cases hf
      exact zr_iret dX4_leastNumber_13
  · rw [if_pos hc] at hf
    refine zr_iconst 2 dX4_leastNumber_4 (by decide) ?_
    cases hf
    exact zr_iret dX4_leastNumber_5
theorem zl_350 : Cond.code yX4_isFull cX4_isFull 2 (some .boolean) ∈ zt := zt_at 670 (by decide +kernel)
theorem zvs_X4_isFull : zvS yX4_isFull cX4_isFull 2 (some .boolean) 1 := ⟨zl_350, zl_296, ⟨by decide +kernel, by decide +kernel, by decide +kernel⟩, by decide⟩
theorem zl_351 : Cond.methodLink RX4 119 yX4_isFull ∈ zt := zt_at 667 (by decide +kernel)
theorem zl_352 : Cond.instanceMethod yX4_isFull ∈ zt := zt_at 669 (by decide +kernel)
theorem zl_353 : Cond.selects RX4 yX4_isFull yX4_isFull ∈ zt := zt_at 8 (by decide +kernel)
theorem zl_354 : Cond.fieldLink RX4 106 "TwoEchoes$Reader" "NUMBERS" "[I" ∈ zt := zt_at 657 (by decide +kernel)
theorem zl_355 : Cond.code yX4_leastNumber cX4_leastNumber 4 (some .int) ∈ zt := zt_at 678 (by decide +kernel)
theorem zvs_X4_leastNumber : zvS yX4_leastNumber cX4_leastNumber 4 (some .int) 2 := ⟨zl_355, zl_296, ⟨by decide +kernel, by decide +kernel, by decide +kernel⟩, by decide⟩
theorem zl_356 : Cond.methodLink RX4 123 yX4_leastNumber ∈ zt := zt_at 675 (by decide +kernel)
theorem zl_357 : Cond.instanceMethod yX4_leastNumber ∈ zt := zt_at 677 (by decide +kernel)
theorem zl_358 : Cond.selects RX4 yX4_leastNumber yX4_leastNumber ∈ zt := zt_at 10 (by decide +kernel)
theorem zl_359 : Cond.code yX4_mark cX4_mark 3 (none) ∈ zt := zt_at 674 (by decide +kernel)
theorem zvs_X4_mark : zvS yX4_mark cX4_mark 3 (none) 2 := ⟨zl_359, zl_296, ⟨by decide +kernel, by decide +kernel, by decide +kernel⟩, by decide⟩
theorem zl_360 : Cond.methodLink RX4 89 yX4_mark ∈ zt := zt_at 671 (by decide +kernel)
theorem zl_361 : Cond.instanceMethod yX4_mark ∈ zt := zt_at 673 (by decide +kernel)
theorem zl_362 : Cond.selects RX4 yX4_mark yX4_mark ∈ zt := zt_at 9 (by decide +kernel)
theorem zl_363 : Cond.fieldLink RX4 126 "TwoEchoes$Reader" "GREATEST" "[I" ∈ zt := zt_at 679 (by decide +kernel)
theorem dX4_check_0 : decode cX4_check 0 = .ok (.aload_n 0, 1) := by decide +kernel
theorem dX4_check_1 : decode cX4_check 1 = .ok (.iload_n 1, 1) := by decide +kernel
theorem dX4_check_2 : decode cX4_check 2 = .ok (.invokevirtual 119, 3) := by decide +kernel
theorem dX4_check_5 : decode cX4_check 5 = .ok (.ifCond .eq 9, 3) := by decide +kernel
theorem dX4_check_8 : decode cX4_check 8 = .ok (.aload_n 0, 1) := by decide +kernel
theorem dX4_check_9 : decode cX4_check 9 = .ok (.iconst 3, 1) := by decide +kernel
theorem dX4_check_10 : decode cX4_check 10 = .ok (.iload_n 2, 1) := by decide +kernel
theorem dX4_check_11 : decode cX4_check 11 = .ok (.invokevirtual 89, 3) := by decide +kernel
theorem dX4_check_14 : decode cX4_check 14 = .ok (.iconst 0, 1) := by decide +kernel
theorem dX4_check_15 : decode cX4_check 15 = .ok (.istore_n 3, 1) := by decide +kernel
theorem dX4_check_16 : decode cX4_check 16 = .ok (.iload_n 3, 1) := by decide +kernel
theorem dX4_check_17 : decode cX4_check 17 = .ok (.getstatic 106, 3) := by decide +kernel
theorem dX4_check_20 : decode cX4_check 20 = .ok (.iload_n 1, 1) := by decide +kernel
theorem dX4_check_21 : decode cX4_check 21 = .ok (.iaload, 1) := by decide +kernel
theorem dX4_check_22 : decode cX4_check 22 = .ok (.if_icmp .ge 53, 3) := by decide +kernel
theorem dX4_check_25 : decode cX4_check 25 = .ok (.aload_n 0, 1) := by decide +kernel
theorem dX4_check_26 : decode cX4_check 26 = .ok (.getfield 58, 3) := by decide +kernel
theorem dX4_check_29 : decode cX4_check 29 = .ok (.iload_n 3, 1) := by decide +kernel
theorem dX4_check_30 : decode cX4_check 30 = .ok (.iaload, 1) := by decide +kernel
theorem dX4_check_31 : decode cX4_check 31 = .ok (.aload_n 0, 1) := by decide +kernel
theorem dX4_check_32 : decode cX4_check 32 = .ok (.iload_n 1, 1) := by decide +kernel
theorem dX4_check_33 : decode cX4_check 33 = .ok (.iload_n 3, 1) := by decide +kernel
theorem dX4_check_34 : decode cX4_check 34 = .ok (.invokevirtual 123, 3) := by decide +kernel
theorem dX4_check_37 : decode cX4_check 37 = .ok (.if_icmp .lt 21, 3) := by decide +kernel
theorem dX4_check_40 : decode cX4_check 40 = .ok (.aload_n 0, 1) := by decide +kernel
theorem dX4_check_41 : decode cX4_check 41 = .ok (.getfield 58, 3) := by decide +kernel
theorem dX4_check_44 : decode cX4_check 44 = .ok (.iload_n 3, 1) := by decide +kernel
theorem dX4_check_45 : decode cX4_check 45 = .ok (.iaload, 1) := by decide +kernel
theorem dX4_check_46 : decode cX4_check 46 = .ok (.getstatic 126, 3) := by decide +kernel
theorem dX4_check_49 : decode cX4_check 49 = .ok (.iconst 3, 1) := by decide +kernel
theorem dX4_check_50 : decode cX4_check 50 = .ok (.iload_n 1, 1) := by decide +kernel
theorem dX4_check_51 : decode cX4_check 51 = .ok (.imul, 1) := by decide +kernel
theorem dX4_check_52 : decode cX4_check 52 = .ok (.iload_n 3, 1) := by decide +kernel
theorem dX4_check_53 : decode cX4_check 53 = .ok (.iadd, 1) := by decide +kernel
theorem dX4_check_54 : decode cX4_check 54 = .ok (.iaload, 1) := by decide +kernel
theorem dX4_check_55 : decode cX4_check 55 = .ok (.if_icmp .le 14, 3) := by decide +kernel
theorem dX4_check_58 : decode cX4_check 58 = .ok (.aload_n 0, 1) := by decide +kernel
theorem dX4_check_59 : decode cX4_check 59 = .ok (.iconst 2, 1) := by decide +kernel
theorem dX4_check_60 : decode cX4_check 60 = .ok (.aload_n 0, 1) := by decide +kernel
theorem dX4_check_61 : decode cX4_check 61 = .ok (.getfield 62, 3) := by decide +kernel
theorem dX4_check_64 : decode cX4_check 64 = .ok (.iload_n 3, 1) := by decide +kernel
theorem dX4_check_65 : decode cX4_check 65 = .ok (.iaload, 1) := by decide +kernel
theorem dX4_check_66 : decode cX4_check 66 = .ok (.invokevirtual 89, 3) := by decide +kernel
theorem dX4_check_69 : decode cX4_check 69 = .ok (.iinc 3 1, 3) := by decide +kernel
theorem dX4_check_72 : decode cX4_check 72 = .ok (.goto (-56), 3) := by decide +kernel
theorem dX4_check_75 : decode cX4_check 75 = .ok (.return_, 1) := by decide +kernel
noncomputable def fX4_check_b58 (m6 : zM) (x0 : Nat) (x3_5 : Int32) : Option (zM) :=
  zb1 (zm_gR m6 4 x0 12) fun v21 =>
  zb1 (zm_aI m6 0 v21 x3_5) fun v23 =>
  zb1 (fX4_mark m6 x0 2 v23) fun m26 =>
  some m26
noncomputable def fX4_check_l16 (x1 : Int32) (x0 : Nat) (F7 : Int32 → zM → Option (zM)) (x3_5 : Int32) (m6 : zM) : Option (zM) :=
  zb1 (zm_aI m6 0 (m6.2.2 4) x1) fun v11 =>
  if v11 ≤ x3_5 then (
  some m6)
  else (
  zb1 (zm_gR m6 4 x0 11) fun v13 =>
  zb1 (zm_aI m6 0 v13 x3_5) fun v15 =>
  zb1 (fX4_leastNumber m6 x0 x1 x3_5) fun v18 =>
  zc1 (if v15 < v18 then (
  fX4_check_b58 m6 x0 x3_5)
  else (
  zb1 (zm_gR m6 4 x0 11) fun v28 =>
  zb1 (zm_aI m6 0 v28 x3_5) fun v30 =>
  zb1 (zm_aI m6 0 (m6.2.2 3) ((3 * x1) + x3_5)) fun v32 =>
  if v30 ≤ v32 then (
  some m6)
  else (
  fX4_check_b58 m6 x0 x3_5)) : Option (zM)) fun (m19 : zM) =>
  F7 (x3_5 + 1) m19)
noncomputable def fX4_check (μ : zM) (x0 : Nat) (x1 : Int32) (x2 : Int32) : Option (zM) := zgd (zm_ck μ 4 x0) <|
  zb1 (fX4_isFull μ x0 x1) fun v2 =>
  zc1 (if v2 = 0 then (
  some μ)
  else (
  zb1 (fX4_mark μ x0 3 x2) fun m36 =>
  some m36) : Option (zM)) fun (m3 : zM) =>
  zb1 (zf2 (fX4_check_l16 x1 x0) zfu 0 m3 : Option (zM)) fun (m9 : zM) =>
  some m9
theorem fX4_check_ck {μ : zM} {x0 : Nat} {x1 : Int32} {x2 : Int32} {z : zM} (h : fX4_check μ x0 x1 x2 = some z) : zm_ck μ 4 x0 = true := (zgd_s h).1
set_option maxHeartbeats 4000000 in
set_option maxRecDepth 100000 in
theorem cX4_check_ok {μ : zM} {x0 : Nat} {x1 : Int32} {x2 : Int32} {mo : zM} (hf : fX4_check μ x0 x1 x2 = some mo) : zC yX4_check cX4_check 4 (none) 1 0 0 [.ref x0, .int x1, .int x2] μ (none) mo := by
  replace hf := (zgd_s hf).2
  refine zC.of (by decide) (Nat.le_of_ble_eq_true rfl) (fun K hin => ?_)
  clear hin
  show zz K cX4_check (4, RX4, none, 1, 0, 0, none, mo) 0 0 0 [(0, .ref x0), (1, .int x1), (2, .int x2)] [] μ
  refine zr_aload_n 0 dX4_check_0 rfl ?_
  refine zr_iload_n 1 dX4_check_1 rfl ?_
  replace hf := zb1_s hf
  obtain ⟨v2, h1, hf⟩ := hf
  refine zr_callV (ci := 4) [.int x1] (cX4_isFull_ok h1) zvs_X4_isFull zl_352 zl_353 (fX4_isFull_ck h1) rfl rfl zl_351 rfl (Nat.le_of_ble_eq_true rfl) (Nat.le_of_ble_eq_true rfl) (Nat.le_of_ble_eq_true rfl) (Nat.le_of_ble_eq_true rfl) dX4_check_2 rfl ?_
  replace hf := zc1_s hf
  obtain ⟨m3, hg, hf⟩ := hf
  have hj4 : zz K cX4_check (4, RX4, none, 1, 0, 0, none, mo) 0 0 14 [(0, .ref x0), (1, .int x1)] [] m3 := by
    refine zr_iconst 0 dX4_check_14 (by decide) ?_
    refine zr_istore_n [(3, .int 0), (0, .ref x0), (1, .int x1)] dX4_check_15 (Nat.le_of_ble_eq_true rfl) rfl ?_
    replace hf := zb1_s hf
    obtain ⟨m9, hg, hf⟩ := hf
    have hj10 : zz K cX4_check (4, RX4, none, 1, 0, 0, none, mo) 0 0 75 [] [] m9 := by
      cases hf
      exact zr_vret dX4_check_75
    clear hf
    have hf := hg
    clear hg
    have hL34 : ∀ (n : Nat) (x3_5 : Int32) (m6 : zM), zf2 (fX4_check_l16 x1 x0) n x3_5 m6 = some m9 → zz K cX4_check (4, RX4, none, 1, 0, 0, none, mo) 0 0 16 [(0, .ref x0), (1, .int x1), (3, .int x3_5)] [] m6 := by
      intro n
      induction n with
      | zero => intro x3_5 m6 hf; cases hf
      | succ n ih8 =>
        intro x3_5 m6 hf
        replace hf := zf2_s hf
        generalize zf2 (fX4_check_l16 x1 x0) n = F7 at hf ih8
        unfold fX4_check_l16 at hf
        refine zr_iload_n 2 dX4_check_16 rfl ?_
        refine zr_gets (k := 4) (by decide) zl_354 dX4_check_17 ?_
        refine zr_iload_n 1 dX4_check_20 rfl ?_
        replace hf := zb1_s hf
        obtain ⟨v11, h12, hf⟩ := hf
        refine zr_iald h12 dX4_check_21 ?_
        refine zr_icmp_ge 75 dX4_check_22 (by decide) (fun hc => ?_) (fun hc => ?_)
        · rw [if_pos hc] at hf
          cases hf
          exact zr_lv [] rfl hj10
        · rw [if_neg hc] at hf
          refine zr_aload_n 0 dX4_check_25 rfl ?_
          replace hf := zb1_s hf
          obtain ⟨v13, h14, hf⟩ := hf
          refine zr_get (zm_gR_g h14) zk4 (by decide) zl_273 dX4_check_26 ?_
          refine zr_iload_n 2 dX4_check_29 rfl ?_
          replace hf := zb1_s hf
          obtain ⟨v15, h16, hf⟩ := hf
          refine zr_iald h16 dX4_check_30 ?_
          refine zr_aload_n 0 dX4_check_31 rfl ?_
          refine zr_iload_n 1 dX4_check_32 rfl ?_
          refine zr_iload_n 2 dX4_check_33 rfl ?_
          replace hf := zb1_s hf
          obtain ⟨v18, h17, hf⟩ := hf
          refine zr_callV (ci := 4) [.int x1, .int x3_5] (cX4_leastNumber_ok h17) zvs_X4_leastNumber zl_357 zl_358 (fX4_leastNumber_ck h17) rfl rfl zl_356 rfl (Nat.le_of_ble_eq_true rfl) (Nat.le_of_ble_eq_true rfl) (Nat.le_of_ble_eq_true rfl) (Nat.le_of_ble_eq_true rfl) dX4_check_34 rfl ?_
          replace hf := zc1_s hf
          obtain ⟨m19, hg, hf⟩ := hf
          have hj20 : zz K cX4_check (4, RX4, none, 1, 0, 0, none, mo) 0 0 69 [(0, .ref x0), (1, .int x1), (3, .int x3_5)] [] m19 := by
            refine zr_iinc (j := 2) (x3_5 + 1) [(3, .int (x3_5 + 1)), (0, .ref x0), (1, .int x1)] dX4_check_69 rfl rfl (Nat.le_of_ble_eq_true rfl) rfl ?_
            refine zr_goto 16 dX4_check_72 (by decide) ?_
            exact zr_lv [1, 2, 0] rfl (ih8 (x3_5 + 1) m19 hf)
          clear hf
          have hf := hg
          clear hg
          have hb27 : ∀ (_ : Unit), fX4_check_b58 m6 x0 x3_5 = some m19 → zz K cX4_check (4, RX4, none, 1, 0, 0, none, mo) 0 0 58 [(0, .ref x0), (1, .int x1), (3, .int x3_5)] [] m6 := by
            intro _ hf
            unfold fX4_check_b58 at hf
            refine zr_aload_n 0 dX4_check_58 rfl ?_
            refine zr_iconst 2 dX4_check_59 (by decide) ?_
            refine zr_aload_n 0 dX4_check_60 rfl ?_
            replace hf := zb1_s hf
            obtain ⟨v21, h22, hf⟩ := hf
            refine zr_get (zm_gR_g h22) zk4 (by decide) zl_274 dX4_check_61 ?_
            refine zr_iload_n 2 dX4_check_64 rfl ?_
            replace hf := zb1_s hf
            obtain ⟨v23, h24, hf⟩ := hf
            refine zr_iald h24 dX4_check_65 ?_
            replace hf := zb1_s hf
            obtain ⟨m26, h25, hf⟩ := hf
            refine zr_callV (ci := 4) [.int 2, .int v23] (cX4_mark_ok h25) zvs_X4_mark zl_361 zl_362 (fX4_mark_ck h25) rfl rfl zl_360 rfl (Nat.le_of_ble_eq_true rfl) (Nat.le_of_ble_eq_true rfl) (Nat.le_of_ble_eq_true rfl) (Nat.le_of_ble_eq_true rfl) dX4_check_66 rfl ?_
            cases hf
            exact zr_lv [0, 1, 2] rfl hj20
          refine zr_icmp_lt 58 dX4_check_37 (by decide) (fun hc => ?_) (fun hc => ?_)
          · rw [if_pos hc] at hf
            exact zr_lv [0, 1, 2] rfl (hb27 () hf)
          · rw [if_neg hc] at hf
            refine zr_aload_n 0 dX4_check_40 rfl ?_
            replace hf := zb1_s hf
            obtain ⟨v28, h29, hf⟩ := hf
            refine zr_get (zm_gR_g h29) zk4 (by decide) zl_273 dX4_check_41 ?_
            refine zr_iload_n 2 dX4_check_44 rfl ?_
            replace hf := zb1_s hf
            obtain ⟨v30, h31, hf⟩ := hf
            refine zr_iald h31 dX4_check_45 ?_
            refine zr_gets (k := 3) (by decide) zl_363 dX4_check_46 ?_
            refine zr_iconst 3 dX4_check_49 (by decide) ?_
            refine zr_iload_n 1 dX4_check_50 rfl ?_
            refine zr_imul dX4_check_51 ?_
            refine zr_iload_n 2 dX4_check_52 rfl ?_
            refine zr_iadd dX4_check_53 ?_
            replace hf := zb1_s hf
            obtain ⟨v32, h33, hf⟩ := hf
            refine zr_iald h33 dX4_check_54 ?_
            refine zr_icmp_le 69 dX4_check_55 (by decide) (fun hc => ?_) (fun hc => ?_)
            · rw [if_pos hc] at hf
              cases hf
              exact zr_lv [0, 1, 2] rfl hj20
            · rw [if_neg hc] at hf
              exact zr_lv [0, 1, 2] rfl (hb27 () hf)
    exact zr_lv [1, 2, 0] rfl (hL34 _ 0 m3 hf)
  clear hf
  have hf := hg
  clear hg
  refine zr_if_eq 14 dX4_check_5 (by decide) (fun hc => ?_) (fun hc => ?_)
  · rw [if_pos hc] at hf
    cases hf
    exact zr_lv [0, 1] rfl hj4
  · rw [if_neg hc] at hf
    refine zr_aload_n 0 dX4_check_8 rfl ?_
    refine zr_iconst 3 dX4_check_9 (by decide) ?_
    refine zr_iload_n 2 dX4_check_10 rfl ?_
    replace hf := zb1_s hf
    obtain ⟨m36, h35, hf⟩ := hf
    refine zr_callV (ci := 4) [.int 3, .int x2] (cX4_mark_ok h35) zvs_X4_mark zl_361 zl_362 (fX4_mark_ck h35) rfl rfl zl_360 rfl (Nat.le_of_ble_eq_true rfl) (Nat.le_of_ble_eq_true rfl) (Nat.le_of_ble_eq_true rfl) (Nat.le_of_ble_eq_true rfl) dX4_check_11 rfl ?_
    cases hf
    exact zr_lv [0, 1] rfl hj4
theorem dX6_add_0 : decode cX6_add 0 = .ok (.aload_n 0, 1) := by decide +kernel
theorem dX6_add_1 : decode cX6_add 1 = .ok (.getfield 24, 3) := by decide +kernel
theorem dX6_add_4 : decode cX6_add 4 = .ok (.bipush 8, 2) := by decide +kernel
theorem dX6_add_6 : decode cX6_add 6 = .ok (.if_icmp .lt 4, 3) := by decide +kernel
theorem dX6_add_9 : decode cX6_add 9 = .ok (.return_, 1) := by decide +kernel
theorem dX6_add_10 : decode cX6_add 10 = .ok (.aload_n 0, 1) := by decide +kernel
theorem dX6_add_11 : decode cX6_add 11 = .ok (.getfield 9, 3) := by decide +kernel
theorem dX6_add_14 : decode cX6_add 14 = .ok (.aload_n 0, 1) := by decide +kernel
theorem dX6_add_15 : decode cX6_add 15 = .ok (.getfield 24, 3) := by decide +kernel
theorem dX6_add_18 : decode cX6_add 18 = .ok (.iload_n 1, 1) := by decide +kernel
theorem dX6_add_19 : decode cX6_add 19 = .ok (.iastore, 1) := by decide +kernel
theorem dX6_add_20 : decode cX6_add 20 = .ok (.aload_n 0, 1) := by decide +kernel
theorem dX6_add_21 : decode cX6_add 21 = .ok (.getfield 15, 3) := by decide +kernel
theorem dX6_add_24 : decode cX6_add 24 = .ok (.aload_n 0, 1) := by decide +kernel
theorem dX6_add_25 : decode cX6_add 25 = .ok (.getfield 24, 3) := by decide +kernel
theorem dX6_add_28 : decode cX6_add 28 = .ok (.iload_n 2, 1) := by decide +kernel
theorem dX6_add_29 : decode cX6_add 29 = .ok (.iastore, 1) := by decide +kernel
theorem dX6_add_30 : decode cX6_add 30 = .ok (.aload_n 0, 1) := by decide +kernel
theorem dX6_add_31 : decode cX6_add 31 = .ok (.getfield 18, 3) := by decide +kernel
theorem dX6_add_34 : decode cX6_add 34 = .ok (.aload_n 0, 1) := by decide +kernel
theorem dX6_add_35 : decode cX6_add 35 = .ok (.getfield 24, 3) := by decide +kernel
theorem dX6_add_38 : decode cX6_add 38 = .ok (.iload_n 3, 1) := by decide +kernel
theorem dX6_add_39 : decode cX6_add 39 = .ok (.iastore, 1) := by decide +kernel
theorem dX6_add_40 : decode cX6_add 40 = .ok (.aload_n 0, 1) := by decide +kernel
theorem dX6_add_41 : decode cX6_add 41 = .ok (.getfield 21, 3) := by decide +kernel
theorem dX6_add_44 : decode cX6_add 44 = .ok (.aload_n 0, 1) := by decide +kernel
theorem dX6_add_45 : decode cX6_add 45 = .ok (.getfield 24, 3) := by decide +kernel
theorem dX6_add_48 : decode cX6_add 48 = .ok (.iload 4, 2) := by decide +kernel
theorem dX6_add_50 : decode cX6_add 50 = .ok (.iastore, 1) := by decide +kernel
theorem dX6_add_51 : decode cX6_add 51 = .ok (.aload_n 0, 1) := by decide +kernel
theorem dX6_add_52 : decode cX6_add 52 = .ok (.dup, 1) := by decide +kernel
theorem dX6_add_53 : decode cX6_add 53 = .ok (.getfield 24, 3) := by decide +kernel
theorem dX6_add_56 : decode cX6_add 56 = .ok (.iconst 1, 1) := by decide +kernel
theorem dX6_add_57 : decode cX6_add 57 = .ok (.iadd, 1) := by decide +kernel
theorem dX6_add_58 : decode cX6_add 58 = .ok (.putfield 24, 3) := by decide +kernel
theorem dX6_add_61 : decode cX6_add 61 = .ok (.return_, 1) := by decide +kernel
noncomputable def fX6_add (μ : zM) (x0 : Nat) (x1 : Int32) (x2 : Int32) (x3 : Int32) (x4 : Int32) : Option (zM) := zgd (zm_ck μ 6 x0) <|
  zb1 (zm_gI μ 6 x0 0) fun v1 =>
  if v1 < 8 then (
  zb1 (zm_gR μ 6 x0 1) fun v3 =>
  zb1 (zm_gI μ 6 x0 0) fun v5 =>
  zb1 (zm_sI μ 0 v3 v5 x1) fun m7 =>
  zb1 (zm_gR m7 6 x0 2) fun v9 =>
  zb1 (zm_gI m7 6 x0 0) fun v11 =>
  zb1 (zm_sI m7 0 v9 v11 x2) fun m13 =>
  zb1 (zm_gR m13 6 x0 3) fun v15 =>
  zb1 (zm_gI m13 6 x0 0) fun v17 =>
  zb1 (zm_sI m13 0 v15 v17 x3) fun m19 =>
  zb1 (zm_gR m19 6 x0 4) fun v21 =>
  zb1 (zm_gI m19 6 x0 0) fun v23 =>
  zb1 (zm_sI m19 0 v21 v23 x4) fun m25 =>
  zb1 (zm_gI m25 6 x0 0) fun v27 =>
  zb1 (zm_p m25 6 x0 0 (.int (v27 + 1))) fun m29 =>
  some m29)
  else (
  some μ)
theorem fX6_add_ck {μ : zM} {x0 : Nat} {x1 : Int32} {x2 : Int32} {x3 : Int32} {x4 : Int32} {z : zM} (h : fX6_add μ x0 x1 x2 x3 x4 = some z) : zm_ck μ 6 x0 = true := (zgd_s h).1
set_option maxHeartbeats 4000000 in
set_option maxRecDepth 100000 in
theorem cX6_add_ok {μ : zM} {x0 : Nat} {x1 : Int32} {x2 : Int32} {x3 : Int32} {x4 : Int32} {mo : zM} (hf : fX6_add μ x0 x1 x2 x3 x4 = some mo) : zC yX6_add cX6_add 5 (none) 0 0 0 [.ref x0, .int x1, .int x2, .int x3, .int x4] μ (none) mo := by
  replace hf := (zgd_s hf).2
  refine zC.of (by decide) (Nat.le_of_ble_eq_true rfl) (fun K hin => ?_)
  clear hin
  show zz K cX6_add (5, RX6, none, 0, 0, 0, none, mo) 0 0 0 [(0, .ref x0), (1, .int x1), (2, .int x2), (3, .int x3), (4, .int x4)] [] μ
  refine zr_aload_n 0 dX6_add_0 rfl ?_
  replace hf := zb1_s hf
  obtain ⟨v1, h2, hf⟩ := hf
  refine zr_get (zm_gI_g h2) zk6 (by decide) zl_278 dX6_add_1 ?_
  refine zr_bipush 8 dX6_add_4 (by decide) ?_
  refine zr_icmp_lt 10 dX6_add_6 (by decide) (fun hc => ?_) (fun hc => ?_)
  · rw [if_pos hc] at hf
    refine zr_aload_n 0 dX6_add_10 rfl ?_
    replace hf := zb1_s hf
    obtain ⟨v3, h4, hf⟩ := hf
    refine zr_get (zm_gR_g h4) zk6 (by decide) zl_236 dX6_add_11 ?_
    refine zr_aload_n 0 dX6_add_14 rfl ?_
    replace hf := zb1_s hf
    obtain ⟨v5, h6, hf⟩ := hf
    refine zr_get (zm_gI_g h6) zk6 (by decide) zl_278 dX6_add_15 ?_
    refine zr_iload_n 1 dX6_add_18 rfl ?_
    replace hf := zb1_s hf
    obtain ⟨m7, h8, hf⟩ := hf
    refine zr_iast h8 dX6_add_19 ?_
    refine zr_aload_n 0 dX6_add_20 rfl ?_
    replace hf := zb1_s hf
    obtain ⟨v9, h10, hf⟩ := hf
    refine zr_get (zm_gR_g h10) zk6 (by decide) zl_237 dX6_add_21 ?_
    refine zr_aload_n 0 dX6_add_24 rfl ?_
    replace hf := zb1_s hf
    obtain ⟨v11, h12, hf⟩ := hf
    refine zr_get (zm_gI_g h12) zk6 (by decide) zl_278 dX6_add_25 ?_
    refine zr_iload_n 2 dX6_add_28 rfl ?_
    replace hf := zb1_s hf
    obtain ⟨m13, h14, hf⟩ := hf
    refine zr_iast h14 dX6_add_29 ?_
    refine zr_aload_n 0 dX6_add_30 rfl ?_
    replace hf := zb1_s hf
    obtain ⟨v15, h16, hf⟩ := hf
    refine zr_get (zm_gR_g h16) zk6 (by decide) zl_238 dX6_add_31 ?_
    refine zr_aload_n 0 dX6_add_34 rfl ?_
    replace hf := zb1_s hf
    obtain ⟨v17, h18, hf⟩ := hf
    refine zr_get (zm_gI_g h18) zk6 (by decide) zl_278 dX6_add_35 ?_
    refine zr_iload_n 3 dX6_add_38 rfl ?_
    replace hf := zb1_s hf
    obtain ⟨m19, h20, hf⟩ := hf
    refine zr_iast h20 dX6_add_39 ?_
    refine zr_aload_n 0 dX6_add_40 rfl ?_
    replace hf := zb1_s hf
    obtain ⟨v21, h22, hf⟩ := hf
    refine zr_get (zm_gR_g h22) zk6 (by decide) zl_239 dX6_add_41 ?_
    refine zr_aload_n 0 dX6_add_44 rfl ?_
    replace hf := zb1_s hf
    obtain ⟨v23, h24, hf⟩ := hf
    refine zr_get (zm_gI_g h24) zk6 (by decide) zl_278 dX6_add_45 ?_
    refine zr_iload 4 dX6_add_48 rfl ?_
    replace hf := zb1_s hf
    obtain ⟨m25, h26, hf⟩ := hf
    refine zr_iast h26 dX6_add_50 ?_
    refine zr_aload_n 0 dX6_add_51 rfl ?_
    refine zr_dup dX6_add_52 rfl ?_
    replace hf := zb1_s hf
    obtain ⟨v27, h28, hf⟩ := hf
    refine zr_get (zm_gI_g h28) zk6 (by decide) zl_278 dX6_add_53 ?_
    refine zr_iconst 1 dX6_add_56 (by decide) ?_
    refine zr_iadd dX6_add_57 ?_
    replace hf := zb1_s hf
    obtain ⟨m29, h30, hf⟩ := hf
    refine zr_put h30 zk6 (by decide) zl_278 rfl rfl rfl dX6_add_58 ?_
    cases hf
    exact zr_vret dX6_add_61
  · rw [if_neg hc] at hf
    cases hf
    exact zr_vret dX6_add_9
theorem zl_364 : Cond.code yX3_add cX3_add 3 (none) ∈ zt := zt_at 696 (by decide +kernel)
theorem zvs_X3_add : zvS yX3_add cX3_add 3 (none) 2 := ⟨zl_364, zl_207, ⟨by decide +kernel, by decide +kernel, by decide +kernel⟩, by decide⟩
theorem zl_365 : Cond.methodLink RX4 160 yX3_add ∈ zt := zt_at 693 (by decide +kernel)
theorem zl_366 : Cond.instanceMethod yX3_add ∈ zt := zt_at 694 (by decide +kernel)
theorem zl_367 : Cond.selects RX3 yX3_add yX3_add ∈ zt := zt_at 695 (by decide +kernel)
theorem zl_368 : Cond.fieldLink RX4 157 "TwoEchoes$Lesson" "lies" "I" ∈ zt := zt_at 272 (by decide +kernel)
theorem dX4_takeOfLesson_0 : decode cX4_takeOfLesson 0 = .ok (.iload_n 1, 1) := by decide +kernel
theorem dX4_takeOfLesson_1 : decode cX4_takeOfLesson 1 = .ok (.bipush 15, 2) := by decide +kernel
theorem dX4_takeOfLesson_3 : decode cX4_takeOfLesson 3 = .ok (.if_icmp .ne 19, 3) := by decide +kernel
theorem dX4_takeOfLesson_6 : decode cX4_takeOfLesson 6 = .ok (.aload_n 0, 1) := by decide +kernel
theorem dX4_takeOfLesson_7 : decode cX4_takeOfLesson 7 = .ok (.getfield 28, 3) := by decide +kernel
theorem dX4_takeOfLesson_10 : decode cX4_takeOfLesson 10 = .ok (.aload_n 0, 1) := by decide +kernel
theorem dX4_takeOfLesson_11 : decode cX4_takeOfLesson 11 = .ok (.getfield 58, 3) := by decide +kernel
theorem dX4_takeOfLesson_14 : decode cX4_takeOfLesson 14 = .ok (.iconst 0, 1) := by decide +kernel
theorem dX4_takeOfLesson_15 : decode cX4_takeOfLesson 15 = .ok (.iaload, 1) := by decide +kernel
theorem dX4_takeOfLesson_16 : decode cX4_takeOfLesson 16 = .ok (.putfield 157, 3) := by decide +kernel
theorem dX4_takeOfLesson_19 : decode cX4_takeOfLesson 19 = .ok (.goto 22, 3) := by decide +kernel
theorem dX4_takeOfLesson_22 : decode cX4_takeOfLesson 22 = .ok (.aload_n 0, 1) := by decide +kernel
theorem dX4_takeOfLesson_23 : decode cX4_takeOfLesson 23 = .ok (.getfield 28, 3) := by decide +kernel
theorem dX4_takeOfLesson_26 : decode cX4_takeOfLesson 26 = .ok (.aload_n 0, 1) := by decide +kernel
theorem dX4_takeOfLesson_27 : decode cX4_takeOfLesson 27 = .ok (.getfield 58, 3) := by decide +kernel
theorem dX4_takeOfLesson_30 : decode cX4_takeOfLesson 30 = .ok (.iconst 0, 1) := by decide +kernel
theorem dX4_takeOfLesson_31 : decode cX4_takeOfLesson 31 = .ok (.iaload, 1) := by decide +kernel
theorem dX4_takeOfLesson_32 : decode cX4_takeOfLesson 32 = .ok (.aload_n 0, 1) := by decide +kernel
theorem dX4_takeOfLesson_33 : decode cX4_takeOfLesson 33 = .ok (.getfield 58, 3) := by decide +kernel
theorem dX4_takeOfLesson_36 : decode cX4_takeOfLesson 36 = .ok (.iconst 1, 1) := by decide +kernel
theorem dX4_takeOfLesson_37 : decode cX4_takeOfLesson 37 = .ok (.iaload, 1) := by decide +kernel
theorem dX4_takeOfLesson_38 : decode cX4_takeOfLesson 38 = .ok (.invokevirtual 160, 3) := by decide +kernel
theorem dX4_takeOfLesson_41 : decode cX4_takeOfLesson 41 = .ok (.return_, 1) := by decide +kernel
noncomputable def fX4_takeOfLesson (μ : zM) (x0 : Nat) (x1 : Int32) : Option (zM) := zgd (zm_ck μ 4 x0) <|
  zc1 (if x1 = 15 then (
  zb1 (zm_gR μ 4 x0 2) fun v15 =>
  zb1 (zm_gR μ 4 x0 11) fun v17 =>
  zb1 (zm_aI μ 0 v17 0) fun v19 =>
  zb1 (zm_p μ 3 v15 0 (.int v19)) fun m21 =>
  some m21)
  else (
  zb1 (zm_gR μ 4 x0 2) fun v3 =>
  zb1 (zm_gR μ 4 x0 11) fun v5 =>
  zb1 (zm_aI μ 0 v5 0) fun v7 =>
  zb1 (zm_gR μ 4 x0 11) fun v9 =>
  zb1 (zm_aI μ 0 v9 1) fun v11 =>
  zb1 (fX3_add μ v3 v7 v11) fun m14 =>
  some m14) : Option (zM)) fun (m1 : zM) =>
  some m1
theorem fX4_takeOfLesson_ck {μ : zM} {x0 : Nat} {x1 : Int32} {z : zM} (h : fX4_takeOfLesson μ x0 x1 = some z) : zm_ck μ 4 x0 = true := (zgd_s h).1
set_option maxHeartbeats 4000000 in
set_option maxRecDepth 100000 in
theorem cX4_takeOfLesson_ok {μ : zM} {x0 : Nat} {x1 : Int32} {mo : zM} (hf : fX4_takeOfLesson μ x0 x1 = some mo) : zC yX4_takeOfLesson cX4_takeOfLesson 2 (none) 1 0 0 [.ref x0, .int x1] μ (none) mo := by
  replace hf := (zgd_s hf).2
  refine zC.of (by decide) (Nat.le_of_ble_eq_true rfl) (fun K hin => ?_)
  clear hin
  show zz K cX4_takeOfLesson (2, RX4, none, 1, 0, 0, none, mo) 0 0 0 [(0, .ref x0), (1, .int x1)] [] μ
  refine zr_iload_n 1 dX4_takeOfLesson_0 rfl ?_
  refine zr_bipush 15 dX4_takeOfLesson_1 (by decide) ?_
  replace hf := zc1_s hf
  obtain ⟨m1, hg, hf⟩ := hf
  have hj2 : zz K cX4_takeOfLesson (2, RX4, none, 1, 0, 0, none, mo) 0 0 41 [] [] m1 := by
    cases hf
    exact zr_vret dX4_takeOfLesson_41
  clear hf
  have hf := hg
  clear hg
  refine zr_icmp_ne 22 dX4_takeOfLesson_3 (by decide) (fun hc => ?_) (fun hc => ?_)
  · rw [if_neg hc] at hf
    refine zr_aload_n 0 dX4_takeOfLesson_22 rfl ?_
    replace hf := zb1_s hf
    obtain ⟨v3, h4, hf⟩ := hf
    refine zr_get (zm_gR_g h4) zk4 (by decide) zl_259 dX4_takeOfLesson_23 ?_
    refine zr_aload_n 0 dX4_takeOfLesson_26 rfl ?_
    replace hf := zb1_s hf
    obtain ⟨v5, h6, hf⟩ := hf
    refine zr_get (zm_gR_g h6) zk4 (by decide) zl_273 dX4_takeOfLesson_27 ?_
    refine zr_iconst 0 dX4_takeOfLesson_30 (by decide) ?_
    replace hf := zb1_s hf
    obtain ⟨v7, h8, hf⟩ := hf
    refine zr_iald h8 dX4_takeOfLesson_31 ?_
    refine zr_aload_n 0 dX4_takeOfLesson_32 rfl ?_
    replace hf := zb1_s hf
    obtain ⟨v9, h10, hf⟩ := hf
    refine zr_get (zm_gR_g h10) zk4 (by decide) zl_273 dX4_takeOfLesson_33 ?_
    refine zr_iconst 1 dX4_takeOfLesson_36 (by decide) ?_
    replace hf := zb1_s hf
    obtain ⟨v11, h12, hf⟩ := hf
    refine zr_iald h12 dX4_takeOfLesson_37 ?_
    replace hf := zb1_s hf
    obtain ⟨m14, h13, hf⟩ := hf
    refine zr_callV (ci := 3) [.int v7, .int v11] (cX3_add_ok h13) zvs_X3_add zl_366 zl_367 (fX3_add_ck h13) rfl rfl zl_365 rfl (Nat.le_of_ble_eq_true rfl) (Nat.le_of_ble_eq_true rfl) (Nat.le_of_ble_eq_true rfl) (Nat.le_of_ble_eq_true rfl) dX4_takeOfLesson_38 rfl ?_
    cases hf
    exact zr_lv [] rfl hj2
  · rw [if_pos hc] at hf
    refine zr_aload_n 0 dX4_takeOfLesson_6 rfl ?_
    replace hf := zb1_s hf
    obtain ⟨v15, h16, hf⟩ := hf
    refine zr_get (zm_gR_g h16) zk4 (by decide) zl_259 dX4_takeOfLesson_7 ?_
    refine zr_aload_n 0 dX4_takeOfLesson_10 rfl ?_
    replace hf := zb1_s hf
    obtain ⟨v17, h18, hf⟩ := hf
    refine zr_get (zm_gR_g h18) zk4 (by decide) zl_273 dX4_takeOfLesson_11 ?_
    refine zr_iconst 0 dX4_takeOfLesson_14 (by decide) ?_
    replace hf := zb1_s hf
    obtain ⟨v19, h20, hf⟩ := hf
    refine zr_iald h20 dX4_takeOfLesson_15 ?_
    replace hf := zb1_s hf
    obtain ⟨m21, h22, hf⟩ := hf
    refine zr_put h22 zk3 (by decide) zl_368 rfl rfl rfl dX4_takeOfLesson_16 ?_
    refine zr_goto 41 dX4_takeOfLesson_19 (by decide) ?_
    cases hf
    exact zr_lv [] rfl hj2
theorem dX9_addSky_0 : decode cX9_addSky 0 = .ok (.aload_n 0, 1) := by decide +kernel
theorem dX9_addSky_1 : decode cX9_addSky 1 = .ok (.getfield 49, 3) := by decide +kernel
theorem dX9_addSky_4 : decode cX9_addSky 4 = .ok (.iconst 4, 1) := by decide +kernel
theorem dX9_addSky_5 : decode cX9_addSky 5 = .ok (.if_icmp .lt 4, 3) := by decide +kernel
theorem dX9_addSky_8 : decode cX9_addSky 8 = .ok (.return_, 1) := by decide +kernel
theorem dX9_addSky_9 : decode cX9_addSky 9 = .ok (.aload_n 0, 1) := by decide +kernel
theorem dX9_addSky_10 : decode cX9_addSky 10 = .ok (.getfield 30, 3) := by decide +kernel
theorem dX9_addSky_13 : decode cX9_addSky 13 = .ok (.aload_n 0, 1) := by decide +kernel
theorem dX9_addSky_14 : decode cX9_addSky 14 = .ok (.getfield 49, 3) := by decide +kernel
theorem dX9_addSky_17 : decode cX9_addSky 17 = .ok (.iload_n 1, 1) := by decide +kernel
theorem dX9_addSky_18 : decode cX9_addSky 18 = .ok (.iconst 1, 1) := by decide +kernel
theorem dX9_addSky_19 : decode cX9_addSky 19 = .ok (.if_icmp .ne 7, 3) := by decide +kernel
theorem dX9_addSky_22 : decode cX9_addSky 22 = .ok (.iconst 0, 1) := by decide +kernel
theorem dX9_addSky_23 : decode cX9_addSky 23 = .ok (.goto 4, 3) := by decide +kernel
theorem dX9_addSky_26 : decode cX9_addSky 26 = .ok (.iconst 1, 1) := by decide +kernel
theorem dX9_addSky_27 : decode cX9_addSky 27 = .ok (.iastore, 1) := by decide +kernel
theorem dX9_addSky_28 : decode cX9_addSky 28 = .ok (.aload_n 0, 1) := by decide +kernel
theorem dX9_addSky_29 : decode cX9_addSky 29 = .ok (.getfield 33, 3) := by decide +kernel
theorem dX9_addSky_32 : decode cX9_addSky 32 = .ok (.aload_n 0, 1) := by decide +kernel
theorem dX9_addSky_33 : decode cX9_addSky 33 = .ok (.getfield 49, 3) := by decide +kernel
theorem dX9_addSky_36 : decode cX9_addSky 36 = .ok (.iload_n 2, 1) := by decide +kernel
theorem dX9_addSky_37 : decode cX9_addSky 37 = .ok (.iastore, 1) := by decide +kernel
theorem dX9_addSky_38 : decode cX9_addSky 38 = .ok (.aload_n 0, 1) := by decide +kernel
theorem dX9_addSky_39 : decode cX9_addSky 39 = .ok (.getfield 36, 3) := by decide +kernel
theorem dX9_addSky_42 : decode cX9_addSky 42 = .ok (.aload_n 0, 1) := by decide +kernel
theorem dX9_addSky_43 : decode cX9_addSky 43 = .ok (.getfield 49, 3) := by decide +kernel
theorem dX9_addSky_46 : decode cX9_addSky 46 = .ok (.iload_n 3, 1) := by decide +kernel
theorem dX9_addSky_47 : decode cX9_addSky 47 = .ok (.iastore, 1) := by decide +kernel
theorem dX9_addSky_48 : decode cX9_addSky 48 = .ok (.aload_n 0, 1) := by decide +kernel
theorem dX9_addSky_49 : decode cX9_addSky 49 = .ok (.dup, 1) := by decide +kernel
theorem dX9_addSky_50 : decode cX9_addSky 50 = .ok (.getfield 49, 3) := by decide +kernel
theorem dX9_addSky_53 : decode cX9_addSky 53 = .ok (.iconst 1, 1) := by decide +kernel
theorem dX9_addSky_54 : decode cX9_addSky 54 = .ok (.iadd, 1) := by decide +kernel
theorem dX9_addSky_55 : decode cX9_addSky 55 = .ok (.putfield 49, 3) := by decide +kernel
theorem dX9_addSky_58 : decode cX9_addSky 58 = .ok (.iload_n 2, 1) := by decide +kernel
theorem dX9_addSky_59 : decode cX9_addSky 59 = .ok (.istore 4, 2) := by decide +kernel
theorem dX9_addSky_61 : decode cX9_addSky 61 = .ok (.iload 4, 2) := by decide +kernel
theorem dX9_addSky_63 : decode cX9_addSky 63 = .ok (.iload_n 3, 1) := by decide +kernel
theorem dX9_addSky_64 : decode cX9_addSky 64 = .ok (.if_icmp .gt 27, 3) := by decide +kernel
theorem dX9_addSky_67 : decode cX9_addSky 67 = .ok (.iload 4, 2) := by decide +kernel
theorem dX9_addSky_69 : decode cX9_addSky 69 = .ok (.bipush 100, 2) := by decide +kernel
theorem dX9_addSky_71 : decode cX9_addSky 71 = .ok (.if_icmp .ge 20, 3) := by decide +kernel
theorem dX9_addSky_74 : decode cX9_addSky 74 = .ok (.aload_n 0, 1) := by decide +kernel
theorem dX9_addSky_75 : decode cX9_addSky 75 = .ok (.getfield 39, 3) := by decide +kernel
theorem dX9_addSky_78 : decode cX9_addSky 78 = .ok (.iload 4, 2) := by decide +kernel
theorem dX9_addSky_80 : decode cX9_addSky 80 = .ok (.dup2, 1) := by decide +kernel
theorem dX9_addSky_81 : decode cX9_addSky 81 = .ok (.iaload, 1) := by decide +kernel
theorem dX9_addSky_82 : decode cX9_addSky 82 = .ok (.iload_n 1, 1) := by decide +kernel
theorem dX9_addSky_83 : decode cX9_addSky 83 = .ok (.ior, 1) := by decide +kernel
theorem dX9_addSky_84 : decode cX9_addSky 84 = .ok (.iastore, 1) := by decide +kernel
theorem dX9_addSky_85 : decode cX9_addSky 85 = .ok (.iinc 4 1, 3) := by decide +kernel
theorem dX9_addSky_88 : decode cX9_addSky 88 = .ok (.goto (-27), 3) := by decide +kernel
theorem dX9_addSky_91 : decode cX9_addSky 91 = .ok (.return_, 1) := by decide +kernel
noncomputable def fX9_addSky_l61 (x3 : Int32) (x0 : Nat) (x1 : Int32) (F29 : Int32 → zM → Option (zM)) (x4_27 : Int32) (m28 : zM) : Option (zM) :=
  if x3 < x4_27 then (
  some m28)
  else (
  if 100 ≤ x4_27 then (
  some m28)
  else (
  zb1 (zm_gR m28 9 x0 12) fun v33 =>
  zb1 (zm_aI m28 0 v33 x4_27) fun v35 =>
  zb1 (zm_sI m28 0 v33 x4_27 (v35 ||| x1)) fun m37 =>
  F29 (x4_27 + 1) m37))
noncomputable def fX9_addSky (μ : zM) (x0 : Nat) (x1 : Int32) (x2 : Int32) (x3 : Int32) : Option (zM) := zgd (zm_ck μ 9 x0) <|
  zb1 (zm_gI μ 9 x0 8) fun v1 =>
  if v1 < 4 then (
  zb1 (zm_gR μ 9 x0 9) fun v3 =>
  zb1 (zm_gI μ 9 x0 8) fun v5 =>
  zb1 (if x1 = 1 then (
  some 0)
  else (
  some 1) : Option (Int32)) fun (s7 : Int32) =>
  zb1 (zm_sI μ 0 v3 v5 s7) fun m9 =>
  zb1 (zm_gR m9 9 x0 10) fun v11 =>
  zb1 (zm_gI m9 9 x0 8) fun v13 =>
  zb1 (zm_sI m9 0 v11 v13 x2) fun m15 =>
  zb1 (zm_gR m15 9 x0 11) fun v17 =>
  zb1 (zm_gI m15 9 x0 8) fun v19 =>
  zb1 (zm_sI m15 0 v17 v19 x3) fun m21 =>
  zb1 (zm_gI m21 9 x0 8) fun v23 =>
  zb1 (zm_p m21 9 x0 8 (.int (v23 + 1))) fun m25 =>
  zb1 (zf2 (fX9_addSky_l61 x3 x0 x1) zfu x2 m25 : Option (zM)) fun (m31 : zM) =>
  some m31)
  else (
  some μ)
theorem fX9_addSky_ck {μ : zM} {x0 : Nat} {x1 : Int32} {x2 : Int32} {x3 : Int32} {z : zM} (h : fX9_addSky μ x0 x1 x2 x3 = some z) : zm_ck μ 9 x0 = true := (zgd_s h).1
set_option maxHeartbeats 4000000 in
set_option maxRecDepth 100000 in
theorem cX9_addSky_ok {μ : zM} {x0 : Nat} {x1 : Int32} {x2 : Int32} {x3 : Int32} {mo : zM} (hf : fX9_addSky μ x0 x1 x2 x3 = some mo) : zC yX9_addSky cX9_addSky 5 (none) 0 0 0 [.ref x0, .int x1, .int x2, .int x3] μ (none) mo := by
  replace hf := (zgd_s hf).2
  refine zC.of (by decide) (Nat.le_of_ble_eq_true rfl) (fun K hin => ?_)
  clear hin
  show zz K cX9_addSky (5, RX9, none, 0, 0, 0, none, mo) 0 0 0 [(0, .ref x0), (1, .int x1), (2, .int x2), (3, .int x3)] [] μ
  refine zr_aload_n 0 dX9_addSky_0 rfl ?_
  replace hf := zb1_s hf
  obtain ⟨v1, h2, hf⟩ := hf
  refine zr_get (zm_gI_g h2) zk9 (by decide) zl_276 dX9_addSky_1 ?_
  refine zr_iconst 4 dX9_addSky_4 (by decide) ?_
  refine zr_icmp_lt 9 dX9_addSky_5 (by decide) (fun hc => ?_) (fun hc => ?_)
  · rw [if_pos hc] at hf
    refine zr_aload_n 0 dX9_addSky_9 rfl ?_
    replace hf := zb1_s hf
    obtain ⟨v3, h4, hf⟩ := hf
    refine zr_get (zm_gR_g h4) zk9 (by decide) zl_232 dX9_addSky_10 ?_
    refine zr_aload_n 0 dX9_addSky_13 rfl ?_
    replace hf := zb1_s hf
    obtain ⟨v5, h6, hf⟩ := hf
    refine zr_get (zm_gI_g h6) zk9 (by decide) zl_276 dX9_addSky_14 ?_
    refine zr_iload_n 1 dX9_addSky_17 rfl ?_
    refine zr_iconst 1 dX9_addSky_18 (by decide) ?_
    replace hf := zb1_s hf
    obtain ⟨s7, hg, hf⟩ := hf
    have hj8 : zz K cX9_addSky (5, RX9, none, 0, 0, 0, none, mo) 0 0 27 [(0, .ref x0), (1, .int x1), (2, .int x2), (3, .int x3)] [.int s7, .int v5, .ref v3] μ := by
      replace hf := zb1_s hf
      obtain ⟨m9, h10, hf⟩ := hf
      refine zr_iast h10 dX9_addSky_27 ?_
      refine zr_aload_n 0 dX9_addSky_28 rfl ?_
      replace hf := zb1_s hf
      obtain ⟨v11, h12, hf⟩ := hf
      refine zr_get (zm_gR_g h12) zk9 (by decide) zl_233 dX9_addSky_29 ?_
      refine zr_aload_n 0 dX9_addSky_32 rfl ?_
      replace hf := zb1_s hf
      obtain ⟨v13, h14, hf⟩ := hf
      refine zr_get (zm_gI_g h14) zk9 (by decide) zl_276 dX9_addSky_33 ?_
      refine zr_iload_n 2 dX9_addSky_36 rfl ?_
      replace hf := zb1_s hf
      obtain ⟨m15, h16, hf⟩ := hf
      refine zr_iast h16 dX9_addSky_37 ?_
      refine zr_aload_n 0 dX9_addSky_38 rfl ?_
      replace hf := zb1_s hf
      obtain ⟨v17, h18, hf⟩ := hf
      refine zr_get (zm_gR_g h18) zk9 (by decide) zl_234 dX9_addSky_39 ?_
      refine zr_aload_n 0 dX9_addSky_42 rfl ?_
      replace hf := zb1_s hf
      obtain ⟨v19, h20, hf⟩ := hf
      refine zr_get (zm_gI_g h20) zk9 (by decide) zl_276 dX9_addSky_43 ?_
      refine zr_iload_n 3 dX9_addSky_46 rfl ?_
      replace hf := zb1_s hf
      obtain ⟨m21, h22, hf⟩ := hf
      refine zr_iast h22 dX9_addSky_47 ?_
      refine zr_aload_n 0 dX9_addSky_48 rfl ?_
      refine zr_dup dX9_addSky_49 rfl ?_
      replace hf := zb1_s hf
      obtain ⟨v23, h24, hf⟩ := hf
      refine zr_get (zm_gI_g h24) zk9 (by decide) zl_276 dX9_addSky_50 ?_
      refine zr_iconst 1 dX9_addSky_53 (by decide) ?_
      refine zr_iadd dX9_addSky_54 ?_
      replace hf := zb1_s hf
      obtain ⟨m25, h26, hf⟩ := hf
      refine zr_put h26 zk9 (by decide) zl_276 rfl rfl rfl dX9_addSky_55 ?_
      refine zr_iload_n 2 dX9_addSky_58 rfl ?_
      refine zr_istore [(4, .int x2), (0, .ref x0), (1, .int x1), (2, .int x2), (3, .int x3)] dX9_addSky_59 (Nat.le_of_ble_eq_true rfl) rfl ?_
      replace hf := zb1_s hf
      obtain ⟨m31, hg, hf⟩ := hf
      have hj32 : zz K cX9_addSky (5, RX9, none, 0, 0, 0, none, mo) 0 0 91 [] [] m31 := by
        cases hf
        exact zr_vret dX9_addSky_91
      clear hf
      have hf := hg
      clear hg
      have hL39 : ∀ (n : Nat) (x4_27 : Int32) (m28 : zM), zf2 (fX9_addSky_l61 x3 x0 x1) n x4_27 m28 = some m31 → zz K cX9_addSky (5, RX9, none, 0, 0, 0, none, mo) 0 0 61 [(0, .ref x0), (1, .int x1), (3, .int x3), (4, .int x4_27)] [] m28 := by
        intro n
        induction n with
        | zero => intro x4_27 m28 hf; cases hf
        | succ n ih30 =>
          intro x4_27 m28 hf
          replace hf := zf2_s hf
          generalize zf2 (fX9_addSky_l61 x3 x0 x1) n = F29 at hf ih30
          unfold fX9_addSky_l61 at hf
          refine zr_iload 3 dX9_addSky_61 rfl ?_
          refine zr_iload_n 2 dX9_addSky_63 rfl ?_
          refine zr_icmp_gt 91 dX9_addSky_64 (by decide) (fun hc => ?_) (fun hc => ?_)
          · rw [if_pos hc] at hf
            cases hf
            exact zr_lv [] rfl hj32
          · rw [if_neg hc] at hf
            refine zr_iload 3 dX9_addSky_67 rfl ?_
            refine zr_bipush 100 dX9_addSky_69 (by decide) ?_
            refine zr_icmp_ge 91 dX9_addSky_71 (by decide) (fun hc => ?_) (fun hc => ?_)
            · rw [if_pos hc] at hf
              cases hf
              exact zr_lv [] rfl hj32
            · rw [if_neg hc] at hf
              refine zr_aload_n 0 dX9_addSky_74 rfl ?_
              replace hf := zb1_s hf
              obtain ⟨v33, h34, hf⟩ := hf
              refine zr_get (zm_gR_g h34) zk9 (by decide) zl_7 dX9_addSky_75 ?_
              refine zr_iload 3 dX9_addSky_78 rfl ?_
              refine zr_dup2 dX9_addSky_80 rfl rfl ?_
              replace hf := zb1_s hf
              obtain ⟨v35, h36, hf⟩ := hf
              refine zr_iald h36 dX9_addSky_81 ?_
              refine zr_iload_n 1 dX9_addSky_82 rfl ?_
              refine zr_ior dX9_addSky_83 ?_
              replace hf := zb1_s hf
              obtain ⟨m37, h38, hf⟩ := hf
              refine zr_iast h38 dX9_addSky_84 ?_
              refine zr_iinc (j := 3) (x4_27 + 1) [(4, .int (x4_27 + 1)), (0, .ref x0), (1, .int x1), (3, .int x3)] dX9_addSky_85 rfl rfl (Nat.le_of_ble_eq_true rfl) rfl ?_
              refine zr_goto 61 dX9_addSky_88 (by decide) ?_
              exact zr_lv [1, 2, 3, 0] rfl (ih30 (x4_27 + 1) m37 hf)
      exact zr_lv [1, 2, 4, 0] rfl (hL39 _ x2 m25 hf)
    clear hf
    have hf := hg
    clear hg
    refine zr_icmp_ne 26 dX9_addSky_19 (by decide) (fun hc => ?_) (fun hc => ?_)
    · rw [if_neg hc] at hf
      refine zr_iconst 1 dX9_addSky_26 (by decide) ?_
      cases hf
      exact zr_lv [0, 1, 2, 3] rfl hj8
    · rw [if_pos hc] at hf
      refine zr_iconst 0 dX9_addSky_22 (by decide) ?_
      refine zr_goto 27 dX9_addSky_23 (by decide) ?_
      cases hf
      exact zr_lv [0, 1, 2, 3] rfl hj8
  · rw [if_neg hc] at hf
    cases hf
    exact zr_vret dX9_addSky_8
theorem dX9_addPerson_0 : decode cX9_addPerson 0 = .ok (.aload_n 0, 1) := by decide +kernel
theorem dX9_addPerson_1 : decode cX9_addPerson 1 = .ok (.getfield 46, 3) := by decide +kernel
theorem dX9_addPerson_4 : decode cX9_addPerson 4 = .ok (.bipush 6, 2) := by decide +kernel
theorem dX9_addPerson_6 : decode cX9_addPerson 6 = .ok (.if_icmp .lt 4, 3) := by decide +kernel
theorem dX9_addPerson_9 : decode cX9_addPerson 9 = .ok (.return_, 1) := by decide +kernel
theorem dX9_addPerson_10 : decode cX9_addPerson 10 = .ok (.aload_n 0, 1) := by decide +kernel
theorem dX9_addPerson_11 : decode cX9_addPerson 11 = .ok (.getfield 21, 3) := by decide +kernel
theorem dX9_addPerson_14 : decode cX9_addPerson 14 = .ok (.aload_n 0, 1) := by decide +kernel
theorem dX9_addPerson_15 : decode cX9_addPerson 15 = .ok (.getfield 46, 3) := by decide +kernel
theorem dX9_addPerson_18 : decode cX9_addPerson 18 = .ok (.iload_n 1, 1) := by decide +kernel
theorem dX9_addPerson_19 : decode cX9_addPerson 19 = .ok (.iastore, 1) := by decide +kernel
theorem dX9_addPerson_20 : decode cX9_addPerson 20 = .ok (.aload_n 0, 1) := by decide +kernel
theorem dX9_addPerson_21 : decode cX9_addPerson 21 = .ok (.getfield 24, 3) := by decide +kernel
theorem dX9_addPerson_24 : decode cX9_addPerson 24 = .ok (.aload_n 0, 1) := by decide +kernel
theorem dX9_addPerson_25 : decode cX9_addPerson 25 = .ok (.getfield 46, 3) := by decide +kernel
theorem dX9_addPerson_28 : decode cX9_addPerson 28 = .ok (.iload_n 2, 1) := by decide +kernel
theorem dX9_addPerson_29 : decode cX9_addPerson 29 = .ok (.iastore, 1) := by decide +kernel
theorem dX9_addPerson_30 : decode cX9_addPerson 30 = .ok (.aload_n 0, 1) := by decide +kernel
theorem dX9_addPerson_31 : decode cX9_addPerson 31 = .ok (.getfield 27, 3) := by decide +kernel
theorem dX9_addPerson_34 : decode cX9_addPerson 34 = .ok (.aload_n 0, 1) := by decide +kernel
theorem dX9_addPerson_35 : decode cX9_addPerson 35 = .ok (.getfield 46, 3) := by decide +kernel
theorem dX9_addPerson_38 : decode cX9_addPerson 38 = .ok (.iload_n 3, 1) := by decide +kernel
theorem dX9_addPerson_39 : decode cX9_addPerson 39 = .ok (.iastore, 1) := by decide +kernel
theorem dX9_addPerson_40 : decode cX9_addPerson 40 = .ok (.aload_n 0, 1) := by decide +kernel
theorem dX9_addPerson_41 : decode cX9_addPerson 41 = .ok (.dup, 1) := by decide +kernel
theorem dX9_addPerson_42 : decode cX9_addPerson 42 = .ok (.getfield 46, 3) := by decide +kernel
theorem dX9_addPerson_45 : decode cX9_addPerson 45 = .ok (.iconst 1, 1) := by decide +kernel
theorem dX9_addPerson_46 : decode cX9_addPerson 46 = .ok (.iadd, 1) := by decide +kernel
theorem dX9_addPerson_47 : decode cX9_addPerson 47 = .ok (.putfield 46, 3) := by decide +kernel
theorem dX9_addPerson_50 : decode cX9_addPerson 50 = .ok (.return_, 1) := by decide +kernel
noncomputable def fX9_addPerson (μ : zM) (x0 : Nat) (x1 : Int32) (x2 : Int32) (x3 : Int32) : Option (zM) := zgd (zm_ck μ 9 x0) <|
  zb1 (zm_gI μ 9 x0 4) fun v1 =>
  if v1 < 6 then (
  zb1 (zm_gR μ 9 x0 5) fun v3 =>
  zb1 (zm_gI μ 9 x0 4) fun v5 =>
  zb1 (zm_sI μ 0 v3 v5 x1) fun m7 =>
  zb1 (zm_gR m7 9 x0 6) fun v9 =>
  zb1 (zm_gI m7 9 x0 4) fun v11 =>
  zb1 (zm_sI m7 0 v9 v11 x2) fun m13 =>
  zb1 (zm_gR m13 9 x0 7) fun v15 =>
  zb1 (zm_gI m13 9 x0 4) fun v17 =>
  zb1 (zm_sI m13 0 v15 v17 x3) fun m19 =>
  zb1 (zm_gI m19 9 x0 4) fun v21 =>
  zb1 (zm_p m19 9 x0 4 (.int (v21 + 1))) fun m23 =>
  some m23)
  else (
  some μ)
theorem fX9_addPerson_ck {μ : zM} {x0 : Nat} {x1 : Int32} {x2 : Int32} {x3 : Int32} {z : zM} (h : fX9_addPerson μ x0 x1 x2 x3 = some z) : zm_ck μ 9 x0 = true := (zgd_s h).1
set_option maxHeartbeats 4000000 in
set_option maxRecDepth 100000 in
theorem cX9_addPerson_ok {μ : zM} {x0 : Nat} {x1 : Int32} {x2 : Int32} {x3 : Int32} {mo : zM} (hf : fX9_addPerson μ x0 x1 x2 x3 = some mo) : zC yX9_addPerson cX9_addPerson 4 (none) 0 0 0 [.ref x0, .int x1, .int x2, .int x3] μ (none) mo := by
  replace hf := (zgd_s hf).2
  refine zC.of (by decide) (Nat.le_of_ble_eq_true rfl) (fun K hin => ?_)
  clear hin
  show zz K cX9_addPerson (4, RX9, none, 0, 0, 0, none, mo) 0 0 0 [(0, .ref x0), (1, .int x1), (2, .int x2), (3, .int x3)] [] μ
  refine zr_aload_n 0 dX9_addPerson_0 rfl ?_
  replace hf := zb1_s hf
  obtain ⟨v1, h2, hf⟩ := hf
  refine zr_get (zm_gI_g h2) zk9 (by decide) zl_103 dX9_addPerson_1 ?_
  refine zr_bipush 6 dX9_addPerson_4 (by decide) ?_
  refine zr_icmp_lt 10 dX9_addPerson_6 (by decide) (fun hc => ?_) (fun hc => ?_)
  · rw [if_pos hc] at hf
    refine zr_aload_n 0 dX9_addPerson_10 rfl ?_
    replace hf := zb1_s hf
    obtain ⟨v3, h4, hf⟩ := hf
    refine zr_get (zm_gR_g h4) zk9 (by decide) zl_229 dX9_addPerson_11 ?_
    refine zr_aload_n 0 dX9_addPerson_14 rfl ?_
    replace hf := zb1_s hf
    obtain ⟨v5, h6, hf⟩ := hf
    refine zr_get (zm_gI_g h6) zk9 (by decide) zl_103 dX9_addPerson_15 ?_
    refine zr_iload_n 1 dX9_addPerson_18 rfl ?_
    replace hf := zb1_s hf
    obtain ⟨m7, h8, hf⟩ := hf
    refine zr_iast h8 dX9_addPerson_19 ?_
    refine zr_aload_n 0 dX9_addPerson_20 rfl ?_
    replace hf := zb1_s hf
    obtain ⟨v9, h10, hf⟩ := hf
    refine zr_get (zm_gR_g h10) zk9 (by decide) zl_230 dX9_addPerson_21 ?_
    refine zr_aload_n 0 dX9_addPerson_24 rfl ?_
    replace hf := zb1_s hf
    obtain ⟨v11, h12, hf⟩ := hf
    refine zr_get (zm_gI_g h12) zk9 (by decide) zl_103 dX9_addPerson_25 ?_
    refine zr_iload_n 2 dX9_addPerson_28 rfl ?_
    replace hf := zb1_s hf
    obtain ⟨m13, h14, hf⟩ := hf
    refine zr_iast h14 dX9_addPerson_29 ?_
    refine zr_aload_n 0 dX9_addPerson_30 rfl ?_
    replace hf := zb1_s hf
    obtain ⟨v15, h16, hf⟩ := hf
    refine zr_get (zm_gR_g h16) zk9 (by decide) zl_231 dX9_addPerson_31 ?_
    refine zr_aload_n 0 dX9_addPerson_34 rfl ?_
    replace hf := zb1_s hf
    obtain ⟨v17, h18, hf⟩ := hf
    refine zr_get (zm_gI_g h18) zk9 (by decide) zl_103 dX9_addPerson_35 ?_
    refine zr_iload_n 3 dX9_addPerson_38 rfl ?_
    replace hf := zb1_s hf
    obtain ⟨m19, h20, hf⟩ := hf
    refine zr_iast h20 dX9_addPerson_39 ?_
    refine zr_aload_n 0 dX9_addPerson_40 rfl ?_
    refine zr_dup dX9_addPerson_41 rfl ?_
    replace hf := zb1_s hf
    obtain ⟨v21, h22, hf⟩ := hf
    refine zr_get (zm_gI_g h22) zk9 (by decide) zl_103 dX9_addPerson_42 ?_
    refine zr_iconst 1 dX9_addPerson_45 (by decide) ?_
    refine zr_iadd dX9_addPerson_46 ?_
    replace hf := zb1_s hf
    obtain ⟨m23, h24, hf⟩ := hf
    refine zr_put h24 zk9 (by decide) zl_103 rfl rfl rfl dX9_addPerson_47 ?_
    cases hf
    exact zr_vret dX9_addPerson_50
  · rw [if_neg hc] at hf
    cases hf
    exact zr_vret dX9_addPerson_9
theorem dX11_isWord_0 : decode cX11_isWord 0 = .ok (.iload_n 0, 1) := by decide +kernel
theorem dX11_isWord_1 : decode cX11_isWord 1 = .ok (.ifCond .lt 13, 3) := by decide +kernel
theorem dX11_isWord_4 : decode cX11_isWord 4 = .ok (.iload_n 0, 1) := by decide +kernel
theorem dX11_isWord_5 : decode cX11_isWord 5 = .ok (.bipush 8, 2) := by decide +kernel
theorem dX11_isWord_7 : decode cX11_isWord 7 = .ok (.if_icmp .ge 7, 3) := by decide +kernel
theorem dX11_isWord_10 : decode cX11_isWord 10 = .ok (.iconst 1, 1) := by decide +kernel
theorem dX11_isWord_11 : decode cX11_isWord 11 = .ok (.goto 4, 3) := by decide +kernel
theorem dX11_isWord_14 : decode cX11_isWord 14 = .ok (.iconst 0, 1) := by decide +kernel
theorem dX11_isWord_15 : decode cX11_isWord 15 = .ok (.ireturn, 1) := by decide +kernel
noncomputable def fX11_isWord (μ : zM) (x0 : Int32) : Option (Int32) :=
  zb1 (if x0 < 0 then (
  some 0)
  else (
  if 8 ≤ x0 then (
  some 0)
  else (
  some 1)) : Option (Int32)) fun (s1 : Int32) =>
  zb1 (zbz s1) fun v3 =>
  some v3
set_option maxHeartbeats 4000000 in
set_option maxRecDepth 100000 in
theorem cX11_isWord_ok {μ : zM} {x0 : Int32} {r : Int32} (hf : fX11_isWord μ x0 = some r) : zC yX11_isWord cX11_isWord 1 (some .boolean) 0 0 0 [.int x0] μ (some (.int r)) μ := by
  unfold fX11_isWord at hf
  refine zC.of (by decide) (Nat.le_of_ble_eq_true rfl) (fun K hin => ?_)
  clear hin
  show zz K cX11_isWord (1, RX11, some .boolean, 0, 0, 0, some (.int r), μ) 0 0 0 [(0, .int x0)] [] μ
  refine zr_iload_n 0 dX11_isWord_0 rfl ?_
  replace hf := zb1_s hf
  obtain ⟨s1, hg, hf⟩ := hf
  have hj2 : zz K cX11_isWord (1, RX11, some .boolean, 0, 0, 0, some (.int r), μ) 0 0 15 [] [.int s1] μ := by
    replace hf := zb1_s hf
    obtain ⟨v3, hn4, hf⟩ := hf
    replace hn4 := zbz_s hn4
    obtain ⟨hn4, rfl⟩ := hn4
    cases hf
    exact zr_zret hn4 dX11_isWord_15
  clear hf
  have hf := hg
  clear hg
  refine zr_if_lt 14 dX11_isWord_1 (by decide) (fun hc => ?_) (fun hc => ?_)
  · rw [if_pos hc] at hf
    refine zr_iconst 0 dX11_isWord_14 (by decide) ?_
    cases hf
    exact zr_lv [] rfl hj2
  · rw [if_neg hc] at hf
    refine zr_iload_n 0 dX11_isWord_4 rfl ?_
    refine zr_bipush 8 dX11_isWord_5 (by decide) ?_
    refine zr_icmp_ge 14 dX11_isWord_7 (by decide) (fun hc => ?_) (fun hc => ?_)
    · rw [if_pos hc] at hf
      refine zr_iconst 0 dX11_isWord_14 (by decide) ?_
      cases hf
      exact zr_lv [] rfl hj2
    · rw [if_neg hc] at hf
      refine zr_iconst 1 dX11_isWord_10 (by decide) ?_
      refine zr_goto 15 dX11_isWord_11 (by decide) ?_
      cases hf
      exact zr_lv [] rfl hj2
theorem zl_369 : Cond.fieldLink RX4 183 "TwoEchoes$Valley" "weight" "[I" ∈ zt := zt_at 186 (by decide +kernel)
theorem zl_370 : Cond.fieldLink RX4 180 "TwoEchoes$Valley" "thought" "[I" ∈ zt := zt_at 182 (by decide +kernel)
theorem zl_371 : Cond.fieldLink RX4 177 "TwoEchoes$Valley" "should" "[I" ∈ zt := zt_at 179 (by decide +kernel)
theorem dX4_takeOfWord_0 : decode cX4_takeOfWord 0 = .ok (.iload_n 1, 1) := by decide +kernel
theorem dX4_takeOfWord_1 : decode cX4_takeOfWord 1 = .ok (.iconst 1, 1) := by decide +kernel
theorem dX4_takeOfWord_2 : decode cX4_takeOfWord 2 = .ok (.if_icmp .ne 16, 3) := by decide +kernel
theorem dX4_takeOfWord_5 : decode cX4_takeOfWord 5 = .ok (.aload_n 0, 1) := by decide +kernel
theorem dX4_takeOfWord_6 : decode cX4_takeOfWord 6 = .ok (.getfield 12, 3) := by decide +kernel
theorem dX4_takeOfWord_9 : decode cX4_takeOfWord 9 = .ok (.getfield 177, 3) := by decide +kernel
theorem dX4_takeOfWord_12 : decode cX4_takeOfWord 12 = .ok (.iload_n 2, 1) := by decide +kernel
theorem dX4_takeOfWord_13 : decode cX4_takeOfWord 13 = .ok (.iload_n 3, 1) := by decide +kernel
theorem dX4_takeOfWord_14 : decode cX4_takeOfWord 14 = .ok (.iastore, 1) := by decide +kernel
theorem dX4_takeOfWord_15 : decode cX4_takeOfWord 15 = .ok (.goto 36, 3) := by decide +kernel
theorem dX4_takeOfWord_18 : decode cX4_takeOfWord 18 = .ok (.iload_n 1, 1) := by decide +kernel
theorem dX4_takeOfWord_19 : decode cX4_takeOfWord 19 = .ok (.iconst 2, 1) := by decide +kernel
theorem dX4_takeOfWord_20 : decode cX4_takeOfWord 20 = .ok (.if_icmp .ne 16, 3) := by decide +kernel
theorem dX4_takeOfWord_23 : decode cX4_takeOfWord 23 = .ok (.aload_n 0, 1) := by decide +kernel
theorem dX4_takeOfWord_24 : decode cX4_takeOfWord 24 = .ok (.getfield 12, 3) := by decide +kernel
theorem dX4_takeOfWord_27 : decode cX4_takeOfWord 27 = .ok (.getfield 180, 3) := by decide +kernel
theorem dX4_takeOfWord_30 : decode cX4_takeOfWord 30 = .ok (.iload_n 2, 1) := by decide +kernel
theorem dX4_takeOfWord_31 : decode cX4_takeOfWord 31 = .ok (.iload_n 3, 1) := by decide +kernel
theorem dX4_takeOfWord_32 : decode cX4_takeOfWord 32 = .ok (.iastore, 1) := by decide +kernel
theorem dX4_takeOfWord_33 : decode cX4_takeOfWord 33 = .ok (.goto 18, 3) := by decide +kernel
theorem dX4_takeOfWord_36 : decode cX4_takeOfWord 36 = .ok (.iload_n 1, 1) := by decide +kernel
theorem dX4_takeOfWord_37 : decode cX4_takeOfWord 37 = .ok (.iconst 3, 1) := by decide +kernel
theorem dX4_takeOfWord_38 : decode cX4_takeOfWord 38 = .ok (.if_icmp .ne 13, 3) := by decide +kernel
theorem dX4_takeOfWord_41 : decode cX4_takeOfWord 41 = .ok (.aload_n 0, 1) := by decide +kernel
theorem dX4_takeOfWord_42 : decode cX4_takeOfWord 42 = .ok (.getfield 12, 3) := by decide +kernel
theorem dX4_takeOfWord_45 : decode cX4_takeOfWord 45 = .ok (.getfield 183, 3) := by decide +kernel
theorem dX4_takeOfWord_48 : decode cX4_takeOfWord 48 = .ok (.iload_n 2, 1) := by decide +kernel
theorem dX4_takeOfWord_49 : decode cX4_takeOfWord 49 = .ok (.iload_n 3, 1) := by decide +kernel
theorem dX4_takeOfWord_50 : decode cX4_takeOfWord 50 = .ok (.iastore, 1) := by decide +kernel
theorem dX4_takeOfWord_51 : decode cX4_takeOfWord 51 = .ok (.return_, 1) := by decide +kernel
noncomputable def fX4_takeOfWord (μ : zM) (x0 : Nat) (x1 : Int32) (x2 : Int32) (x3 : Int32) : Option (zM) := zgd (zm_ck μ 4 x0) <|
  zc1 (if x1 = 1 then (
  zb1 (zm_gR μ 4 x0 0) fun v15 =>
  zb1 (zm_gR μ 9 v15 1) fun v17 =>
  zb1 (zm_sI μ 0 v17 x2 x3) fun m19 =>
  some m19)
  else (
  if x1 = 2 then (
  zb1 (zm_gR μ 4 x0 0) fun v9 =>
  zb1 (zm_gR μ 9 v9 2) fun v11 =>
  zb1 (zm_sI μ 0 v11 x2 x3) fun m13 =>
  some m13)
  else (
  if x1 = 3 then (
  zb1 (zm_gR μ 4 x0 0) fun v3 =>
  zb1 (zm_gR μ 9 v3 3) fun v5 =>
  zb1 (zm_sI μ 0 v5 x2 x3) fun m7 =>
  some m7)
  else (
  some μ))) : Option (zM)) fun (m1 : zM) =>
  some m1
theorem fX4_takeOfWord_ck {μ : zM} {x0 : Nat} {x1 : Int32} {x2 : Int32} {x3 : Int32} {z : zM} (h : fX4_takeOfWord μ x0 x1 x2 x3 = some z) : zm_ck μ 4 x0 = true := (zgd_s h).1
set_option maxHeartbeats 4000000 in
set_option maxRecDepth 100000 in
theorem cX4_takeOfWord_ok {μ : zM} {x0 : Nat} {x1 : Int32} {x2 : Int32} {x3 : Int32} {mo : zM} (hf : fX4_takeOfWord μ x0 x1 x2 x3 = some mo) : zC yX4_takeOfWord cX4_takeOfWord 4 (none) 0 0 0 [.ref x0, .int x1, .int x2, .int x3] μ (none) mo := by
  replace hf := (zgd_s hf).2
  refine zC.of (by decide) (Nat.le_of_ble_eq_true rfl) (fun K hin => ?_)
  clear hin
  show zz K cX4_takeOfWord (4, RX4, none, 0, 0, 0, none, mo) 0 0 0 [(0, .ref x0), (1, .int x1), (2, .int x2), (3, .int x3)] [] μ
  refine zr_iload_n 1 dX4_takeOfWord_0 rfl ?_
  refine zr_iconst 1 dX4_takeOfWord_1 (by decide) ?_
  replace hf := zc1_s hf
  obtain ⟨m1, hg, hf⟩ := hf
  have hj2 : zz K cX4_takeOfWord (4, RX4, none, 0, 0, 0, none, mo) 0 0 51 [] [] m1 := by
    cases hf
    exact zr_vret dX4_takeOfWord_51
  clear hf
  have hf := hg
  clear hg
  refine zr_icmp_ne 18 dX4_takeOfWord_2 (by decide) (fun hc => ?_) (fun hc => ?_)
  · rw [if_neg hc] at hf
    refine zr_iload_n 1 dX4_takeOfWord_18 rfl ?_
    refine zr_iconst 2 dX4_takeOfWord_19 (by decide) ?_
    refine zr_icmp_ne 36 dX4_takeOfWord_20 (by decide) (fun hc => ?_) (fun hc => ?_)
    · rw [if_neg hc] at hf
      refine zr_iload_n 1 dX4_takeOfWord_36 rfl ?_
      refine zr_iconst 3 dX4_takeOfWord_37 (by decide) ?_
      refine zr_icmp_ne 51 dX4_takeOfWord_38 (by decide) (fun hc => ?_) (fun hc => ?_)
      · rw [if_neg hc] at hf
        cases hf
        exact zr_lv [] rfl hj2
      · rw [if_pos hc] at hf
        refine zr_aload_n 0 dX4_takeOfWord_41 rfl ?_
        replace hf := zb1_s hf
        obtain ⟨v3, h4, hf⟩ := hf
        refine zr_get (zm_gR_g h4) zk4 (by decide) zl_246 dX4_takeOfWord_42 ?_
        replace hf := zb1_s hf
        obtain ⟨v5, h6, hf⟩ := hf
        refine zr_get (zm_gR_g h6) zk9 (by decide) zl_369 dX4_takeOfWord_45 ?_
        refine zr_iload_n 2 dX4_takeOfWord_48 rfl ?_
        refine zr_iload_n 3 dX4_takeOfWord_49 rfl ?_
        replace hf := zb1_s hf
        obtain ⟨m7, h8, hf⟩ := hf
        refine zr_iast h8 dX4_takeOfWord_50 ?_
        cases hf
        exact zr_lv [] rfl hj2
    · rw [if_pos hc] at hf
      refine zr_aload_n 0 dX4_takeOfWord_23 rfl ?_
      replace hf := zb1_s hf
      obtain ⟨v9, h10, hf⟩ := hf
      refine zr_get (zm_gR_g h10) zk4 (by decide) zl_246 dX4_takeOfWord_24 ?_
      replace hf := zb1_s hf
      obtain ⟨v11, h12, hf⟩ := hf
      refine zr_get (zm_gR_g h12) zk9 (by decide) zl_370 dX4_takeOfWord_27 ?_
      refine zr_iload_n 2 dX4_takeOfWord_30 rfl ?_
      refine zr_iload_n 3 dX4_takeOfWord_31 rfl ?_
      replace hf := zb1_s hf
      obtain ⟨m13, h14, hf⟩ := hf
      refine zr_iast h14 dX4_takeOfWord_32 ?_
      refine zr_goto 51 dX4_takeOfWord_33 (by decide) ?_
      cases hf
      exact zr_lv [] rfl hj2
  · rw [if_pos hc] at hf
    refine zr_aload_n 0 dX4_takeOfWord_5 rfl ?_
    replace hf := zb1_s hf
    obtain ⟨v15, h16, hf⟩ := hf
    refine zr_get (zm_gR_g h16) zk4 (by decide) zl_246 dX4_takeOfWord_6 ?_
    replace hf := zb1_s hf
    obtain ⟨v17, h18, hf⟩ := hf
    refine zr_get (zm_gR_g h18) zk9 (by decide) zl_371 dX4_takeOfWord_9 ?_
    refine zr_iload_n 2 dX4_takeOfWord_12 rfl ?_
    refine zr_iload_n 3 dX4_takeOfWord_13 rfl ?_
    replace hf := zb1_s hf
    obtain ⟨m19, h20, hf⟩ := hf
    refine zr_iast h20 dX4_takeOfWord_14 ?_
    refine zr_goto 51 dX4_takeOfWord_15 (by decide) ?_
    cases hf
    exact zr_lv [] rfl hj2
theorem zl_372 : Cond.code yX11_isWord cX11_isWord 1 (some .boolean) ∈ zt := zt_at 715 (by decide +kernel)
theorem zvs_X11_isWord : zvS yX11_isWord cX11_isWord 1 (some .boolean) 1 := ⟨zl_372, zl_118, ⟨by decide +kernel, by decide +kernel, by decide +kernel⟩, by decide⟩
theorem zl_373 : Cond.methodLinkNest RX4 171 yX11_isWord "TwoEchoes" ∈ zn := zn_at 713 (by decide +kernel)
theorem zl_374 : Cond.static yX11_isWord ∈ zt := zt_at 714 (by decide +kernel)
theorem zl_375 : Cond.code yX4_takeOfWord cX4_takeOfWord 4 (none) ∈ zt := zt_at 719 (by decide +kernel)
theorem zvs_X4_takeOfWord : zvS yX4_takeOfWord cX4_takeOfWord 4 (none) 3 := ⟨zl_375, zl_296, ⟨by decide +kernel, by decide +kernel, by decide +kernel⟩, by decide⟩
theorem zl_376 : Cond.methodLink RX4 174 yX4_takeOfWord ∈ zt := zt_at 716 (by decide +kernel)
theorem zl_377 : Cond.instanceMethod yX4_takeOfWord ∈ zt := zt_at 718 (by decide +kernel)
theorem zl_378 : Cond.selects RX4 yX4_takeOfWord yX4_takeOfWord ∈ zt := zt_at 14 (by decide +kernel)
theorem zl_379 : Cond.fieldLink RX4 168 "TwoEchoes$Valley" "wide" "I" ∈ zt := zt_at 175 (by decide +kernel)
theorem zl_380 : Cond.code yX9_addPerson cX9_addPerson 4 (none) ∈ zt := zt_at 712 (by decide +kernel)
theorem zvs_X9_addPerson : zvS yX9_addPerson cX9_addPerson 4 (none) 3 := ⟨zl_380, zl_14, ⟨by decide +kernel, by decide +kernel, by decide +kernel⟩, by decide⟩
theorem zl_381 : Cond.methodLink RX4 165 yX9_addPerson ∈ zt := zt_at 709 (by decide +kernel)
theorem zl_382 : Cond.instanceMethod yX9_addPerson ∈ zt := zt_at 710 (by decide +kernel)
theorem zl_383 : Cond.selects RX9 yX9_addPerson yX9_addPerson ∈ zt := zt_at 711 (by decide +kernel)
theorem zl_384 : Cond.code yX9_addSky cX9_addSky 5 (none) ∈ zt := zt_at 708 (by decide +kernel)
theorem zvs_X9_addSky : zvS yX9_addSky cX9_addSky 5 (none) 3 := ⟨zl_384, zl_14, ⟨by decide +kernel, by decide +kernel, by decide +kernel⟩, by decide⟩
theorem zl_385 : Cond.methodLink RX4 162 yX9_addSky ∈ zt := zt_at 705 (by decide +kernel)
theorem zl_386 : Cond.instanceMethod yX9_addSky ∈ zt := zt_at 706 (by decide +kernel)
theorem zl_387 : Cond.selects RX9 yX9_addSky yX9_addSky ∈ zt := zt_at 707 (by decide +kernel)
theorem dX4_takeOfValley_0 : decode cX4_takeOfValley 0 = .ok (.iload_n 1, 1) := by decide +kernel
theorem dX4_takeOfValley_1 : decode cX4_takeOfValley 1 = .ok (.bipush 7, 2) := by decide +kernel
theorem dX4_takeOfValley_3 : decode cX4_takeOfValley 3 = .ok (.if_icmp .lt 36, 3) := by decide +kernel
theorem dX4_takeOfValley_6 : decode cX4_takeOfValley 6 = .ok (.aload_n 0, 1) := by decide +kernel
theorem dX4_takeOfValley_7 : decode cX4_takeOfValley 7 = .ok (.getfield 12, 3) := by decide +kernel
theorem dX4_takeOfValley_10 : decode cX4_takeOfValley 10 = .ok (.iload_n 1, 1) := by decide +kernel
theorem dX4_takeOfValley_11 : decode cX4_takeOfValley 11 = .ok (.bipush 7, 2) := by decide +kernel
theorem dX4_takeOfValley_13 : decode cX4_takeOfValley 13 = .ok (.if_icmp .ne 7, 3) := by decide +kernel
theorem dX4_takeOfValley_16 : decode cX4_takeOfValley 16 = .ok (.iconst 1, 1) := by decide +kernel
theorem dX4_takeOfValley_17 : decode cX4_takeOfValley 17 = .ok (.goto 4, 3) := by decide +kernel
theorem dX4_takeOfValley_20 : decode cX4_takeOfValley 20 = .ok (.iconst 2, 1) := by decide +kernel
theorem dX4_takeOfValley_21 : decode cX4_takeOfValley 21 = .ok (.aload_n 0, 1) := by decide +kernel
theorem dX4_takeOfValley_22 : decode cX4_takeOfValley 22 = .ok (.getfield 58, 3) := by decide +kernel
theorem dX4_takeOfValley_25 : decode cX4_takeOfValley 25 = .ok (.iconst 0, 1) := by decide +kernel
theorem dX4_takeOfValley_26 : decode cX4_takeOfValley 26 = .ok (.iaload, 1) := by decide +kernel
theorem dX4_takeOfValley_27 : decode cX4_takeOfValley 27 = .ok (.aload_n 0, 1) := by decide +kernel
theorem dX4_takeOfValley_28 : decode cX4_takeOfValley 28 = .ok (.getfield 58, 3) := by decide +kernel
theorem dX4_takeOfValley_31 : decode cX4_takeOfValley 31 = .ok (.iconst 1, 1) := by decide +kernel
theorem dX4_takeOfValley_32 : decode cX4_takeOfValley 32 = .ok (.iaload, 1) := by decide +kernel
theorem dX4_takeOfValley_33 : decode cX4_takeOfValley 33 = .ok (.invokevirtual 162, 3) := by decide +kernel
theorem dX4_takeOfValley_36 : decode cX4_takeOfValley 36 = .ok (.goto 82, 3) := by decide +kernel
theorem dX4_takeOfValley_39 : decode cX4_takeOfValley 39 = .ok (.iload_n 1, 1) := by decide +kernel
theorem dX4_takeOfValley_40 : decode cX4_takeOfValley 40 = .ok (.iconst 4, 1) := by decide +kernel
theorem dX4_takeOfValley_41 : decode cX4_takeOfValley 41 = .ok (.if_icmp .lt 28, 3) := by decide +kernel
theorem dX4_takeOfValley_44 : decode cX4_takeOfValley 44 = .ok (.aload_n 0, 1) := by decide +kernel
theorem dX4_takeOfValley_45 : decode cX4_takeOfValley 45 = .ok (.getfield 12, 3) := by decide +kernel
theorem dX4_takeOfValley_48 : decode cX4_takeOfValley 48 = .ok (.iload_n 1, 1) := by decide +kernel
theorem dX4_takeOfValley_49 : decode cX4_takeOfValley 49 = .ok (.iconst 4, 1) := by decide +kernel
theorem dX4_takeOfValley_50 : decode cX4_takeOfValley 50 = .ok (.isub, 1) := by decide +kernel
theorem dX4_takeOfValley_51 : decode cX4_takeOfValley 51 = .ok (.aload_n 0, 1) := by decide +kernel
theorem dX4_takeOfValley_52 : decode cX4_takeOfValley 52 = .ok (.getfield 58, 3) := by decide +kernel
theorem dX4_takeOfValley_55 : decode cX4_takeOfValley 55 = .ok (.iconst 0, 1) := by decide +kernel
theorem dX4_takeOfValley_56 : decode cX4_takeOfValley 56 = .ok (.iaload, 1) := by decide +kernel
theorem dX4_takeOfValley_57 : decode cX4_takeOfValley 57 = .ok (.aload_n 0, 1) := by decide +kernel
theorem dX4_takeOfValley_58 : decode cX4_takeOfValley 58 = .ok (.getfield 58, 3) := by decide +kernel
theorem dX4_takeOfValley_61 : decode cX4_takeOfValley 61 = .ok (.iconst 1, 1) := by decide +kernel
theorem dX4_takeOfValley_62 : decode cX4_takeOfValley 62 = .ok (.iaload, 1) := by decide +kernel
theorem dX4_takeOfValley_63 : decode cX4_takeOfValley 63 = .ok (.invokevirtual 165, 3) := by decide +kernel
theorem dX4_takeOfValley_66 : decode cX4_takeOfValley 66 = .ok (.goto 52, 3) := by decide +kernel
theorem dX4_takeOfValley_69 : decode cX4_takeOfValley 69 = .ok (.iload_n 1, 1) := by decide +kernel
theorem dX4_takeOfValley_70 : decode cX4_takeOfValley 70 = .ok (.ifCond .ne 19, 3) := by decide +kernel
theorem dX4_takeOfValley_73 : decode cX4_takeOfValley 73 = .ok (.aload_n 0, 1) := by decide +kernel
theorem dX4_takeOfValley_74 : decode cX4_takeOfValley 74 = .ok (.getfield 12, 3) := by decide +kernel
theorem dX4_takeOfValley_77 : decode cX4_takeOfValley 77 = .ok (.aload_n 0, 1) := by decide +kernel
theorem dX4_takeOfValley_78 : decode cX4_takeOfValley 78 = .ok (.getfield 58, 3) := by decide +kernel
theorem dX4_takeOfValley_81 : decode cX4_takeOfValley 81 = .ok (.iconst 0, 1) := by decide +kernel
theorem dX4_takeOfValley_82 : decode cX4_takeOfValley 82 = .ok (.iaload, 1) := by decide +kernel
theorem dX4_takeOfValley_83 : decode cX4_takeOfValley 83 = .ok (.putfield 168, 3) := by decide +kernel
theorem dX4_takeOfValley_86 : decode cX4_takeOfValley 86 = .ok (.goto 32, 3) := by decide +kernel
theorem dX4_takeOfValley_89 : decode cX4_takeOfValley 89 = .ok (.aload_n 0, 1) := by decide +kernel
theorem dX4_takeOfValley_90 : decode cX4_takeOfValley 90 = .ok (.getfield 58, 3) := by decide +kernel
theorem dX4_takeOfValley_93 : decode cX4_takeOfValley 93 = .ok (.iconst 0, 1) := by decide +kernel
theorem dX4_takeOfValley_94 : decode cX4_takeOfValley 94 = .ok (.iaload, 1) := by decide +kernel
theorem dX4_takeOfValley_95 : decode cX4_takeOfValley 95 = .ok (.invokestatic 171, 3) := by decide +kernel
theorem dX4_takeOfValley_98 : decode cX4_takeOfValley 98 = .ok (.ifCond .eq 20, 3) := by decide +kernel
theorem dX4_takeOfValley_101 : decode cX4_takeOfValley 101 = .ok (.aload_n 0, 1) := by decide +kernel
theorem dX4_takeOfValley_102 : decode cX4_takeOfValley 102 = .ok (.iload_n 1, 1) := by decide +kernel
theorem dX4_takeOfValley_103 : decode cX4_takeOfValley 103 = .ok (.aload_n 0, 1) := by decide +kernel
theorem dX4_takeOfValley_104 : decode cX4_takeOfValley 104 = .ok (.getfield 58, 3) := by decide +kernel
theorem dX4_takeOfValley_107 : decode cX4_takeOfValley 107 = .ok (.iconst 0, 1) := by decide +kernel
theorem dX4_takeOfValley_108 : decode cX4_takeOfValley 108 = .ok (.iaload, 1) := by decide +kernel
theorem dX4_takeOfValley_109 : decode cX4_takeOfValley 109 = .ok (.aload_n 0, 1) := by decide +kernel
theorem dX4_takeOfValley_110 : decode cX4_takeOfValley 110 = .ok (.getfield 58, 3) := by decide +kernel
theorem dX4_takeOfValley_113 : decode cX4_takeOfValley 113 = .ok (.iconst 1, 1) := by decide +kernel
theorem dX4_takeOfValley_114 : decode cX4_takeOfValley 114 = .ok (.iaload, 1) := by decide +kernel
theorem dX4_takeOfValley_115 : decode cX4_takeOfValley 115 = .ok (.invokevirtual 174, 3) := by decide +kernel
theorem dX4_takeOfValley_118 : decode cX4_takeOfValley 118 = .ok (.return_, 1) := by decide +kernel
noncomputable def fX4_takeOfValley (μ : zM) (x0 : Nat) (x1 : Int32) : Option (zM) := zgd (zm_ck μ 4 x0) <|
  zc1 (if x1 < 7 then (
  if x1 < 4 then (
  if x1 = 0 then (
  zb1 (zm_gR μ 4 x0 0) fun v19 =>
  zb1 (zm_gR μ 4 x0 11) fun v21 =>
  zb1 (zm_aI μ 0 v21 0) fun v23 =>
  zb1 (zm_p μ 9 v19 0 (.int v23)) fun m25 =>
  some m25)
  else (
  zb1 (zm_gR μ 4 x0 11) fun v3 =>
  zb1 (zm_aI μ 0 v3 0) fun v5 =>
  zb1 (fX11_isWord μ v5) fun v8 =>
  if v8 = 0 then (
  some μ)
  else (
  zb1 (zm_gR μ 4 x0 11) fun v9 =>
  zb1 (zm_aI μ 0 v9 0) fun v11 =>
  zb1 (zm_gR μ 4 x0 11) fun v13 =>
  zb1 (zm_aI μ 0 v13 1) fun v15 =>
  zb1 (fX4_takeOfWord μ x0 x1 v11 v15) fun m18 =>
  some m18)))
  else (
  zb1 (zm_gR μ 4 x0 0) fun v27 =>
  zb1 (zm_gR μ 4 x0 11) fun v29 =>
  zb1 (zm_aI μ 0 v29 0) fun v31 =>
  zb1 (zm_gR μ 4 x0 11) fun v33 =>
  zb1 (zm_aI μ 0 v33 1) fun v35 =>
  zb1 (fX9_addPerson μ v27 (x1 - 4) v31 v35) fun m38 =>
  some m38))
  else (
  zb1 (zm_gR μ 4 x0 0) fun v39 =>
  zb1 (if x1 = 7 then (
  some 1)
  else (
  some 2) : Option (Int32)) fun (s41 : Int32) =>
  zb1 (zm_gR μ 4 x0 11) fun v43 =>
  zb1 (zm_aI μ 0 v43 0) fun v45 =>
  zb1 (zm_gR μ 4 x0 11) fun v47 =>
  zb1 (zm_aI μ 0 v47 1) fun v49 =>
  zb1 (fX9_addSky μ v39 s41 v45 v49) fun m52 =>
  some m52) : Option (zM)) fun (m1 : zM) =>
  some m1
theorem fX4_takeOfValley_ck {μ : zM} {x0 : Nat} {x1 : Int32} {z : zM} (h : fX4_takeOfValley μ x0 x1 = some z) : zm_ck μ 4 x0 = true := (zgd_s h).1
set_option maxHeartbeats 4000000 in
set_option maxRecDepth 100000 in
theorem cX4_takeOfValley_ok {μ : zM} {x0 : Nat} {x1 : Int32} {mo : zM} (hf : fX4_takeOfValley μ x0 x1 = some mo) : zC yX4_takeOfValley cX4_takeOfValley 2 (none) 1 0 0 [.ref x0, .int x1] μ (none) mo := by
  replace hf := (zgd_s hf).2
  refine zC.of (by decide) (Nat.le_of_ble_eq_true rfl) (fun K hin => ?_)
  clear hin
  show zz K cX4_takeOfValley (2, RX4, none, 1, 0, 0, none, mo) 0 0 0 [(0, .ref x0), (1, .int x1)] [] μ
  refine zr_iload_n 1 dX4_takeOfValley_0 rfl ?_
  refine zr_bipush 7 dX4_takeOfValley_1 (by decide) ?_
  replace hf := zc1_s hf
  obtain ⟨m1, hg, hf⟩ := hf
  have hj2 : zz K cX4_takeOfValley (2, RX4, none, 1, 0, 0, none, mo) 0 0 118 [] [] m1 := by
    cases hf
    exact zr_vret dX4_takeOfValley_118
  clear hf
  have hf := hg
  clear hg
  refine zr_icmp_lt 39 dX4_takeOfValley_3 (by decide) (fun hc => ?_) (fun hc => ?_)
  · rw [if_pos hc] at hf
    refine zr_iload_n 1 dX4_takeOfValley_39 rfl ?_
    refine zr_iconst 4 dX4_takeOfValley_40 (by decide) ?_
    refine zr_icmp_lt 69 dX4_takeOfValley_41 (by decide) (fun hc => ?_) (fun hc => ?_)
    · rw [if_pos hc] at hf
      refine zr_iload_n 1 dX4_takeOfValley_69 rfl ?_
      refine zr_if_ne 89 dX4_takeOfValley_70 (by decide) (fun hc => ?_) (fun hc => ?_)
      · rw [if_neg hc] at hf
        refine zr_aload_n 0 dX4_takeOfValley_89 rfl ?_
        replace hf := zb1_s hf
        obtain ⟨v3, h4, hf⟩ := hf
        refine zr_get (zm_gR_g h4) zk4 (by decide) zl_273 dX4_takeOfValley_90 ?_
        refine zr_iconst 0 dX4_takeOfValley_93 (by decide) ?_
        replace hf := zb1_s hf
        obtain ⟨v5, h6, hf⟩ := hf
        refine zr_iald h6 dX4_takeOfValley_94 ?_
        replace hf := zb1_s hf
        obtain ⟨v8, h7, hf⟩ := hf
        refine zr_callSN [.int v5] (cX11_isWord_ok h7) zvs_X11_isWord zl_374 zl_373 rfl (Nat.le_of_ble_eq_true rfl) (Nat.le_of_ble_eq_true rfl) (Nat.le_of_ble_eq_true rfl) (Nat.le_of_ble_eq_true rfl) dX4_takeOfValley_95 rfl ?_
        refine zr_if_eq 118 dX4_takeOfValley_98 (by decide) (fun hc => ?_) (fun hc => ?_)
        · rw [if_pos hc] at hf
          cases hf
          exact zr_lv [] rfl hj2
        · rw [if_neg hc] at hf
          refine zr_aload_n 0 dX4_takeOfValley_101 rfl ?_
          refine zr_iload_n 1 dX4_takeOfValley_102 rfl ?_
          refine zr_aload_n 0 dX4_takeOfValley_103 rfl ?_
          replace hf := zb1_s hf
          obtain ⟨v9, h10, hf⟩ := hf
          refine zr_get (zm_gR_g h10) zk4 (by decide) zl_273 dX4_takeOfValley_104 ?_
          refine zr_iconst 0 dX4_takeOfValley_107 (by decide) ?_
          replace hf := zb1_s hf
          obtain ⟨v11, h12, hf⟩ := hf
          refine zr_iald h12 dX4_takeOfValley_108 ?_
          refine zr_aload_n 0 dX4_takeOfValley_109 rfl ?_
          replace hf := zb1_s hf
          obtain ⟨v13, h14, hf⟩ := hf
          refine zr_get (zm_gR_g h14) zk4 (by decide) zl_273 dX4_takeOfValley_110 ?_
          refine zr_iconst 1 dX4_takeOfValley_113 (by decide) ?_
          replace hf := zb1_s hf
          obtain ⟨v15, h16, hf⟩ := hf
          refine zr_iald h16 dX4_takeOfValley_114 ?_
          replace hf := zb1_s hf
          obtain ⟨m18, h17, hf⟩ := hf
          refine zr_callV (ci := 4) [.int x1, .int v11, .int v15] (cX4_takeOfWord_ok h17) zvs_X4_takeOfWord zl_377 zl_378 (fX4_takeOfWord_ck h17) rfl rfl zl_376 rfl (Nat.le_of_ble_eq_true rfl) (Nat.le_of_ble_eq_true rfl) (Nat.le_of_ble_eq_true rfl) (Nat.le_of_ble_eq_true rfl) dX4_takeOfValley_115 rfl ?_
          cases hf
          exact zr_lv [] rfl hj2
      · rw [if_pos hc] at hf
        refine zr_aload_n 0 dX4_takeOfValley_73 rfl ?_
        replace hf := zb1_s hf
        obtain ⟨v19, h20, hf⟩ := hf
        refine zr_get (zm_gR_g h20) zk4 (by decide) zl_246 dX4_takeOfValley_74 ?_
        refine zr_aload_n 0 dX4_takeOfValley_77 rfl ?_
        replace hf := zb1_s hf
        obtain ⟨v21, h22, hf⟩ := hf
        refine zr_get (zm_gR_g h22) zk4 (by decide) zl_273 dX4_takeOfValley_78 ?_
        refine zr_iconst 0 dX4_takeOfValley_81 (by decide) ?_
        replace hf := zb1_s hf
        obtain ⟨v23, h24, hf⟩ := hf
        refine zr_iald h24 dX4_takeOfValley_82 ?_
        replace hf := zb1_s hf
        obtain ⟨m25, h26, hf⟩ := hf
        refine zr_put h26 zk9 (by decide) zl_379 rfl rfl rfl dX4_takeOfValley_83 ?_
        refine zr_goto 118 dX4_takeOfValley_86 (by decide) ?_
        cases hf
        exact zr_lv [] rfl hj2
    · rw [if_neg hc] at hf
      refine zr_aload_n 0 dX4_takeOfValley_44 rfl ?_
      replace hf := zb1_s hf
      obtain ⟨v27, h28, hf⟩ := hf
      refine zr_get (zm_gR_g h28) zk4 (by decide) zl_246 dX4_takeOfValley_45 ?_
      refine zr_iload_n 1 dX4_takeOfValley_48 rfl ?_
      refine zr_iconst 4 dX4_takeOfValley_49 (by decide) ?_
      refine zr_isub dX4_takeOfValley_50 ?_
      refine zr_aload_n 0 dX4_takeOfValley_51 rfl ?_
      replace hf := zb1_s hf
      obtain ⟨v29, h30, hf⟩ := hf
      refine zr_get (zm_gR_g h30) zk4 (by decide) zl_273 dX4_takeOfValley_52 ?_
      refine zr_iconst 0 dX4_takeOfValley_55 (by decide) ?_
      replace hf := zb1_s hf
      obtain ⟨v31, h32, hf⟩ := hf
      refine zr_iald h32 dX4_takeOfValley_56 ?_
      refine zr_aload_n 0 dX4_takeOfValley_57 rfl ?_
      replace hf := zb1_s hf
      obtain ⟨v33, h34, hf⟩ := hf
      refine zr_get (zm_gR_g h34) zk4 (by decide) zl_273 dX4_takeOfValley_58 ?_
      refine zr_iconst 1 dX4_takeOfValley_61 (by decide) ?_
      replace hf := zb1_s hf
      obtain ⟨v35, h36, hf⟩ := hf
      refine zr_iald h36 dX4_takeOfValley_62 ?_
      replace hf := zb1_s hf
      obtain ⟨m38, h37, hf⟩ := hf
      refine zr_callV (ci := 9) [.int (x1 - 4), .int v31, .int v35] (cX9_addPerson_ok h37) zvs_X9_addPerson zl_382 zl_383 (fX9_addPerson_ck h37) rfl rfl zl_381 rfl (Nat.le_of_ble_eq_true rfl) (Nat.le_of_ble_eq_true rfl) (Nat.le_of_ble_eq_true rfl) (Nat.le_of_ble_eq_true rfl) dX4_takeOfValley_63 rfl ?_
      refine zr_goto 118 dX4_takeOfValley_66 (by decide) ?_
      cases hf
      exact zr_lv [] rfl hj2
  · rw [if_neg hc] at hf
    refine zr_aload_n 0 dX4_takeOfValley_6 rfl ?_
    replace hf := zb1_s hf
    obtain ⟨v39, h40, hf⟩ := hf
    refine zr_get (zm_gR_g h40) zk4 (by decide) zl_246 dX4_takeOfValley_7 ?_
    refine zr_iload_n 1 dX4_takeOfValley_10 rfl ?_
    refine zr_bipush 7 dX4_takeOfValley_11 (by decide) ?_
    replace hf := zb1_s hf
    obtain ⟨s41, hg, hf⟩ := hf
    have hj42 : zz K cX4_takeOfValley (2, RX4, none, 1, 0, 0, none, mo) 0 0 21 [(0, .ref x0)] [.int s41, .ref v39] μ := by
      refine zr_aload_n 0 dX4_takeOfValley_21 rfl ?_
      replace hf := zb1_s hf
      obtain ⟨v43, h44, hf⟩ := hf
      refine zr_get (zm_gR_g h44) zk4 (by decide) zl_273 dX4_takeOfValley_22 ?_
      refine zr_iconst 0 dX4_takeOfValley_25 (by decide) ?_
      replace hf := zb1_s hf
      obtain ⟨v45, h46, hf⟩ := hf
      refine zr_iald h46 dX4_takeOfValley_26 ?_
      refine zr_aload_n 0 dX4_takeOfValley_27 rfl ?_
      replace hf := zb1_s hf
      obtain ⟨v47, h48, hf⟩ := hf
      refine zr_get (zm_gR_g h48) zk4 (by decide) zl_273 dX4_takeOfValley_28 ?_
      refine zr_iconst 1 dX4_takeOfValley_31 (by decide) ?_
      replace hf := zb1_s hf
      obtain ⟨v49, h50, hf⟩ := hf
      refine zr_iald h50 dX4_takeOfValley_32 ?_
      replace hf := zb1_s hf
      obtain ⟨m52, h51, hf⟩ := hf
      refine zr_callV (ci := 9) [.int s41, .int v45, .int v49] (cX9_addSky_ok h51) zvs_X9_addSky zl_386 zl_387 (fX9_addSky_ck h51) rfl rfl zl_385 rfl (Nat.le_of_ble_eq_true rfl) (Nat.le_of_ble_eq_true rfl) (Nat.le_of_ble_eq_true rfl) (Nat.le_of_ble_eq_true rfl) dX4_takeOfValley_33 rfl ?_
      refine zr_goto 118 dX4_takeOfValley_36 (by decide) ?_
      cases hf
      exact zr_lv [] rfl hj2
    clear hf
    have hf := hg
    clear hg
    refine zr_icmp_ne 20 dX4_takeOfValley_13 (by decide) (fun hc => ?_) (fun hc => ?_)
    · rw [if_neg hc] at hf
      refine zr_iconst 2 dX4_takeOfValley_20 (by decide) ?_
      cases hf
      exact zr_lv [0] rfl hj42
    · rw [if_pos hc] at hf
      refine zr_iconst 1 dX4_takeOfValley_16 (by decide) ?_
      refine zr_goto 21 dX4_takeOfValley_17 (by decide) ?_
      cases hf
      exact zr_lv [0] rfl hj42
theorem zl_388 : Cond.code yX4_takeOfValley cX4_takeOfValley 2 (none) ∈ zt := zt_at 704 (by decide +kernel)
theorem zvs_X4_takeOfValley : zvS yX4_takeOfValley cX4_takeOfValley 2 (none) 1 := ⟨zl_388, zl_296, ⟨by decide +kernel, by decide +kernel, by decide +kernel⟩, by decide⟩
theorem zl_389 : Cond.methodLink RX4 154 yX4_takeOfValley ∈ zt := zt_at 701 (by decide +kernel)
theorem zl_390 : Cond.instanceMethod yX4_takeOfValley ∈ zt := zt_at 703 (by decide +kernel)
theorem zl_391 : Cond.selects RX4 yX4_takeOfValley yX4_takeOfValley ∈ zt := zt_at 13 (by decide +kernel)
theorem zl_392 : Cond.code yX2_add cX2_add 4 (none) ∈ zt := zt_at 700 (by decide +kernel)
theorem zvs_X2_add : zvS yX2_add cX2_add 4 (none) 3 := ⟨zl_392, zl_249, ⟨by decide +kernel, by decide +kernel, by decide +kernel⟩, by decide⟩
theorem zl_393 : Cond.methodLink RX4 151 yX2_add ∈ zt := zt_at 697 (by decide +kernel)
theorem zl_394 : Cond.instanceMethod yX2_add ∈ zt := zt_at 698 (by decide +kernel)
theorem zl_395 : Cond.selects RX2 yX2_add yX2_add ∈ zt := zt_at 699 (by decide +kernel)
theorem zl_396 : Cond.code yX4_takeOfLesson cX4_takeOfLesson 2 (none) ∈ zt := zt_at 692 (by decide +kernel)
theorem zvs_X4_takeOfLesson : zvS yX4_takeOfLesson cX4_takeOfLesson 2 (none) 1 := ⟨zl_396, zl_296, ⟨by decide +kernel, by decide +kernel, by decide +kernel⟩, by decide⟩
theorem zl_397 : Cond.methodLink RX4 148 yX4_takeOfLesson ∈ zt := zt_at 689 (by decide +kernel)
theorem zl_398 : Cond.instanceMethod yX4_takeOfLesson ∈ zt := zt_at 691 (by decide +kernel)
theorem zl_399 : Cond.selects RX4 yX4_takeOfLesson yX4_takeOfLesson ∈ zt := zt_at 12 (by decide +kernel)
theorem zl_400 : Cond.code yX6_add cX6_add 5 (none) ∈ zt := zt_at 688 (by decide +kernel)
theorem zvs_X6_add : zvS yX6_add cX6_add 5 (none) 4 := ⟨zl_400, zl_262, ⟨by decide +kernel, by decide +kernel, by decide +kernel⟩, by decide⟩
theorem zl_401 : Cond.methodLink RX4 144 yX6_add ∈ zt := zt_at 685 (by decide +kernel)
theorem zl_402 : Cond.instanceMethod yX6_add ∈ zt := zt_at 686 (by decide +kernel)
theorem zl_403 : Cond.selects RX6 yX6_add yX6_add ∈ zt := zt_at 687 (by decide +kernel)
theorem dX4_take_0 : decode cX4_take 0 = .ok (.iload_n 1, 1) := by decide +kernel
theorem dX4_take_1 : decode cX4_take 1 = .ok (.bipush 16, 2) := by decide +kernel
theorem dX4_take_3 : decode cX4_take 3 = .ok (.if_icmp .lt 35, 3) := by decide +kernel
theorem dX4_take_6 : decode cX4_take 6 = .ok (.aload_n 0, 1) := by decide +kernel
theorem dX4_take_7 : decode cX4_take 7 = .ok (.getfield 35, 3) := by decide +kernel
theorem dX4_take_10 : decode cX4_take 10 = .ok (.iload_n 1, 1) := by decide +kernel
theorem dX4_take_11 : decode cX4_take 11 = .ok (.bipush 16, 2) := by decide +kernel
theorem dX4_take_13 : decode cX4_take 13 = .ok (.isub, 1) := by decide +kernel
theorem dX4_take_14 : decode cX4_take 14 = .ok (.aload_n 0, 1) := by decide +kernel
theorem dX4_take_15 : decode cX4_take 15 = .ok (.getfield 58, 3) := by decide +kernel
theorem dX4_take_18 : decode cX4_take 18 = .ok (.iconst 0, 1) := by decide +kernel
theorem dX4_take_19 : decode cX4_take 19 = .ok (.iaload, 1) := by decide +kernel
theorem dX4_take_20 : decode cX4_take 20 = .ok (.aload_n 0, 1) := by decide +kernel
theorem dX4_take_21 : decode cX4_take 21 = .ok (.getfield 58, 3) := by decide +kernel
theorem dX4_take_24 : decode cX4_take 24 = .ok (.iconst 1, 1) := by decide +kernel
theorem dX4_take_25 : decode cX4_take 25 = .ok (.iaload, 1) := by decide +kernel
theorem dX4_take_26 : decode cX4_take 26 = .ok (.aload_n 0, 1) := by decide +kernel
theorem dX4_take_27 : decode cX4_take 27 = .ok (.getfield 58, 3) := by decide +kernel
theorem dX4_take_30 : decode cX4_take 30 = .ok (.iconst 2, 1) := by decide +kernel
theorem dX4_take_31 : decode cX4_take 31 = .ok (.iaload, 1) := by decide +kernel
theorem dX4_take_32 : decode cX4_take 32 = .ok (.invokevirtual 144, 3) := by decide +kernel
theorem dX4_take_35 : decode cX4_take 35 = .ok (.goto 64, 3) := by decide +kernel
theorem dX4_take_38 : decode cX4_take 38 = .ok (.iload_n 1, 1) := by decide +kernel
theorem dX4_take_39 : decode cX4_take 39 = .ok (.bipush 14, 2) := by decide +kernel
theorem dX4_take_41 : decode cX4_take 41 = .ok (.if_icmp .lt 11, 3) := by decide +kernel
theorem dX4_take_44 : decode cX4_take 44 = .ok (.aload_n 0, 1) := by decide +kernel
theorem dX4_take_45 : decode cX4_take 45 = .ok (.iload_n 1, 1) := by decide +kernel
theorem dX4_take_46 : decode cX4_take 46 = .ok (.invokevirtual 148, 3) := by decide +kernel
theorem dX4_take_49 : decode cX4_take 49 = .ok (.goto 50, 3) := by decide +kernel
theorem dX4_take_52 : decode cX4_take 52 = .ok (.iload_n 1, 1) := by decide +kernel
theorem dX4_take_53 : decode cX4_take 53 = .ok (.bipush 9, 2) := by decide +kernel
theorem dX4_take_55 : decode cX4_take 55 = .ok (.if_icmp .lt 39, 3) := by decide +kernel
theorem dX4_take_58 : decode cX4_take 58 = .ok (.aload_n 0, 1) := by decide +kernel
theorem dX4_take_59 : decode cX4_take 59 = .ok (.getfield 21, 3) := by decide +kernel
theorem dX4_take_62 : decode cX4_take 62 = .ok (.iload_n 1, 1) := by decide +kernel
theorem dX4_take_63 : decode cX4_take 63 = .ok (.bipush 9, 2) := by decide +kernel
theorem dX4_take_65 : decode cX4_take 65 = .ok (.isub, 1) := by decide +kernel
theorem dX4_take_66 : decode cX4_take 66 = .ok (.aload_n 0, 1) := by decide +kernel
theorem dX4_take_67 : decode cX4_take 67 = .ok (.getfield 58, 3) := by decide +kernel
theorem dX4_take_70 : decode cX4_take 70 = .ok (.iconst 0, 1) := by decide +kernel
theorem dX4_take_71 : decode cX4_take 71 = .ok (.iaload, 1) := by decide +kernel
theorem dX4_take_72 : decode cX4_take 72 = .ok (.iload_n 1, 1) := by decide +kernel
theorem dX4_take_73 : decode cX4_take 73 = .ok (.bipush 13, 2) := by decide +kernel
theorem dX4_take_75 : decode cX4_take 75 = .ok (.if_icmp .ne 7, 3) := by decide +kernel
theorem dX4_take_78 : decode cX4_take 78 = .ok (.iconst (-1), 1) := by decide +kernel
theorem dX4_take_79 : decode cX4_take 79 = .ok (.goto 9, 3) := by decide +kernel
theorem dX4_take_82 : decode cX4_take 82 = .ok (.aload_n 0, 1) := by decide +kernel
theorem dX4_take_83 : decode cX4_take 83 = .ok (.getfield 58, 3) := by decide +kernel
theorem dX4_take_86 : decode cX4_take 86 = .ok (.iconst 1, 1) := by decide +kernel
theorem dX4_take_87 : decode cX4_take 87 = .ok (.iaload, 1) := by decide +kernel
theorem dX4_take_88 : decode cX4_take 88 = .ok (.invokevirtual 151, 3) := by decide +kernel
theorem dX4_take_91 : decode cX4_take 91 = .ok (.goto 8, 3) := by decide +kernel
theorem dX4_take_94 : decode cX4_take 94 = .ok (.aload_n 0, 1) := by decide +kernel
theorem dX4_take_95 : decode cX4_take 95 = .ok (.iload_n 1, 1) := by decide +kernel
theorem dX4_take_96 : decode cX4_take 96 = .ok (.invokevirtual 154, 3) := by decide +kernel
theorem dX4_take_99 : decode cX4_take 99 = .ok (.return_, 1) := by decide +kernel
noncomputable def fX4_take (μ : zM) (x0 : Nat) (x1 : Int32) : Option (zM) := zgd (zm_ck μ 4 x0) <|
  zc1 (if x1 < 16 then (
  if x1 < 14 then (
  if x1 < 9 then (
  zb1 (fX4_takeOfValley μ x0 x1) fun m4 =>
  some m4)
  else (
  zb1 (zm_gR μ 4 x0 1) fun v5 =>
  zb1 (zm_gR μ 4 x0 11) fun v7 =>
  zb1 (zm_aI μ 0 v7 0) fun v9 =>
  zb1 (if x1 = 13 then (
  some (-1))
  else (
  zb1 (zm_gR μ 4 x0 11) fun v15 =>
  zb1 (zm_aI μ 0 v15 1) fun v17 =>
  some v17) : Option (Int32)) fun (s11 : Int32) =>
  zb1 (fX2_add μ v5 (x1 - 9) v9 s11) fun m14 =>
  some m14))
  else (
  zb1 (fX4_takeOfLesson μ x0 x1) fun m20 =>
  some m20))
  else (
  zb1 (zm_gR μ 4 x0 3) fun v21 =>
  zb1 (zm_gR μ 4 x0 11) fun v23 =>
  zb1 (zm_aI μ 0 v23 0) fun v25 =>
  zb1 (zm_gR μ 4 x0 11) fun v27 =>
  zb1 (zm_aI μ 0 v27 1) fun v29 =>
  zb1 (zm_gR μ 4 x0 11) fun v31 =>
  zb1 (zm_aI μ 0 v31 2) fun v33 =>
  zb1 (fX6_add μ v21 (x1 - 16) v25 v29 v33) fun m36 =>
  some m36) : Option (zM)) fun (m1 : zM) =>
  some m1
theorem fX4_take_ck {μ : zM} {x0 : Nat} {x1 : Int32} {z : zM} (h : fX4_take μ x0 x1 = some z) : zm_ck μ 4 x0 = true := (zgd_s h).1
set_option maxHeartbeats 4000000 in
set_option maxRecDepth 100000 in
theorem cX4_take_ok {μ : zM} {x0 : Nat} {x1 : Int32} {mo : zM} (hf : fX4_take μ x0 x1 = some mo) : zC yX4_take cX4_take 2 (none) 2 0 0 [.ref x0, .int x1] μ (none) mo := by
  replace hf := (zgd_s hf).2
  refine zC.of (by decide) (Nat.le_of_ble_eq_true rfl) (fun K hin => ?_)
  clear hin
  show zz K cX4_take (2, RX4, none, 2, 0, 0, none, mo) 0 0 0 [(0, .ref x0), (1, .int x1)] [] μ
  refine zr_iload_n 1 dX4_take_0 rfl ?_
  refine zr_bipush 16 dX4_take_1 (by decide) ?_
  replace hf := zc1_s hf
  obtain ⟨m1, hg, hf⟩ := hf
  have hj2 : zz K cX4_take (2, RX4, none, 2, 0, 0, none, mo) 0 0 99 [] [] m1 := by
    cases hf
    exact zr_vret dX4_take_99
  clear hf
  have hf := hg
  clear hg
  refine zr_icmp_lt 38 dX4_take_3 (by decide) (fun hc => ?_) (fun hc => ?_)
  · rw [if_pos hc] at hf
    refine zr_iload_n 1 dX4_take_38 rfl ?_
    refine zr_bipush 14 dX4_take_39 (by decide) ?_
    refine zr_icmp_lt 52 dX4_take_41 (by decide) (fun hc => ?_) (fun hc => ?_)
    · rw [if_pos hc] at hf
      refine zr_iload_n 1 dX4_take_52 rfl ?_
      refine zr_bipush 9 dX4_take_53 (by decide) ?_
      refine zr_icmp_lt 94 dX4_take_55 (by decide) (fun hc => ?_) (fun hc => ?_)
      · rw [if_pos hc] at hf
        refine zr_aload_n 0 dX4_take_94 rfl ?_
        refine zr_iload_n 1 dX4_take_95 rfl ?_
        replace hf := zb1_s hf
        obtain ⟨m4, h3, hf⟩ := hf
        refine zr_callV (ci := 4) [.int x1] (cX4_takeOfValley_ok h3) zvs_X4_takeOfValley zl_390 zl_391 (fX4_takeOfValley_ck h3) rfl rfl zl_389 rfl (Nat.le_of_ble_eq_true rfl) (Nat.le_of_ble_eq_true rfl) (Nat.le_of_ble_eq_true rfl) (Nat.le_of_ble_eq_true rfl) dX4_take_96 rfl ?_
        cases hf
        exact zr_lv [] rfl hj2
      · rw [if_neg hc] at hf
        refine zr_aload_n 0 dX4_take_58 rfl ?_
        replace hf := zb1_s hf
        obtain ⟨v5, h6, hf⟩ := hf
        refine zr_get (zm_gR_g h6) zk4 (by decide) zl_253 dX4_take_59 ?_
        refine zr_iload_n 1 dX4_take_62 rfl ?_
        refine zr_bipush 9 dX4_take_63 (by decide) ?_
        refine zr_isub dX4_take_65 ?_
        refine zr_aload_n 0 dX4_take_66 rfl ?_
        replace hf := zb1_s hf
        obtain ⟨v7, h8, hf⟩ := hf
        refine zr_get (zm_gR_g h8) zk4 (by decide) zl_273 dX4_take_67 ?_
        refine zr_iconst 0 dX4_take_70 (by decide) ?_
        replace hf := zb1_s hf
        obtain ⟨v9, h10, hf⟩ := hf
        refine zr_iald h10 dX4_take_71 ?_
        refine zr_iload_n 1 dX4_take_72 rfl ?_
        refine zr_bipush 13 dX4_take_73 (by decide) ?_
        replace hf := zb1_s hf
        obtain ⟨s11, hg, hf⟩ := hf
        have hj12 : zz K cX4_take (2, RX4, none, 2, 0, 0, none, mo) 0 0 88 [] [.int s11, .int v9, .int (x1 - 9), .ref v5] μ := by
          replace hf := zb1_s hf
          obtain ⟨m14, h13, hf⟩ := hf
          refine zr_callV (ci := 2) [.int (x1 - 9), .int v9, .int s11] (cX2_add_ok h13) zvs_X2_add zl_394 zl_395 (fX2_add_ck h13) rfl rfl zl_393 rfl (Nat.le_of_ble_eq_true rfl) (Nat.le_of_ble_eq_true rfl) (Nat.le_of_ble_eq_true rfl) (Nat.le_of_ble_eq_true rfl) dX4_take_88 rfl ?_
          refine zr_goto 99 dX4_take_91 (by decide) ?_
          cases hf
          exact zr_lv [] rfl hj2
        clear hf
        have hf := hg
        clear hg
        refine zr_icmp_ne 82 dX4_take_75 (by decide) (fun hc => ?_) (fun hc => ?_)
        · rw [if_neg hc] at hf
          refine zr_aload_n 0 dX4_take_82 rfl ?_
          replace hf := zb1_s hf
          obtain ⟨v15, h16, hf⟩ := hf
          refine zr_get (zm_gR_g h16) zk4 (by decide) zl_273 dX4_take_83 ?_
          refine zr_iconst 1 dX4_take_86 (by decide) ?_
          replace hf := zb1_s hf
          obtain ⟨v17, h18, hf⟩ := hf
          refine zr_iald h18 dX4_take_87 ?_
          cases hf
          exact zr_lv [] rfl hj12
        · rw [if_pos hc] at hf
          refine zr_iconst (-1) dX4_take_78 (by decide) ?_
          refine zr_goto 88 dX4_take_79 (by decide) ?_
          cases hf
          exact zr_lv [] rfl hj12
    · rw [if_neg hc] at hf
      refine zr_aload_n 0 dX4_take_44 rfl ?_
      refine zr_iload_n 1 dX4_take_45 rfl ?_
      replace hf := zb1_s hf
      obtain ⟨m20, h19, hf⟩ := hf
      refine zr_callV (ci := 4) [.int x1] (cX4_takeOfLesson_ok h19) zvs_X4_takeOfLesson zl_398 zl_399 (fX4_takeOfLesson_ck h19) rfl rfl zl_397 rfl (Nat.le_of_ble_eq_true rfl) (Nat.le_of_ble_eq_true rfl) (Nat.le_of_ble_eq_true rfl) (Nat.le_of_ble_eq_true rfl) dX4_take_46 rfl ?_
      refine zr_goto 99 dX4_take_49 (by decide) ?_
      cases hf
      exact zr_lv [] rfl hj2
  · rw [if_neg hc] at hf
    refine zr_aload_n 0 dX4_take_6 rfl ?_
    replace hf := zb1_s hf
    obtain ⟨v21, h22, hf⟩ := hf
    refine zr_get (zm_gR_g h22) zk4 (by decide) zl_266 dX4_take_7 ?_
    refine zr_iload_n 1 dX4_take_10 rfl ?_
    refine zr_bipush 16 dX4_take_11 (by decide) ?_
    refine zr_isub dX4_take_13 ?_
    refine zr_aload_n 0 dX4_take_14 rfl ?_
    replace hf := zb1_s hf
    obtain ⟨v23, h24, hf⟩ := hf
    refine zr_get (zm_gR_g h24) zk4 (by decide) zl_273 dX4_take_15 ?_
    refine zr_iconst 0 dX4_take_18 (by decide) ?_
    replace hf := zb1_s hf
    obtain ⟨v25, h26, hf⟩ := hf
    refine zr_iald h26 dX4_take_19 ?_
    refine zr_aload_n 0 dX4_take_20 rfl ?_
    replace hf := zb1_s hf
    obtain ⟨v27, h28, hf⟩ := hf
    refine zr_get (zm_gR_g h28) zk4 (by decide) zl_273 dX4_take_21 ?_
    refine zr_iconst 1 dX4_take_24 (by decide) ?_
    replace hf := zb1_s hf
    obtain ⟨v29, h30, hf⟩ := hf
    refine zr_iald h30 dX4_take_25 ?_
    refine zr_aload_n 0 dX4_take_26 rfl ?_
    replace hf := zb1_s hf
    obtain ⟨v31, h32, hf⟩ := hf
    refine zr_get (zm_gR_g h32) zk4 (by decide) zl_273 dX4_take_27 ?_
    refine zr_iconst 2 dX4_take_30 (by decide) ?_
    replace hf := zb1_s hf
    obtain ⟨v33, h34, hf⟩ := hf
    refine zr_iald h34 dX4_take_31 ?_
    replace hf := zb1_s hf
    obtain ⟨m36, h35, hf⟩ := hf
    refine zr_callV (ci := 6) [.int (x1 - 16), .int v25, .int v29, .int v33] (cX6_add_ok h35) zvs_X6_add zl_402 zl_403 (fX6_add_ck h35) rfl rfl zl_401 rfl (Nat.le_of_ble_eq_true rfl) (Nat.le_of_ble_eq_true rfl) (Nat.le_of_ble_eq_true rfl) (Nat.le_of_ble_eq_true rfl) dX4_take_32 rfl ?_
    refine zr_goto 99 dX4_take_35 (by decide) ?_
    cases hf
    exact zr_lv [] rfl hj2
theorem zl_404 : Cond.code yX4_lineWord cX4_lineWord 3 (some .int) ∈ zt := zt_at 577 (by decide +kernel)
theorem zvs_X4_lineWord : zvS yX4_lineWord cX4_lineWord 3 (some .int) 1 := ⟨zl_404, zl_296, ⟨by decide +kernel, by decide +kernel, by decide +kernel⟩, by decide⟩
theorem zl_405 : Cond.methodLink RX4 99 yX4_lineWord ∈ zt := zt_at 574 (by decide +kernel)
theorem zl_406 : Cond.instanceMethod yX4_lineWord ∈ zt := zt_at 576 (by decide +kernel)
theorem zl_407 : Cond.selects RX4 yX4_lineWord yX4_lineWord ∈ zt := zt_at 3 (by decide +kernel)
theorem zl_408 : Cond.code yX4_advance cX4_advance 2 (none) ∈ zt := zt_at 560 (by decide +kernel)
theorem zvs_X4_advance : zvS yX4_advance cX4_advance 2 (none) 0 := ⟨zl_408, zl_296, ⟨by decide +kernel, by decide +kernel, by decide +kernel⟩, by decide⟩
theorem zl_409 : Cond.methodLink RX4 79 yX4_advance ∈ zt := zt_at 557 (by decide +kernel)
theorem zl_410 : Cond.instanceMethod yX4_advance ∈ zt := zt_at 559 (by decide +kernel)
theorem zl_411 : Cond.selects RX4 yX4_advance yX4_advance ∈ zt := zt_at 1 (by decide +kernel)
theorem zl_412 : Cond.code yX4_check cX4_check 4 (none) ∈ zt := zt_at 666 (by decide +kernel)
theorem zvs_X4_check : zvS yX4_check cX4_check 4 (none) 2 := ⟨zl_412, zl_296, ⟨by decide +kernel, by decide +kernel, by decide +kernel⟩, by decide⟩
theorem zl_413 : Cond.methodLink RX4 113 yX4_check ∈ zt := zt_at 663 (by decide +kernel)
theorem zl_414 : Cond.instanceMethod yX4_check ∈ zt := zt_at 665 (by decide +kernel)
theorem zl_415 : Cond.selects RX4 yX4_check yX4_check ∈ zt := zt_at 7 (by decide +kernel)
theorem zl_416 : Cond.code yX4_take cX4_take 2 (none) ∈ zt := zt_at 684 (by decide +kernel)
theorem zvs_X4_take : zvS yX4_take cX4_take 2 (none) 1 := ⟨zl_416, zl_296, ⟨by decide +kernel, by decide +kernel, by decide +kernel⟩, by decide⟩
theorem zl_417 : Cond.methodLink RX4 116 yX4_take ∈ zt := zt_at 681 (by decide +kernel)
theorem zl_418 : Cond.instanceMethod yX4_take ∈ zt := zt_at 683 (by decide +kernel)
theorem zl_419 : Cond.selects RX4 yX4_take yX4_take ∈ zt := zt_at 11 (by decide +kernel)
theorem zl_420 : Cond.code yX4_breakOff cX4_breakOff 1 (none) ∈ zt := zt_at 656 (by decide +kernel)
theorem zvs_X4_breakOff : zvS yX4_breakOff cX4_breakOff 1 (none) 0 := ⟨zl_420, zl_296, ⟨by decide +kernel, by decide +kernel, by decide +kernel⟩, by decide⟩
theorem zl_421 : Cond.methodLink RX4 103 yX4_breakOff ∈ zt := zt_at 653 (by decide +kernel)
theorem zl_422 : Cond.instanceMethod yX4_breakOff ∈ zt := zt_at 655 (by decide +kernel)
theorem zl_423 : Cond.selects RX4 yX4_breakOff yX4_breakOff ∈ zt := zt_at 5 (by decide +kernel)
theorem zl_424 : Cond.code yX4_tokenNumber cX4_tokenNumber 3 (some .int) ∈ zt := zt_at 662 (by decide +kernel)
theorem zvs_X4_tokenNumber : zvS yX4_tokenNumber cX4_tokenNumber 3 (some .int) 0 := ⟨zl_424, zl_296, ⟨by decide +kernel, by decide +kernel, by decide +kernel⟩, by decide⟩
theorem zl_425 : Cond.methodLink RX4 109 yX4_tokenNumber ∈ zt := zt_at 659 (by decide +kernel)
theorem zl_426 : Cond.instanceMethod yX4_tokenNumber ∈ zt := zt_at 661 (by decide +kernel)
theorem zl_427 : Cond.selects RX4 yX4_tokenNumber yX4_tokenNumber ∈ zt := zt_at 6 (by decide +kernel)
theorem dX4_readLine_0 : decode cX4_readLine 0 = .ok (.aload_n 0, 1) := by decide +kernel
theorem dX4_readLine_1 : decode cX4_readLine 1 = .ok (.getfield 52, 3) := by decide +kernel
theorem dX4_readLine_4 : decode cX4_readLine 4 = .ok (.istore_n 2, 1) := by decide +kernel
theorem dX4_readLine_5 : decode cX4_readLine 5 = .ok (.aload_n 0, 1) := by decide +kernel
theorem dX4_readLine_6 : decode cX4_readLine 6 = .ok (.iload_n 1, 1) := by decide +kernel
theorem dX4_readLine_7 : decode cX4_readLine 7 = .ok (.invokevirtual 99, 3) := by decide +kernel
theorem dX4_readLine_10 : decode cX4_readLine 10 = .ok (.istore_n 3, 1) := by decide +kernel
theorem dX4_readLine_11 : decode cX4_readLine 11 = .ok (.iload_n 3, 1) := by decide +kernel
theorem dX4_readLine_12 : decode cX4_readLine 12 = .ok (.iconst (-1), 1) := by decide +kernel
theorem dX4_readLine_13 : decode cX4_readLine 13 = .ok (.if_icmp .ne 8, 3) := by decide +kernel
theorem dX4_readLine_16 : decode cX4_readLine 16 = .ok (.aload_n 0, 1) := by decide +kernel
theorem dX4_readLine_17 : decode cX4_readLine 17 = .ok (.invokevirtual 103, 3) := by decide +kernel
theorem dX4_readLine_20 : decode cX4_readLine 20 = .ok (.return_, 1) := by decide +kernel
theorem dX4_readLine_21 : decode cX4_readLine 21 = .ok (.aload_n 0, 1) := by decide +kernel
theorem dX4_readLine_22 : decode cX4_readLine 22 = .ok (.invokevirtual 79, 3) := by decide +kernel
theorem dX4_readLine_25 : decode cX4_readLine 25 = .ok (.iconst 0, 1) := by decide +kernel
theorem dX4_readLine_26 : decode cX4_readLine 26 = .ok (.istore 4, 2) := by decide +kernel
theorem dX4_readLine_28 : decode cX4_readLine 28 = .ok (.iload 4, 2) := by decide +kernel
theorem dX4_readLine_30 : decode cX4_readLine 30 = .ok (.getstatic 106, 3) := by decide +kernel
theorem dX4_readLine_33 : decode cX4_readLine 33 = .ok (.iload_n 3, 1) := by decide +kernel
theorem dX4_readLine_34 : decode cX4_readLine 34 = .ok (.iaload, 1) := by decide +kernel
theorem dX4_readLine_35 : decode cX4_readLine 35 = .ok (.if_icmp .ge 48, 3) := by decide +kernel
theorem dX4_readLine_38 : decode cX4_readLine 38 = .ok (.aload_n 0, 1) := by decide +kernel
theorem dX4_readLine_39 : decode cX4_readLine 39 = .ok (.getfield 49, 3) := by decide +kernel
theorem dX4_readLine_42 : decode cX4_readLine 42 = .ok (.iconst 2, 1) := by decide +kernel
theorem dX4_readLine_43 : decode cX4_readLine 43 = .ok (.if_icmp .eq 8, 3) := by decide +kernel
theorem dX4_readLine_46 : decode cX4_readLine 46 = .ok (.aload_n 0, 1) := by decide +kernel
theorem dX4_readLine_47 : decode cX4_readLine 47 = .ok (.invokevirtual 103, 3) := by decide +kernel
theorem dX4_readLine_50 : decode cX4_readLine 50 = .ok (.return_, 1) := by decide +kernel
theorem dX4_readLine_51 : decode cX4_readLine 51 = .ok (.aload_n 0, 1) := by decide +kernel
theorem dX4_readLine_52 : decode cX4_readLine 52 = .ok (.getfield 58, 3) := by decide +kernel
theorem dX4_readLine_55 : decode cX4_readLine 55 = .ok (.iload 4, 2) := by decide +kernel
theorem dX4_readLine_57 : decode cX4_readLine 57 = .ok (.aload_n 0, 1) := by decide +kernel
theorem dX4_readLine_58 : decode cX4_readLine 58 = .ok (.invokevirtual 109, 3) := by decide +kernel
theorem dX4_readLine_61 : decode cX4_readLine 61 = .ok (.iastore, 1) := by decide +kernel
theorem dX4_readLine_62 : decode cX4_readLine 62 = .ok (.aload_n 0, 1) := by decide +kernel
theorem dX4_readLine_63 : decode cX4_readLine 63 = .ok (.getfield 62, 3) := by decide +kernel
theorem dX4_readLine_66 : decode cX4_readLine 66 = .ok (.iload 4, 2) := by decide +kernel
theorem dX4_readLine_68 : decode cX4_readLine 68 = .ok (.aload_n 0, 1) := by decide +kernel
theorem dX4_readLine_69 : decode cX4_readLine 69 = .ok (.getfield 52, 3) := by decide +kernel
theorem dX4_readLine_72 : decode cX4_readLine 72 = .ok (.iastore, 1) := by decide +kernel
theorem dX4_readLine_73 : decode cX4_readLine 73 = .ok (.aload_n 0, 1) := by decide +kernel
theorem dX4_readLine_74 : decode cX4_readLine 74 = .ok (.invokevirtual 79, 3) := by decide +kernel
theorem dX4_readLine_77 : decode cX4_readLine 77 = .ok (.iinc 4 1, 3) := by decide +kernel
theorem dX4_readLine_80 : decode cX4_readLine 80 = .ok (.goto (-52), 3) := by decide +kernel
theorem dX4_readLine_83 : decode cX4_readLine 83 = .ok (.aload_n 0, 1) := by decide +kernel
theorem dX4_readLine_84 : decode cX4_readLine 84 = .ok (.getfield 49, 3) := by decide +kernel
theorem dX4_readLine_87 : decode cX4_readLine 87 = .ok (.iconst 3, 1) := by decide +kernel
theorem dX4_readLine_88 : decode cX4_readLine 88 = .ok (.if_icmp .eq 8, 3) := by decide +kernel
theorem dX4_readLine_91 : decode cX4_readLine 91 = .ok (.aload_n 0, 1) := by decide +kernel
theorem dX4_readLine_92 : decode cX4_readLine 92 = .ok (.invokevirtual 103, 3) := by decide +kernel
theorem dX4_readLine_95 : decode cX4_readLine 95 = .ok (.return_, 1) := by decide +kernel
theorem dX4_readLine_96 : decode cX4_readLine 96 = .ok (.aload_n 0, 1) := by decide +kernel
theorem dX4_readLine_97 : decode cX4_readLine 97 = .ok (.invokevirtual 79, 3) := by decide +kernel
theorem dX4_readLine_100 : decode cX4_readLine 100 = .ok (.aload_n 0, 1) := by decide +kernel
theorem dX4_readLine_101 : decode cX4_readLine 101 = .ok (.iload_n 3, 1) := by decide +kernel
theorem dX4_readLine_102 : decode cX4_readLine 102 = .ok (.iload_n 2, 1) := by decide +kernel
theorem dX4_readLine_103 : decode cX4_readLine 103 = .ok (.invokevirtual 113, 3) := by decide +kernel
theorem dX4_readLine_106 : decode cX4_readLine 106 = .ok (.aload_n 0, 1) := by decide +kernel
theorem dX4_readLine_107 : decode cX4_readLine 107 = .ok (.getfield 39, 3) := by decide +kernel
theorem dX4_readLine_110 : decode cX4_readLine 110 = .ok (.ifCond .ne 8, 3) := by decide +kernel
theorem dX4_readLine_113 : decode cX4_readLine 113 = .ok (.aload_n 0, 1) := by decide +kernel
theorem dX4_readLine_114 : decode cX4_readLine 114 = .ok (.iload_n 3, 1) := by decide +kernel
theorem dX4_readLine_115 : decode cX4_readLine 115 = .ok (.invokevirtual 116, 3) := by decide +kernel
theorem dX4_readLine_118 : decode cX4_readLine 118 = .ok (.return_, 1) := by decide +kernel
noncomputable def fX4_readLine_l28 (v4 : Int32) (x0 : Nat) (v1 : Int32) (F9 : Int32 → zM → Option (zM)) (x4_7 : Int32) (m8 : zM) : Option (zM) :=
  zb1 (zm_aI m8 0 (m8.2.2 4) v4) fun v11 =>
  if v11 ≤ x4_7 then (
  zb1 (zm_gI m8 4 x0 8) fun v13 =>
  if v13 = 3 then (
  zb1 (fX4_advance m8 x0) fun m16 =>
  zb1 (fX4_check m16 x0 v4 v1) fun m18 =>
  zb1 (zm_gI m18 4 x0 4) fun v19 =>
  zc1 (if v19 = 0 then (
  zb1 (fX4_take m18 x0 v4) fun m24 =>
  some m24)
  else (
  some m18) : Option (zM)) fun (m21 : zM) =>
  some m21)
  else (
  zb1 (fX4_breakOff m8 x0) fun m26 =>
  some m26))
  else (
  zb1 (zm_gI m8 4 x0 8) fun v27 =>
  if v27 = 2 then (
  zb1 (zm_gR m8 4 x0 11) fun v29 =>
  zb1 (fX4_tokenNumber m8 x0) fun v32 =>
  zb1 (zm_sI m8 0 v29 x4_7 v32) fun m33 =>
  zb1 (zm_gR m33 4 x0 12) fun v35 =>
  zb1 (zm_gI m33 4 x0 9) fun v37 =>
  zb1 (zm_sI m33 0 v35 x4_7 v37) fun m39 =>
  zb1 (fX4_advance m39 x0) fun m42 =>
  F9 (x4_7 + 1) m42)
  else (
  zb1 (fX4_breakOff m8 x0) fun m44 =>
  some m44))
noncomputable def fX4_readLine (μ : zM) (x0 : Nat) (x1 : Int32) : Option (zM) := zgd (zm_ck μ 4 x0) <|
  zb1 (zm_gI μ 4 x0 9) fun v1 =>
  zb1 (fX4_lineWord μ x0 x1) fun v4 =>
  if v4 = (-1) then (
  zb1 (fX4_breakOff μ x0) fun m47 =>
  some m47)
  else (
  zb1 (fX4_advance μ x0) fun m6 =>
  zf2 (fX4_readLine_l28 v4 x0 v1) zfu 0 m6)
theorem fX4_readLine_ck {μ : zM} {x0 : Nat} {x1 : Int32} {z : zM} (h : fX4_readLine μ x0 x1 = some z) : zm_ck μ 4 x0 = true := (zgd_s h).1
set_option maxHeartbeats 4000000 in
set_option maxRecDepth 100000 in
theorem cX4_readLine_ok {μ : zM} {x0 : Nat} {x1 : Int32} {mo : zM} (hf : fX4_readLine μ x0 x1 = some mo) : zC yX4_readLine cX4_readLine 5 (none) 6 0 0 [.ref x0, .int x1] μ (none) mo := by
  replace hf := (zgd_s hf).2
  refine zC.of (by decide) (Nat.le_of_ble_eq_true rfl) (fun K hin => ?_)
  clear hin
  show zz K cX4_readLine (5, RX4, none, 6, 0, 0, none, mo) 0 0 0 [(0, .ref x0), (1, .int x1)] [] μ
  refine zr_aload_n 0 dX4_readLine_0 rfl ?_
  replace hf := zb1_s hf
  obtain ⟨v1, h2, hf⟩ := hf
  refine zr_get (zm_gI_g h2) zk4 (by decide) zl_271 dX4_readLine_1 ?_
  refine zr_istore_n [(2, .int v1), (0, .ref x0), (1, .int x1)] dX4_readLine_4 (Nat.le_of_ble_eq_true rfl) rfl ?_
  refine zr_aload_n 1 dX4_readLine_5 rfl ?_
  refine zr_iload_n 2 dX4_readLine_6 rfl ?_
  replace hf := zb1_s hf
  obtain ⟨v4, h3, hf⟩ := hf
  refine zr_callV (ci := 4) [.int x1] (cX4_lineWord_ok h3) zvs_X4_lineWord zl_406 zl_407 (fX4_lineWord_ck h3) rfl rfl zl_405 rfl (Nat.le_of_ble_eq_true rfl) (Nat.le_of_ble_eq_true rfl) (Nat.le_of_ble_eq_true rfl) (Nat.le_of_ble_eq_true rfl) dX4_readLine_7 rfl ?_
  refine zr_istore_n [(3, .int v4), (2, .int v1), (0, .ref x0), (1, .int x1)] dX4_readLine_10 (Nat.le_of_ble_eq_true rfl) rfl ?_
  refine zr_iload_n 0 dX4_readLine_11 rfl ?_
  refine zr_iconst (-1) dX4_readLine_12 (by decide) ?_
  refine zr_icmp_ne 21 dX4_readLine_13 (by decide) (fun hc => ?_) (fun hc => ?_)
  · rw [if_neg hc] at hf
    refine zr_aload_n 2 dX4_readLine_21 rfl ?_
    replace hf := zb1_s hf
    obtain ⟨m6, h5, hf⟩ := hf
    refine zr_callV (ci := 4) [] (cX4_advance_ok h5) zvs_X4_advance zl_410 zl_411 (fX4_advance_ck h5) rfl rfl zl_409 rfl (Nat.le_of_ble_eq_true rfl) (Nat.le_of_ble_eq_true rfl) (Nat.le_of_ble_eq_true rfl) (Nat.le_of_ble_eq_true rfl) dX4_readLine_22 rfl ?_
    refine zr_iconst 0 dX4_readLine_25 (by decide) ?_
    refine zr_istore [(4, .int 0), (3, .int v4), (2, .int v1), (0, .ref x0), (1, .int x1)] dX4_readLine_26 (Nat.le_of_ble_eq_true rfl) rfl ?_
    have hL45 : ∀ (n : Nat) (x4_7 : Int32) (m8 : zM), zf2 (fX4_readLine_l28 v4 x0 v1) n x4_7 m8 = some mo → zz K cX4_readLine (5, RX4, none, 6, 0, 0, none, mo) 0 0 28 [(0, .ref x0), (2, .int v1), (3, .int v4), (4, .int x4_7)] [] m8 := by
      intro n
      induction n with
      | zero => intro x4_7 m8 hf; cases hf
      | succ n ih10 =>
        intro x4_7 m8 hf
        replace hf := zf2_s hf
        generalize zf2 (fX4_readLine_l28 v4 x0 v1) n = F9 at hf ih10
        unfold fX4_readLine_l28 at hf
        refine zr_iload 3 dX4_readLine_28 rfl ?_
        refine zr_gets (k := 4) (by decide) zl_354 dX4_readLine_30 ?_
        refine zr_iload_n 2 dX4_readLine_33 rfl ?_
        replace hf := zb1_s hf
        obtain ⟨v11, h12, hf⟩ := hf
        refine zr_iald h12 dX4_readLine_34 ?_
        refine zr_icmp_ge 83 dX4_readLine_35 (by decide) (fun hc => ?_) (fun hc => ?_)
        · rw [if_pos hc] at hf
          refine zr_aload_n 0 dX4_readLine_83 rfl ?_
          replace hf := zb1_s hf
          obtain ⟨v13, h14, hf⟩ := hf
          refine zr_get (zm_gI_g h14) zk4 (by decide) zl_270 dX4_readLine_84 ?_
          refine zr_iconst 3 dX4_readLine_87 (by decide) ?_
          refine zr_icmp_eq 96 dX4_readLine_88 (by decide) (fun hc => ?_) (fun hc => ?_)
          · rw [if_pos hc] at hf
            refine zr_aload_n 0 dX4_readLine_96 rfl ?_
            replace hf := zb1_s hf
            obtain ⟨m16, h15, hf⟩ := hf
            refine zr_callV (ci := 4) [] (cX4_advance_ok h15) zvs_X4_advance zl_410 zl_411 (fX4_advance_ck h15) rfl rfl zl_409 rfl (Nat.le_of_ble_eq_true rfl) (Nat.le_of_ble_eq_true rfl) (Nat.le_of_ble_eq_true rfl) (Nat.le_of_ble_eq_true rfl) dX4_readLine_97 rfl ?_
            refine zr_aload_n 0 dX4_readLine_100 rfl ?_
            refine zr_iload_n 2 dX4_readLine_101 rfl ?_
            refine zr_iload_n 1 dX4_readLine_102 rfl ?_
            replace hf := zb1_s hf
            obtain ⟨m18, h17, hf⟩ := hf
            refine zr_callV (ci := 4) [.int v4, .int v1] (cX4_check_ok h17) zvs_X4_check zl_414 zl_415 (fX4_check_ck h17) rfl rfl zl_413 rfl (Nat.le_of_ble_eq_true rfl) (Nat.le_of_ble_eq_true rfl) (Nat.le_of_ble_eq_true rfl) (Nat.le_of_ble_eq_true rfl) dX4_readLine_103 rfl ?_
            refine zr_aload_n 0 dX4_readLine_106 rfl ?_
            replace hf := zb1_s hf
            obtain ⟨v19, h20, hf⟩ := hf
            refine zr_get (zm_gI_g h20) zk4 (by decide) zl_267 dX4_readLine_107 ?_
            replace hf := zc1_s hf
            obtain ⟨m21, hg, hf⟩ := hf
            have hj22 : zz K cX4_readLine (5, RX4, none, 6, 0, 0, none, mo) 0 0 118 [] [] m21 := by
              cases hf
              exact zr_vret dX4_readLine_118
            clear hf
            have hf := hg
            clear hg
            refine zr_if_ne 118 dX4_readLine_110 (by decide) (fun hc => ?_) (fun hc => ?_)
            · rw [if_neg hc] at hf
              cases hf
              exact zr_lv [] rfl hj22
            · rw [if_pos hc] at hf
              refine zr_aload_n 0 dX4_readLine_113 rfl ?_
              refine zr_iload_n 2 dX4_readLine_114 rfl ?_
              replace hf := zb1_s hf
              obtain ⟨m24, h23, hf⟩ := hf
              refine zr_callV (ci := 4) [.int v4] (cX4_take_ok h23) zvs_X4_take zl_418 zl_419 (fX4_take_ck h23) rfl rfl zl_417 rfl (Nat.le_of_ble_eq_true rfl) (Nat.le_of_ble_eq_true rfl) (Nat.le_of_ble_eq_true rfl) (Nat.le_of_ble_eq_true rfl) dX4_readLine_115 rfl ?_
              cases hf
              exact zr_lv [] rfl hj22
          · rw [if_neg hc] at hf
            refine zr_aload_n 0 dX4_readLine_91 rfl ?_
            replace hf := zb1_s hf
            obtain ⟨m26, h25, hf⟩ := hf
            refine zr_callV (ci := 4) [] (cX4_breakOff_ok h25) zvs_X4_breakOff zl_422 zl_423 (fX4_breakOff_ck h25) rfl rfl zl_421 rfl (Nat.le_of_ble_eq_true rfl) (Nat.le_of_ble_eq_true rfl) (Nat.le_of_ble_eq_true rfl) (Nat.le_of_ble_eq_true rfl) dX4_readLine_92 rfl ?_
            cases hf
            exact zr_vret dX4_readLine_95
        · rw [if_neg hc] at hf
          refine zr_aload_n 0 dX4_readLine_38 rfl ?_
          replace hf := zb1_s hf
          obtain ⟨v27, h28, hf⟩ := hf
          refine zr_get (zm_gI_g h28) zk4 (by decide) zl_270 dX4_readLine_39 ?_
          refine zr_iconst 2 dX4_readLine_42 (by decide) ?_
          refine zr_icmp_eq 51 dX4_readLine_43 (by decide) (fun hc => ?_) (fun hc => ?_)
          · rw [if_pos hc] at hf
            refine zr_aload_n 0 dX4_readLine_51 rfl ?_
            replace hf := zb1_s hf
            obtain ⟨v29, h30, hf⟩ := hf
            refine zr_get (zm_gR_g h30) zk4 (by decide) zl_273 dX4_readLine_52 ?_
            refine zr_iload 3 dX4_readLine_55 rfl ?_
            refine zr_aload_n 0 dX4_readLine_57 rfl ?_
            replace hf := zb1_s hf
            obtain ⟨v32, h31, hf⟩ := hf
            refine zr_callV (ci := 4) [] (cX4_tokenNumber_ok h31) zvs_X4_tokenNumber zl_426 zl_427 (fX4_tokenNumber_ck h31) rfl rfl zl_425 rfl (Nat.le_of_ble_eq_true rfl) (Nat.le_of_ble_eq_true rfl) (Nat.le_of_ble_eq_true rfl) (Nat.le_of_ble_eq_true rfl) dX4_readLine_58 rfl ?_
            replace hf := zb1_s hf
            obtain ⟨m33, h34, hf⟩ := hf
            refine zr_iast h34 dX4_readLine_61 ?_
            refine zr_aload_n 0 dX4_readLine_62 rfl ?_
            replace hf := zb1_s hf
            obtain ⟨v35, h36, hf⟩ := hf
            refine zr_get (zm_gR_g h36) zk4 (by decide) zl_274 dX4_readLine_63 ?_
            refine zr_iload 3 dX4_readLine_66 rfl ?_
            refine zr_aload_n 0 dX4_readLine_68 rfl ?_
            replace hf := zb1_s hf
            obtain ⟨v37, h38, hf⟩ := hf
            refine zr_get (zm_gI_g h38) zk4 (by decide) zl_271 dX4_readLine_69 ?_
            replace hf := zb1_s hf
            obtain ⟨m39, h40, hf⟩ := hf
            refine zr_iast h40 dX4_readLine_72 ?_
            refine zr_aload_n 0 dX4_readLine_73 rfl ?_
            replace hf := zb1_s hf
            obtain ⟨m42, h41, hf⟩ := hf
            refine zr_callV (ci := 4) [] (cX4_advance_ok h41) zvs_X4_advance zl_410 zl_411 (fX4_advance_ck h41) rfl rfl zl_409 rfl (Nat.le_of_ble_eq_true rfl) (Nat.le_of_ble_eq_true rfl) (Nat.le_of_ble_eq_true rfl) (Nat.le_of_ble_eq_true rfl) dX4_readLine_74 rfl ?_
            refine zr_iinc (j := 3) (x4_7 + 1) [(4, .int (x4_7 + 1)), (0, .ref x0), (2, .int v1), (3, .int v4)] dX4_readLine_77 rfl rfl (Nat.le_of_ble_eq_true rfl) rfl ?_
            refine zr_goto 28 dX4_readLine_80 (by decide) ?_
            exact zr_lv [1, 2, 3, 0] rfl (ih10 (x4_7 + 1) m42 hf)
          · rw [if_neg hc] at hf
            refine zr_aload_n 0 dX4_readLine_46 rfl ?_
            replace hf := zb1_s hf
            obtain ⟨m44, h43, hf⟩ := hf
            refine zr_callV (ci := 4) [] (cX4_breakOff_ok h43) zvs_X4_breakOff zl_422 zl_423 (fX4_breakOff_ck h43) rfl rfl zl_421 rfl (Nat.le_of_ble_eq_true rfl) (Nat.le_of_ble_eq_true rfl) (Nat.le_of_ble_eq_true rfl) (Nat.le_of_ble_eq_true rfl) dX4_readLine_47 rfl ?_
            cases hf
            exact zr_vret dX4_readLine_50
    exact zr_lv [3, 2, 1, 0] rfl (hL45 _ 0 m6 hf)
  · rw [if_pos hc] at hf
    refine zr_aload_n 2 dX4_readLine_16 rfl ?_
    replace hf := zb1_s hf
    obtain ⟨m47, h46, hf⟩ := hf
    refine zr_callV (ci := 4) [] (cX4_breakOff_ok h46) zvs_X4_breakOff zl_422 zl_423 (fX4_breakOff_ck h46) rfl rfl zl_421 rfl (Nat.le_of_ble_eq_true rfl) (Nat.le_of_ble_eq_true rfl) (Nat.le_of_ble_eq_true rfl) (Nat.le_of_ble_eq_true rfl) dX4_readLine_17 rfl ?_
    cases hf
    exact zr_vret dX4_readLine_20
theorem zl_428 : Cond.methodLink RX9 68 yX9_hasPlace ∈ zt := zt_at 724 (by decide +kernel)
theorem dX9_holdsItsPeople_0 : decode cX9_holdsItsPeople 0 = .ok (.iconst 0, 1) := by decide +kernel
theorem dX9_holdsItsPeople_1 : decode cX9_holdsItsPeople 1 = .ok (.istore_n 1, 1) := by decide +kernel
theorem dX9_holdsItsPeople_2 : decode cX9_holdsItsPeople 2 = .ok (.iload_n 1, 1) := by decide +kernel
theorem dX9_holdsItsPeople_3 : decode cX9_holdsItsPeople 3 = .ok (.aload_n 0, 1) := by decide +kernel
theorem dX9_holdsItsPeople_4 : decode cX9_holdsItsPeople 4 = .ok (.getfield 46, 3) := by decide +kernel
theorem dX9_holdsItsPeople_7 : decode cX9_holdsItsPeople 7 = .ok (.if_icmp .ge 24, 3) := by decide +kernel
theorem dX9_holdsItsPeople_10 : decode cX9_holdsItsPeople 10 = .ok (.aload_n 0, 1) := by decide +kernel
theorem dX9_holdsItsPeople_11 : decode cX9_holdsItsPeople 11 = .ok (.aload_n 0, 1) := by decide +kernel
theorem dX9_holdsItsPeople_12 : decode cX9_holdsItsPeople 12 = .ok (.getfield 24, 3) := by decide +kernel
theorem dX9_holdsItsPeople_15 : decode cX9_holdsItsPeople 15 = .ok (.iload_n 1, 1) := by decide +kernel
theorem dX9_holdsItsPeople_16 : decode cX9_holdsItsPeople 16 = .ok (.iaload, 1) := by decide +kernel
theorem dX9_holdsItsPeople_17 : decode cX9_holdsItsPeople 17 = .ok (.invokevirtual 68, 3) := by decide +kernel
theorem dX9_holdsItsPeople_20 : decode cX9_holdsItsPeople 20 = .ok (.ifCond .ne 5, 3) := by decide +kernel
theorem dX9_holdsItsPeople_23 : decode cX9_holdsItsPeople 23 = .ok (.iconst 0, 1) := by decide +kernel
theorem dX9_holdsItsPeople_24 : decode cX9_holdsItsPeople 24 = .ok (.ireturn, 1) := by decide +kernel
theorem dX9_holdsItsPeople_25 : decode cX9_holdsItsPeople 25 = .ok (.iinc 1 1, 3) := by decide +kernel
theorem dX9_holdsItsPeople_28 : decode cX9_holdsItsPeople 28 = .ok (.goto (-26), 3) := by decide +kernel
theorem dX9_holdsItsPeople_31 : decode cX9_holdsItsPeople 31 = .ok (.iconst 1, 1) := by decide +kernel
theorem dX9_holdsItsPeople_32 : decode cX9_holdsItsPeople 32 = .ok (.ireturn, 1) := by decide +kernel
noncomputable def fX9_holdsItsPeople_l2 (μ : zM) (x0 : Nat) (F2 : Int32 → Option (Int32)) (x1_1 : Int32) : Option (Int32) :=
  zb1 (zm_gI μ 9 x0 4) fun v4 =>
  if v4 ≤ x1_1 then (
  some 1)
  else (
  zb1 (zm_gR μ 9 x0 6) fun v6 =>
  zb1 (zm_aI μ 0 v6 x1_1) fun v8 =>
  zb1 (fX9_hasPlace μ x0 v8) fun v11 =>
  if v11 = 0 then (
  some 0)
  else (
  F2 (x1_1 + 1)))
noncomputable def fX9_holdsItsPeople (μ : zM) (x0 : Nat) : Option (Int32) := zgd (zm_ck μ 9 x0) <|
  zf1 (fX9_holdsItsPeople_l2 μ x0) zfu 0
theorem fX9_holdsItsPeople_ck {μ : zM} {x0 : Nat} {z : Int32} (h : fX9_holdsItsPeople μ x0 = some z) : zm_ck μ 9 x0 = true := (zgd_s h).1
set_option maxHeartbeats 4000000 in
set_option maxRecDepth 100000 in
theorem cX9_holdsItsPeople_ok {μ : zM} {x0 : Nat} {r : Int32} (hf : fX9_holdsItsPeople μ x0 = some r) : zC yX9_holdsItsPeople cX9_holdsItsPeople 2 (some .boolean) 1 0 0 [.ref x0] μ (some (.int r)) μ := by
  replace hf := (zgd_s hf).2
  refine zC.of (by decide) (Nat.le_of_ble_eq_true rfl) (fun K hin => ?_)
  clear hin
  show zz K cX9_holdsItsPeople (2, RX9, some .boolean, 1, 0, 0, some (.int r), μ) 0 0 0 [(0, .ref x0)] [] μ
  refine zr_iconst 0 dX9_holdsItsPeople_0 (by decide) ?_
  refine zr_istore_n [(1, .int 0), (0, .ref x0)] dX9_holdsItsPeople_1 (Nat.le_of_ble_eq_true rfl) rfl ?_
  have hL12 : ∀ (n : Nat) (x1_1 : Int32), zf1 (fX9_holdsItsPeople_l2 μ x0) n x1_1 = some r → zz K cX9_holdsItsPeople (2, RX9, some .boolean, 1, 0, 0, some (.int r), μ) 0 0 2 [(0, .ref x0), (1, .int x1_1)] [] μ := by
    intro n
    induction n with
    | zero => intro x1_1 hf; cases hf
    | succ n ih3 =>
      intro x1_1 hf
      replace hf := zf1_s hf
      generalize zf1 (fX9_holdsItsPeople_l2 μ x0) n = F2 at hf ih3
      unfold fX9_holdsItsPeople_l2 at hf
      refine zr_iload_n 1 dX9_holdsItsPeople_2 rfl ?_
      refine zr_aload_n 0 dX9_holdsItsPeople_3 rfl ?_
      replace hf := zb1_s hf
      obtain ⟨v4, h5, hf⟩ := hf
      refine zr_get (zm_gI_g h5) zk9 (by decide) zl_103 dX9_holdsItsPeople_4 ?_
      refine zr_icmp_ge 31 dX9_holdsItsPeople_7 (by decide) (fun hc => ?_) (fun hc => ?_)
      · rw [if_pos hc] at hf
        refine zr_iconst 1 dX9_holdsItsPeople_31 (by decide) ?_
        cases hf
        exact zr_zret rfl dX9_holdsItsPeople_32
      · rw [if_neg hc] at hf
        refine zr_aload_n 0 dX9_holdsItsPeople_10 rfl ?_
        refine zr_aload_n 0 dX9_holdsItsPeople_11 rfl ?_
        replace hf := zb1_s hf
        obtain ⟨v6, h7, hf⟩ := hf
        refine zr_get (zm_gR_g h7) zk9 (by decide) zl_230 dX9_holdsItsPeople_12 ?_
        refine zr_iload_n 1 dX9_holdsItsPeople_15 rfl ?_
        replace hf := zb1_s hf
        obtain ⟨v8, h9, hf⟩ := hf
        refine zr_iald h9 dX9_holdsItsPeople_16 ?_
        replace hf := zb1_s hf
        obtain ⟨v11, h10, hf⟩ := hf
        refine zr_callV (ci := 9) [.int v8] (cX9_hasPlace_ok h10) zvs_X9_hasPlace zl_106 zl_107 (fX9_hasPlace_ck h10) rfl rfl zl_428 rfl (Nat.le_of_ble_eq_true rfl) (Nat.le_of_ble_eq_true rfl) (Nat.le_of_ble_eq_true rfl) (Nat.le_of_ble_eq_true rfl) dX9_holdsItsPeople_17 rfl ?_
        refine zr_if_ne 25 dX9_holdsItsPeople_20 (by decide) (fun hc => ?_) (fun hc => ?_)
        · rw [if_neg hc] at hf
          refine zr_iinc (j := 1) (x1_1 + 1) [(1, .int (x1_1 + 1)), (0, .ref x0)] dX9_holdsItsPeople_25 rfl rfl (Nat.le_of_ble_eq_true rfl) rfl ?_
          refine zr_goto 2 dX9_holdsItsPeople_28 (by decide) ?_
          exact zr_lv [1, 0] rfl (ih3 (x1_1 + 1) hf)
        · rw [if_pos hc] at hf
          refine zr_iconst 0 dX9_holdsItsPeople_23 (by decide) ?_
          cases hf
          exact zr_zret rfl dX9_holdsItsPeople_24
  exact zr_lv [1, 0] rfl (hL12 _ 0 hf)
