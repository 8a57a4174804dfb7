theorem dX9_tellSky_0 : decode cX9_tellSky 0 = .ok (.iload_n 1, 1) := by decide +kernel
theorem dX9_tellSky_1 : decode cX9_tellSky 1 = .ok (.tableswitch 48 7 9 #[27, 34, 41], 27) := by decide +kernel
theorem dX9_tellSky_28 : decode cX9_tellSky 28 = .ok (.aload_n 0, 1) := by decide +kernel
theorem dX9_tellSky_29 : decode cX9_tellSky 29 = .ok (.getfield 30, 3) := by decide +kernel
theorem dX9_tellSky_32 : decode cX9_tellSky 32 = .ok (.iload_n 2, 1) := by decide +kernel
theorem dX9_tellSky_33 : decode cX9_tellSky 33 = .ok (.iaload, 1) := by decide +kernel
theorem dX9_tellSky_34 : decode cX9_tellSky 34 = .ok (.ireturn, 1) := by decide +kernel
theorem dX9_tellSky_35 : decode cX9_tellSky 35 = .ok (.aload_n 0, 1) := by decide +kernel
theorem dX9_tellSky_36 : decode cX9_tellSky 36 = .ok (.getfield 33, 3) := by decide +kernel
theorem dX9_tellSky_39 : decode cX9_tellSky 39 = .ok (.iload_n 2, 1) := by decide +kernel
theorem dX9_tellSky_40 : decode cX9_tellSky 40 = .ok (.iaload, 1) := by decide +kernel
theorem dX9_tellSky_41 : decode cX9_tellSky 41 = .ok (.ireturn, 1) := by decide +kernel
theorem dX9_tellSky_42 : decode cX9_tellSky 42 = .ok (.aload_n 0, 1) := by decide +kernel
theorem dX9_tellSky_43 : decode cX9_tellSky 43 = .ok (.getfield 36, 3) := by decide +kernel
theorem dX9_tellSky_46 : decode cX9_tellSky 46 = .ok (.iload_n 2, 1) := by decide +kernel
theorem dX9_tellSky_47 : decode cX9_tellSky 47 = .ok (.iaload, 1) := by decide +kernel
theorem dX9_tellSky_48 : decode cX9_tellSky 48 = .ok (.ireturn, 1) := by decide +kernel
theorem dX9_tellSky_49 : decode cX9_tellSky 49 = .ok (.iconst (-1), 1) := by decide +kernel
theorem dX9_tellSky_50 : decode cX9_tellSky 50 = .ok (.ireturn, 1) := by decide +kernel
def fX9_tellSky (μ : zM) (x0 : Nat) (x1 : Int32) (x2 : Int32) : Option (Int32) := zgd (zm_ck μ 9 x0) <|
  if x1 = 7 then (
  zb1 (zm_gR μ 9 x0 9) fun v1 =>
  zb1 (zm_aI μ 0 v1 x2) fun v3 =>
  some v3)
  else (
  if x1 = 8 then (
  zb1 (zm_gR μ 9 x0 10) fun v6 =>
  zb1 (zm_aI μ 0 v6 x2) fun v8 =>
  some v8)
  else (
  if x1 = 9 then (
  zb1 (zm_gR μ 9 x0 11) fun v11 =>
  zb1 (zm_aI μ 0 v11 x2) fun v13 =>
  some v13)
  else (
  some (-1))))
theorem fX9_tellSky_ck {μ : zM} {x0 : Nat} {x1 : Int32} {x2 : Int32} {z : Int32} (h : fX9_tellSky μ x0 x1 x2 = some z) : zm_ck μ 9 x0 = true := (zgd_s h).1
set_option maxHeartbeats 4000000 in
set_option maxRecDepth 100000 in
theorem cX9_tellSky_ok {μ : zM} {x0 : Nat} {x1 : Int32} {x2 : Int32} {r : Int32} (hf : fX9_tellSky μ x0 x1 x2 = some r) : zC yX9_tellSky cX9_tellSky 3 (some .int) 0 0 0 [.ref x0, .int x1, .int x2] μ (some (.int r)) μ := by
  replace hf := (zgd_s hf).2
  refine zC.of (by decide) (Nat.le_of_ble_eq_true rfl) (fun K hin => ?_)
  clear hin
  show zz K cX9_tellSky (3, RX9, some .int, 0, 0, 0, some (.int r), μ) 0 0 0 [(0, .ref x0), (1, .int x1), (2, .int x2)] [] μ
  refine zr_iload_n 1 dX9_tellSky_0 rfl ?_
  rcases zdec (x1 = 7) with hs5 | hs5
  · rw [if_pos hs5] at hf
    refine zr_tableIn (off := 27) 28 dX9_tellSky_1 (by rw [hs5]; decide) (by rw [hs5]; decide) (by rw [hs5]; rfl) (by decide) ?_
    refine zr_aload_n 0 dX9_tellSky_28 rfl ?_
    replace hf := zb1_s hf
    obtain ⟨v1, h2, hf⟩ := hf
    refine zr_get (zm_gR_g h2) zk9 (by decide) zl_232 dX9_tellSky_29 ?_
    refine zr_iload_n 2 dX9_tellSky_32 rfl ?_
    replace hf := zb1_s hf
    obtain ⟨v3, h4, hf⟩ := hf
    refine zr_iald h4 dX9_tellSky_33 ?_
    cases hf
    exact zr_iret dX9_tellSky_34
  rw [if_neg hs5] at hf
  rcases zdec (x1 = 8) with hs10 | hs10
  · rw [if_pos hs10] at hf
    refine zr_tableIn (off := 34) 35 dX9_tellSky_1 (by rw [hs10]; decide) (by rw [hs10]; decide) (by rw [hs10]; rfl) (by decide) ?_
    refine zr_aload_n 0 dX9_tellSky_35 rfl ?_
    replace hf := zb1_s hf
    obtain ⟨v6, h7, hf⟩ := hf
    refine zr_get (zm_gR_g h7) zk9 (by decide) zl_233 dX9_tellSky_36 ?_
    refine zr_iload_n 2 dX9_tellSky_39 rfl ?_
    replace hf := zb1_s hf
    obtain ⟨v8, h9, hf⟩ := hf
    refine zr_iald h9 dX9_tellSky_40 ?_
    cases hf
    exact zr_iret dX9_tellSky_41
  rw [if_neg hs10] at hf
  rcases zdec (x1 = 9) with hs15 | hs15
  · rw [if_pos hs15] at hf
    refine zr_tableIn (off := 41) 42 dX9_tellSky_1 (by rw [hs15]; decide) (by rw [hs15]; decide) (by rw [hs15]; rfl) (by decide) ?_
    refine zr_aload_n 0 dX9_tellSky_42 rfl ?_
    replace hf := zb1_s hf
    obtain ⟨v11, h12, hf⟩ := hf
    refine zr_get (zm_gR_g h12) zk9 (by decide) zl_234 dX9_tellSky_43 ?_
    refine zr_iload_n 2 dX9_tellSky_46 rfl ?_
    replace hf := zb1_s hf
    obtain ⟨v13, h14, hf⟩ := hf
    refine zr_iald h14 dX9_tellSky_47 ?_
    cases hf
    exact zr_iret dX9_tellSky_48
  rw [if_neg hs15] at hf
  refine zr_tableOut 49 dX9_tellSky_1 (by simp only [← Int32.toInt_inj] at hs5 hs10 hs15; simp at hs5 hs10 hs15; omega) (by decide) ?_
  refine zr_iconst (-1) dX9_tellSky_49 (by decide) ?_
  cases hf
  exact zr_iret dX9_tellSky_50
theorem zl_501 : Cond.code yX9_tellSky cX9_tellSky 3 (some .int) ∈ zt := zt_at 789 (by decide +kernel)
theorem zvs_X9_tellSky : zvS yX9_tellSky cX9_tellSky 3 (some .int) 2 := ⟨zl_501, zl_14, ⟨by decide +kernel, by decide +kernel, by decide +kernel⟩, by decide⟩
theorem zl_502 : Cond.methodLink RX9 81 yX9_tellSky ∈ zt := zt_at 786 (by decide +kernel)
theorem zl_503 : Cond.instanceMethod yX9_tellSky ∈ zt := zt_at 788 (by decide +kernel)
theorem zl_504 : Cond.selects RX9 yX9_tellSky yX9_tellSky ∈ zt := zt_at 18 (by decide +kernel)
theorem zl_505 : Cond.code yX9_tellPerson cX9_tellPerson 3 (some .int) ∈ zt := zt_at 785 (by decide +kernel)
theorem zvs_X9_tellPerson : zvS yX9_tellPerson cX9_tellPerson 3 (some .int) 2 := ⟨zl_505, zl_14, ⟨by decide +kernel, by decide +kernel, by decide +kernel⟩, by decide⟩
theorem zl_506 : Cond.methodLink RX9 78 yX9_tellPerson ∈ zt := zt_at 782 (by decide +kernel)
theorem zl_507 : Cond.instanceMethod yX9_tellPerson ∈ zt := zt_at 784 (by decide +kernel)
theorem zl_508 : Cond.selects RX9 yX9_tellPerson yX9_tellPerson ∈ zt := zt_at 17 (by decide +kernel)
theorem zl_509 : Cond.methodLinkNest RX9 71 yX11_isWord "TwoEchoes" ∈ zn := zn_at 773 (by decide +kernel)
theorem zl_510 : Cond.code yX9_tellWord cX9_tellWord 3 (some .int) ∈ zt := zt_at 777 (by decide +kernel)
theorem zvs_X9_tellWord : zvS yX9_tellWord cX9_tellWord 3 (some .int) 2 := ⟨zl_510, zl_14, ⟨by decide +kernel, by decide +kernel, by decide +kernel⟩, by decide⟩
theorem zl_511 : Cond.methodLink RX9 74 yX9_tellWord ∈ zt := zt_at 774 (by decide +kernel)
theorem zl_512 : Cond.instanceMethod yX9_tellWord ∈ zt := zt_at 776 (by decide +kernel)
theorem zl_513 : Cond.selects RX9 yX9_tellWord yX9_tellWord ∈ zt := zt_at 16 (by decide +kernel)
theorem dX9_tell_0 : decode cX9_tell 0 = .ok (.iload_n 1, 1) := by decide +kernel
theorem dX9_tell_1 : decode cX9_tell 1 = .ok (.ifCond .ge 5, 3) := by decide +kernel
theorem dX9_tell_4 : decode cX9_tell 4 = .ok (.iconst (-1), 1) := by decide +kernel
theorem dX9_tell_5 : decode cX9_tell 5 = .ok (.ireturn, 1) := by decide +kernel
theorem dX9_tell_6 : decode cX9_tell 6 = .ok (.iload_n 1, 1) := by decide +kernel
theorem dX9_tell_7 : decode cX9_tell 7 = .ok (.bipush 10, 2) := by decide +kernel
theorem dX9_tell_9 : decode cX9_tell 9 = .ok (.irem, 1) := by decide +kernel
theorem dX9_tell_10 : decode cX9_tell 10 = .ok (.istore_n 2, 1) := by decide +kernel
theorem dX9_tell_11 : decode cX9_tell 11 = .ok (.iload_n 1, 1) := by decide +kernel
theorem dX9_tell_12 : decode cX9_tell 12 = .ok (.bipush 10, 2) := by decide +kernel
theorem dX9_tell_14 : decode cX9_tell 14 = .ok (.if_icmp .ge 40, 3) := by decide +kernel
theorem dX9_tell_17 : decode cX9_tell 17 = .ok (.iload_n 2, 1) := by decide +kernel
theorem dX9_tell_18 : decode cX9_tell 18 = .ok (.ifCond .ne 10, 3) := by decide +kernel
theorem dX9_tell_21 : decode cX9_tell 21 = .ok (.aload_n 0, 1) := by decide +kernel
theorem dX9_tell_22 : decode cX9_tell 22 = .ok (.getfield 42, 3) := by decide +kernel
theorem dX9_tell_25 : decode cX9_tell 25 = .ok (.goto 28, 3) := by decide +kernel
theorem dX9_tell_28 : decode cX9_tell 28 = .ok (.iload_n 2, 1) := by decide +kernel
theorem dX9_tell_29 : decode cX9_tell 29 = .ok (.iconst 1, 1) := by decide +kernel
theorem dX9_tell_30 : decode cX9_tell 30 = .ok (.if_icmp .ne 10, 3) := by decide +kernel
theorem dX9_tell_33 : decode cX9_tell 33 = .ok (.aload_n 0, 1) := by decide +kernel
theorem dX9_tell_34 : decode cX9_tell 34 = .ok (.getfield 46, 3) := by decide +kernel
theorem dX9_tell_37 : decode cX9_tell 37 = .ok (.goto 16, 3) := by decide +kernel
theorem dX9_tell_40 : decode cX9_tell 40 = .ok (.iload_n 2, 1) := by decide +kernel
theorem dX9_tell_41 : decode cX9_tell 41 = .ok (.iconst 2, 1) := by decide +kernel
theorem dX9_tell_42 : decode cX9_tell 42 = .ok (.if_icmp .ne 10, 3) := by decide +kernel
theorem dX9_tell_45 : decode cX9_tell 45 = .ok (.aload_n 0, 1) := by decide +kernel
theorem dX9_tell_46 : decode cX9_tell 46 = .ok (.getfield 49, 3) := by decide +kernel
theorem dX9_tell_49 : decode cX9_tell 49 = .ok (.goto 4, 3) := by decide +kernel
theorem dX9_tell_52 : decode cX9_tell 52 = .ok (.iconst (-1), 1) := by decide +kernel
theorem dX9_tell_53 : decode cX9_tell 53 = .ok (.ireturn, 1) := by decide +kernel
theorem dX9_tell_54 : decode cX9_tell 54 = .ok (.iload_n 1, 1) := by decide +kernel
theorem dX9_tell_55 : decode cX9_tell 55 = .ok (.bipush 40, 2) := by decide +kernel
theorem dX9_tell_57 : decode cX9_tell 57 = .ok (.if_icmp .ge 24, 3) := by decide +kernel
theorem dX9_tell_60 : decode cX9_tell 60 = .ok (.iload_n 2, 1) := by decide +kernel
theorem dX9_tell_61 : decode cX9_tell 61 = .ok (.invokestatic 71, 3) := by decide +kernel
theorem dX9_tell_64 : decode cX9_tell 64 = .ok (.ifCond .eq 15, 3) := by decide +kernel
theorem dX9_tell_67 : decode cX9_tell 67 = .ok (.aload_n 0, 1) := by decide +kernel
theorem dX9_tell_68 : decode cX9_tell 68 = .ok (.iload_n 1, 1) := by decide +kernel
theorem dX9_tell_69 : decode cX9_tell 69 = .ok (.bipush 10, 2) := by decide +kernel
theorem dX9_tell_71 : decode cX9_tell 71 = .ok (.idiv, 1) := by decide +kernel
theorem dX9_tell_72 : decode cX9_tell 72 = .ok (.iload_n 2, 1) := by decide +kernel
theorem dX9_tell_73 : decode cX9_tell 73 = .ok (.invokevirtual 74, 3) := by decide +kernel
theorem dX9_tell_76 : decode cX9_tell 76 = .ok (.goto 4, 3) := by decide +kernel
theorem dX9_tell_79 : decode cX9_tell 79 = .ok (.iconst (-1), 1) := by decide +kernel
theorem dX9_tell_80 : decode cX9_tell 80 = .ok (.ireturn, 1) := by decide +kernel
theorem dX9_tell_81 : decode cX9_tell 81 = .ok (.iload_n 1, 1) := by decide +kernel
theorem dX9_tell_82 : decode cX9_tell 82 = .ok (.bipush 70, 2) := by decide +kernel
theorem dX9_tell_84 : decode cX9_tell 84 = .ok (.if_icmp .ge 25, 3) := by decide +kernel
theorem dX9_tell_87 : decode cX9_tell 87 = .ok (.aload_n 0, 1) := by decide +kernel
theorem dX9_tell_88 : decode cX9_tell 88 = .ok (.iload_n 2, 1) := by decide +kernel
theorem dX9_tell_89 : decode cX9_tell 89 = .ok (.invokevirtual 64, 3) := by decide +kernel
theorem dX9_tell_92 : decode cX9_tell 92 = .ok (.ifCond .eq 15, 3) := by decide +kernel
theorem dX9_tell_95 : decode cX9_tell 95 = .ok (.aload_n 0, 1) := by decide +kernel
theorem dX9_tell_96 : decode cX9_tell 96 = .ok (.iload_n 1, 1) := by decide +kernel
theorem dX9_tell_97 : decode cX9_tell 97 = .ok (.bipush 10, 2) := by decide +kernel
theorem dX9_tell_99 : decode cX9_tell 99 = .ok (.idiv, 1) := by decide +kernel
theorem dX9_tell_100 : decode cX9_tell 100 = .ok (.iload_n 2, 1) := by decide +kernel
theorem dX9_tell_101 : decode cX9_tell 101 = .ok (.invokevirtual 78, 3) := by decide +kernel
theorem dX9_tell_104 : decode cX9_tell 104 = .ok (.goto 4, 3) := by decide +kernel
theorem dX9_tell_107 : decode cX9_tell 107 = .ok (.iconst (-1), 1) := by decide +kernel
theorem dX9_tell_108 : decode cX9_tell 108 = .ok (.ireturn, 1) := by decide +kernel
theorem dX9_tell_109 : decode cX9_tell 109 = .ok (.iload_n 2, 1) := by decide +kernel
theorem dX9_tell_110 : decode cX9_tell 110 = .ok (.aload_n 0, 1) := by decide +kernel
theorem dX9_tell_111 : decode cX9_tell 111 = .ok (.getfield 49, 3) := by decide +kernel
theorem dX9_tell_114 : decode cX9_tell 114 = .ok (.if_icmp .ge 15, 3) := by decide +kernel
theorem dX9_tell_117 : decode cX9_tell 117 = .ok (.aload_n 0, 1) := by decide +kernel
theorem dX9_tell_118 : decode cX9_tell 118 = .ok (.iload_n 1, 1) := by decide +kernel
theorem dX9_tell_119 : decode cX9_tell 119 = .ok (.bipush 10, 2) := by decide +kernel
theorem dX9_tell_121 : decode cX9_tell 121 = .ok (.idiv, 1) := by decide +kernel
theorem dX9_tell_122 : decode cX9_tell 122 = .ok (.iload_n 2, 1) := by decide +kernel
theorem dX9_tell_123 : decode cX9_tell 123 = .ok (.invokevirtual 81, 3) := by decide +kernel
theorem dX9_tell_126 : decode cX9_tell 126 = .ok (.goto 4, 3) := by decide +kernel
theorem dX9_tell_129 : decode cX9_tell 129 = .ok (.iconst (-1), 1) := by decide +kernel
theorem dX9_tell_130 : decode cX9_tell 130 = .ok (.ireturn, 1) := by decide +kernel
def fX9_tell (μ : zM) (x0 : Nat) (x1 : Int32) : Option (Int32) := zgd (zm_ck μ 9 x0) <|
  if 0 ≤ x1 then (
  if 10 ≤ x1 then (
  if 40 ≤ x1 then (
  if 70 ≤ x1 then (
  zb1 (zm_gI μ 9 x0 8) fun v1 =>
  zb1 (if v1 ≤ (x1 - x1 / 10 * 10) then (
  some (-1))
  else (
  zb1 (fX9_tellSky μ x0 (x1 / 10) (x1 - x1 / 10 * 10)) fun v6 =>
  some v6)) fun s3 =>
  some s3)
  else (
  zb1 (fX9_hasPerson μ x0 (x1 - x1 / 10 * 10)) fun v8 =>
  zb1 (if v8 = 0 then (
  some (-1))
  else (
  zb1 (fX9_tellPerson μ x0 (x1 / 10) (x1 - x1 / 10 * 10)) fun v12 =>
  some v12)) fun s9 =>
  some s9))
  else (
  zb1 (fX11_isWord μ (x1 - x1 / 10 * 10)) fun v14 =>
  zb1 (if v14 = 0 then (
  some (-1))
  else (
  zb1 (fX9_tellWord μ x0 (x1 / 10) (x1 - x1 / 10 * 10)) fun v18 =>
  some v18)) fun s15 =>
  some s15))
  else (
  zb1 (if (x1 - x1 / 10 * 10) = 0 then (
  zb1 (zm_gI μ 9 x0 0) fun v25 =>
  some v25)
  else (
  if (x1 - x1 / 10 * 10) = 1 then (
  zb1 (zm_gI μ 9 x0 4) fun v23 =>
  some v23)
  else (
  if (x1 - x1 / 10 * 10) = 2 then (
  zb1 (zm_gI μ 9 x0 8) fun v21 =>
  some v21)
  else (
  some (-1))))) fun s19 =>
  some s19))
  else (
  some (-1))
theorem fX9_tell_ck {μ : zM} {x0 : Nat} {x1 : Int32} {z : Int32} (h : fX9_tell μ x0 x1 = some z) : zm_ck μ 9 x0 = true := (zgd_s h).1
set_option maxHeartbeats 4000000 in
set_option maxRecDepth 100000 in
theorem cX9_tell_ok {μ : zM} {x0 : Nat} {x1 : Int32} {r : Int32} (hf : fX9_tell μ x0 x1 = some r) : zC yX9_tell cX9_tell 3 (some .int) 1 0 0 [.ref x0, .int x1] μ (some (.int r)) μ := by
  replace hf := (zgd_s hf).2
  refine zC.of (by decide) (Nat.le_of_ble_eq_true rfl) (fun K hin => ?_)
  clear hin
  show zz K cX9_tell (3, RX9, some .int, 1, 0, 0, some (.int r), μ) 0 0 0 [(0, .ref x0), (1, .int x1)] [] μ
  refine zr_iload_n 1 dX9_tell_0 rfl ?_
  refine zr_if_ge 6 dX9_tell_1 (by decide) (fun hc => ?_) (fun hc => ?_)
  · rw [if_pos hc] at hf
    refine zr_iload_n 1 dX9_tell_6 rfl ?_
    refine zr_bipush 10 dX9_tell_7 (by decide) ?_
    refine zr_irem dX9_tell_9 (by decide) ?_
    refine zr_istore_n [(2, .int (x1 - x1 / 10 * 10)), (0, .ref x0), (1, .int x1)] dX9_tell_10 (Nat.le_of_ble_eq_true rfl) rfl ?_
    refine zr_iload_n 2 dX9_tell_11 rfl ?_
    refine zr_bipush 10 dX9_tell_12 (by decide) ?_
    refine zr_icmp_ge 54 dX9_tell_14 (by decide) (fun hc => ?_) (fun hc => ?_)
    · rw [if_pos hc] at hf
      refine zr_iload_n 2 dX9_tell_54 rfl ?_
      refine zr_bipush 40 dX9_tell_55 (by decide) ?_
      refine zr_icmp_ge 81 dX9_tell_57 (by decide) (fun hc => ?_) (fun hc => ?_)
      · rw [if_pos hc] at hf
        refine zr_iload_n 2 dX9_tell_81 rfl ?_
        refine zr_bipush 70 dX9_tell_82 (by decide) ?_
        refine zr_icmp_ge 109 dX9_tell_84 (by decide) (fun hc => ?_) (fun hc => ?_)
        · rw [if_pos hc] at hf
          refine zr_iload_n 0 dX9_tell_109 rfl ?_
          refine zr_aload_n 1 dX9_tell_110 rfl ?_
          replace hf := zb1_s hf
          obtain ⟨v1, h2, hf⟩ := hf
          refine zr_get (zm_gI_g h2) zk9 (by decide) zl_276 dX9_tell_111 ?_
          replace hf := zb1_s hf
          obtain ⟨s3, hg, hf⟩ := hf
          have hj4 : zz K cX9_tell (3, RX9, some .int, 1, 0, 0, some (.int r), μ) 0 0 130 [] [.int s3] μ := by
            cases hf
            exact zr_iret dX9_tell_130
          clear hf
          have hf := hg
          clear hg
          refine zr_icmp_ge 129 dX9_tell_114 (by decide) (fun hc => ?_) (fun hc => ?_)
          · rw [if_pos hc] at hf
            refine zr_iconst (-1) dX9_tell_129 (by decide) ?_
            cases hf
            exact zr_lv [] rfl hj4
          · rw [if_neg hc] at hf
            refine zr_aload_n 1 dX9_tell_117 rfl ?_
            refine zr_iload_n 2 dX9_tell_118 rfl ?_
            refine zr_bipush 10 dX9_tell_119 (by decide) ?_
            refine zr_idiv dX9_tell_121 (by decide) ?_
            refine zr_iload_n 0 dX9_tell_122 rfl ?_
            replace hf := zb1_s hf
            obtain ⟨v6, h5, hf⟩ := hf
            refine zr_callV (ci := 9) [.int (x1 / 10), .int (x1 - x1 / 10 * 10)] (cX9_tellSky_ok h5) zvs_X9_tellSky zl_503 zl_504 (fX9_tellSky_ck h5) rfl rfl zl_502 rfl (Nat.le_of_ble_eq_true rfl) (Nat.le_of_ble_eq_true rfl) (Nat.le_of_ble_eq_true rfl) (Nat.le_of_ble_eq_true rfl) dX9_tell_123 rfl ?_
            refine zr_goto 130 dX9_tell_126 (by decide) ?_
            cases hf
            exact zr_lv [] rfl hj4
        · rw [if_neg hc] at hf
          refine zr_aload_n 1 dX9_tell_87 rfl ?_
          refine zr_iload_n 0 dX9_tell_88 rfl ?_
          replace hf := zb1_s hf
          obtain ⟨v8, h7, hf⟩ := hf
          refine zr_callV (ci := 9) [.int (x1 - x1 / 10 * 10)] (cX9_hasPerson_ok h7) zvs_X9_hasPerson zl_136 zl_137 (fX9_hasPerson_ck h7) rfl rfl zl_463 rfl (Nat.le_of_ble_eq_true rfl) (Nat.le_of_ble_eq_true rfl) (Nat.le_of_ble_eq_true rfl) (Nat.le_of_ble_eq_true rfl) dX9_tell_89 rfl ?_
          replace hf := zb1_s hf
          obtain ⟨s9, hg, hf⟩ := hf
          have hj10 : zz K cX9_tell (3, RX9, some .int, 1, 0, 0, some (.int r), μ) 0 0 108 [] [.int s9] μ := by
            cases hf
            exact zr_iret dX9_tell_108
          clear hf
          have hf := hg
          clear hg
          refine zr_if_eq 107 dX9_tell_92 (by decide) (fun hc => ?_) (fun hc => ?_)
          · rw [if_pos hc] at hf
            refine zr_iconst (-1) dX9_tell_107 (by decide) ?_
            cases hf
            exact zr_lv [] rfl hj10
          · rw [if_neg hc] at hf
            refine zr_aload_n 1 dX9_tell_95 rfl ?_
            refine zr_iload_n 2 dX9_tell_96 rfl ?_
            refine zr_bipush 10 dX9_tell_97 (by decide) ?_
            refine zr_idiv dX9_tell_99 (by decide) ?_
            refine zr_iload_n 0 dX9_tell_100 rfl ?_
            replace hf := zb1_s hf
            obtain ⟨v12, h11, hf⟩ := hf
            refine zr_callV (ci := 9) [.int (x1 / 10), .int (x1 - x1 / 10 * 10)] (cX9_tellPerson_ok h11) zvs_X9_tellPerson zl_507 zl_508 (fX9_tellPerson_ck h11) rfl rfl zl_506 rfl (Nat.le_of_ble_eq_true rfl) (Nat.le_of_ble_eq_true rfl) (Nat.le_of_ble_eq_true rfl) (Nat.le_of_ble_eq_true rfl) dX9_tell_101 rfl ?_
            refine zr_goto 108 dX9_tell_104 (by decide) ?_
            cases hf
            exact zr_lv [] rfl hj10
      · rw [if_neg hc] at hf
        refine zr_iload_n 0 dX9_tell_60 rfl ?_
        replace hf := zb1_s hf
        obtain ⟨v14, h13, hf⟩ := hf
        refine zr_callSN [.int (x1 - x1 / 10 * 10)] (cX11_isWord_ok h13) zvs_X11_isWord zl_334 zl_509 rfl (Nat.le_of_ble_eq_true rfl) (Nat.le_of_ble_eq_true rfl) (Nat.le_of_ble_eq_true rfl) (Nat.le_of_ble_eq_true rfl) dX9_tell_61 rfl ?_
        replace hf := zb1_s hf
        obtain ⟨s15, hg, hf⟩ := hf
        have hj16 : zz K cX9_tell (3, RX9, some .int, 1, 0, 0, some (.int r), μ) 0 0 80 [] [.int s15] μ := by
          cases hf
          exact zr_iret dX9_tell_80
        clear hf
        have hf := hg
        clear hg
        refine zr_if_eq 79 dX9_tell_64 (by decide) (fun hc => ?_) (fun hc => ?_)
        · rw [if_pos hc] at hf
          refine zr_iconst (-1) dX9_tell_79 (by decide) ?_
          cases hf
          exact zr_lv [] rfl hj16
        · rw [if_neg hc] at hf
          refine zr_aload_n 1 dX9_tell_67 rfl ?_
          refine zr_iload_n 2 dX9_tell_68 rfl ?_
          refine zr_bipush 10 dX9_tell_69 (by decide) ?_
          refine zr_idiv dX9_tell_71 (by decide) ?_
          refine zr_iload_n 0 dX9_tell_72 rfl ?_
          replace hf := zb1_s hf
          obtain ⟨v18, h17, hf⟩ := hf
          refine zr_callV (ci := 9) [.int (x1 / 10), .int (x1 - x1 / 10 * 10)] (cX9_tellWord_ok h17) zvs_X9_tellWord zl_512 zl_513 (fX9_tellWord_ck h17) rfl rfl zl_511 rfl (Nat.le_of_ble_eq_true rfl) (Nat.le_of_ble_eq_true rfl) (Nat.le_of_ble_eq_true rfl) (Nat.le_of_ble_eq_true rfl) dX9_tell_73 rfl ?_
          refine zr_goto 80 dX9_tell_76 (by decide) ?_
          cases hf
          exact zr_lv [] rfl hj16
    · rw [if_neg hc] at hf
      refine zr_iload_n 0 dX9_tell_17 rfl ?_
      replace hf := zb1_s hf
      obtain ⟨s19, hg, hf⟩ := hf
      have hj20 : zz K cX9_tell (3, RX9, some .int, 1, 0, 0, some (.int r), μ) 0 0 53 [] [.int s19] μ := by
        cases hf
        exact zr_iret dX9_tell_53
      clear hf
      have hf := hg
      clear hg
      refine zr_if_ne 28 dX9_tell_18 (by decide) (fun hc => ?_) (fun hc => ?_)
      · rw [if_neg hc] at hf
        refine zr_iload_n 0 dX9_tell_28 rfl ?_
        refine zr_iconst 1 dX9_tell_29 (by decide) ?_
        refine zr_icmp_ne 40 dX9_tell_30 (by decide) (fun hc => ?_) (fun hc => ?_)
        · rw [if_neg hc] at hf
          refine zr_iload_n 0 dX9_tell_40 rfl ?_
          refine zr_iconst 2 dX9_tell_41 (by decide) ?_
          refine zr_icmp_ne 52 dX9_tell_42 (by decide) (fun hc => ?_) (fun hc => ?_)
          · rw [if_neg hc] at hf
            refine zr_iconst (-1) dX9_tell_52 (by decide) ?_
            cases hf
            exact zr_lv [] rfl hj20
          · rw [if_pos hc] at hf
            refine zr_aload_n 1 dX9_tell_45 rfl ?_
            replace hf := zb1_s hf
            obtain ⟨v21, h22, hf⟩ := hf
            refine zr_get (zm_gI_g h22) zk9 (by decide) zl_276 dX9_tell_46 ?_
            refine zr_goto 53 dX9_tell_49 (by decide) ?_
            cases hf
            exact zr_lv [] rfl hj20
        · rw [if_pos hc] at hf
          refine zr_aload_n 1 dX9_tell_33 rfl ?_
          replace hf := zb1_s hf
          obtain ⟨v23, h24, hf⟩ := hf
          refine zr_get (zm_gI_g h24) zk9 (by decide) zl_103 dX9_tell_34 ?_
          refine zr_goto 53 dX9_tell_37 (by decide) ?_
          cases hf
          exact zr_lv [] rfl hj20
      · rw [if_pos hc] at hf
        refine zr_aload_n 1 dX9_tell_21 rfl ?_
        replace hf := zb1_s hf
        obtain ⟨v25, h26, hf⟩ := hf
        refine zr_get (zm_gI_g h26) zk9 (by decide) zl_8 dX9_tell_22 ?_
        refine zr_goto 53 dX9_tell_25 (by decide) ?_
        cases hf
        exact zr_lv [] rfl hj20
  · rw [if_neg hc] at hf
    refine zr_iconst (-1) dX9_tell_4 (by decide) ?_
    cases hf
    exact zr_iret dX9_tell_5
theorem zl_514 : Cond.methodLink RX9 104 Lib.Math.max.name ∈ zt := zt_at 1294 (by decide +kernel)
theorem dX9_longestClear_0 : decode cX9_longestClear 0 = .ok (.iconst 0, 1) := by decide +kernel
theorem dX9_longestClear_1 : decode cX9_longestClear 1 = .ok (.istore_n 1, 1) := by decide +kernel
theorem dX9_longestClear_2 : decode cX9_longestClear 2 = .ok (.iconst 0, 1) := by decide +kernel
theorem dX9_longestClear_3 : decode cX9_longestClear 3 = .ok (.istore_n 2, 1) := by decide +kernel
theorem dX9_longestClear_4 : decode cX9_longestClear 4 = .ok (.iconst 0, 1) := by decide +kernel
theorem dX9_longestClear_5 : decode cX9_longestClear 5 = .ok (.istore_n 3, 1) := by decide +kernel
theorem dX9_longestClear_6 : decode cX9_longestClear 6 = .ok (.iload_n 3, 1) := by decide +kernel
theorem dX9_longestClear_7 : decode cX9_longestClear 7 = .ok (.bipush 100, 2) := by decide +kernel
theorem dX9_longestClear_9 : decode cX9_longestClear 9 = .ok (.if_icmp .ge 32, 3) := by decide +kernel
theorem dX9_longestClear_12 : decode cX9_longestClear 12 = .ok (.aload_n 0, 1) := by decide +kernel
theorem dX9_longestClear_13 : decode cX9_longestClear 13 = .ok (.getfield 39, 3) := by decide +kernel
theorem dX9_longestClear_16 : decode cX9_longestClear 16 = .ok (.iload_n 3, 1) := by decide +kernel
theorem dX9_longestClear_17 : decode cX9_longestClear 17 = .ok (.iaload, 1) := by decide +kernel
theorem dX9_longestClear_18 : decode cX9_longestClear 18 = .ok (.ifCond .ne 9, 3) := by decide +kernel
theorem dX9_longestClear_21 : decode cX9_longestClear 21 = .ok (.iload_n 2, 1) := by decide +kernel
theorem dX9_longestClear_22 : decode cX9_longestClear 22 = .ok (.iconst 1, 1) := by decide +kernel
theorem dX9_longestClear_23 : decode cX9_longestClear 23 = .ok (.iadd, 1) := by decide +kernel
theorem dX9_longestClear_24 : decode cX9_longestClear 24 = .ok (.goto 4, 3) := by decide +kernel
theorem dX9_longestClear_27 : decode cX9_longestClear 27 = .ok (.iconst 0, 1) := by decide +kernel
theorem dX9_longestClear_28 : decode cX9_longestClear 28 = .ok (.istore_n 2, 1) := by decide +kernel
theorem dX9_longestClear_29 : decode cX9_longestClear 29 = .ok (.iload_n 1, 1) := by decide +kernel
theorem dX9_longestClear_30 : decode cX9_longestClear 30 = .ok (.iload_n 2, 1) := by decide +kernel
theorem dX9_longestClear_31 : decode cX9_longestClear 31 = .ok (.invokestatic 104, 3) := by decide +kernel
theorem dX9_longestClear_34 : decode cX9_longestClear 34 = .ok (.istore_n 1, 1) := by decide +kernel
theorem dX9_longestClear_35 : decode cX9_longestClear 35 = .ok (.iinc 3 1, 3) := by decide +kernel
theorem dX9_longestClear_38 : decode cX9_longestClear 38 = .ok (.goto (-32), 3) := by decide +kernel
theorem dX9_longestClear_41 : decode cX9_longestClear 41 = .ok (.iload_n 1, 1) := by decide +kernel
theorem dX9_longestClear_42 : decode cX9_longestClear 42 = .ok (.ireturn, 1) := by decide +kernel
def fX9_longestClear_l6 (μ : zM) (x0 : Nat) (F4 : Int32 → Int32 → Int32 → Option (Int32)) (x1_1 : Int32) (x2_2 : Int32) (x3_3 : Int32) : Option (Int32) :=
  if 100 ≤ x3_3 then (
  some x1_1)
  else (
  zb1 (zm_gR μ 9 x0 12) fun v8 =>
  zb1 (zm_aI μ 0 v8 x3_3) fun v10 =>
  zb1 (if v10 = 0 then (
  some (x2_2 + 1))
  else (
  some 0)) fun s12 =>
  F4 (if x1_1 < s12 then s12 else x1_1 : Int32) s12 (x3_3 + 1))
def fX9_longestClear (μ : zM) (x0 : Nat) : Option (Int32) := zgd (zm_ck μ 9 x0) <|
  zb1 (zf3 (fX9_longestClear_l6 μ x0) zfu 0 0 0) fun x1_6 =>
  some x1_6
theorem fX9_longestClear_ck {μ : zM} {x0 : Nat} {z : Int32} (h : fX9_longestClear μ x0 = some z) : zm_ck μ 9 x0 = true := (zgd_s h).1
set_option maxHeartbeats 4000000 in
set_option maxRecDepth 100000 in
theorem cX9_longestClear_ok {μ : zM} {x0 : Nat} {r : Int32} (hf : fX9_longestClear μ x0 = some r) : zC yX9_longestClear cX9_longestClear 4 (some .int) 1 0 0 [.ref x0] μ (some (.int r)) μ := by
  replace hf := (zgd_s hf).2
  refine zC.of (by decide) (Nat.le_of_ble_eq_true rfl) (fun K hin => ?_)
  clear hin
  show zz K cX9_longestClear (4, RX9, some .int, 1, 0, 0, some (.int r), μ) 0 0 0 [(0, .ref x0)] [] μ
  refine zr_iconst 0 dX9_longestClear_0 (by decide) ?_
  refine zr_istore_n [(1, .int 0), (0, .ref x0)] dX9_longestClear_1 (Nat.le_of_ble_eq_true rfl) rfl ?_
  refine zr_iconst 0 dX9_longestClear_2 (by decide) ?_
  refine zr_istore_n [(2, .int 0), (1, .int 0), (0, .ref x0)] dX9_longestClear_3 (Nat.le_of_ble_eq_true rfl) rfl ?_
  refine zr_iconst 0 dX9_longestClear_4 (by decide) ?_
  refine zr_istore_n [(3, .int 0), (2, .int 0), (1, .int 0), (0, .ref x0)] dX9_longestClear_5 (Nat.le_of_ble_eq_true rfl) rfl ?_
  replace hf := zb1_s hf
  obtain ⟨x1_6, hg, hf⟩ := hf
  have hj7 : zz K cX9_longestClear (4, RX9, some .int, 1, 0, 0, some (.int r), μ) 0 0 41 [(1, .int x1_6)] [] μ := by
    refine zr_iload_n 0 dX9_longestClear_41 rfl ?_
    cases hf
    exact zr_iret dX9_longestClear_42
  clear hf
  have hf := hg
  clear hg
  have hL14 : ∀ (n : Nat) (x1_1 : Int32) (x2_2 : Int32) (x3_3 : Int32), zf3 (fX9_longestClear_l6 μ x0) n x1_1 x2_2 x3_3 = some x1_6 → zz K cX9_longestClear (4, RX9, some .int, 1, 0, 0, some (.int r), μ) 0 0 6 [(0, .ref x0), (1, .int x1_1), (2, .int x2_2), (3, .int x3_3)] [] μ := by
    intro n
    induction n with
    | zero => intro x1_1 x2_2 x3_3 hf; cases hf
    | succ n ih5 =>
      intro x1_1 x2_2 x3_3 hf
      replace hf := zf3_s hf
      generalize zf3 (fX9_longestClear_l6 μ x0) n = F4 at hf ih5
      unfold fX9_longestClear_l6 at hf
      refine zr_iload_n 3 dX9_longestClear_6 rfl ?_
      refine zr_bipush 100 dX9_longestClear_7 (by decide) ?_
      refine zr_icmp_ge 41 dX9_longestClear_9 (by decide) (fun hc => ?_) (fun hc => ?_)
      · rw [if_pos hc] at hf
        cases hf
        exact zr_lv [1] rfl hj7
      · rw [if_neg hc] at hf
        refine zr_aload_n 0 dX9_longestClear_12 rfl ?_
        replace hf := zb1_s hf
        obtain ⟨v8, h9, hf⟩ := hf
        refine zr_get (zm_gR_g h9) zk9 (by decide) zl_7 dX9_longestClear_13 ?_
        refine zr_iload_n 3 dX9_longestClear_16 rfl ?_
        replace hf := zb1_s hf
        obtain ⟨v10, h11, hf⟩ := hf
        refine zr_iald h11 dX9_longestClear_17 ?_
        replace hf := zb1_s hf
        obtain ⟨s12, hg, hf⟩ := hf
        have hj13 : zz K cX9_longestClear (4, RX9, some .int, 1, 0, 0, some (.int r), μ) 0 0 28 [(0, .ref x0), (1, .int x1_1), (3, .int x3_3)] [.int s12] μ := by
          refine zr_istore_n [(2, .int s12), (0, .ref x0), (1, .int x1_1), (3, .int x3_3)] dX9_longestClear_28 (Nat.le_of_ble_eq_true rfl) rfl ?_
          refine zr_iload_n 2 dX9_longestClear_29 rfl ?_
          refine zr_iload_n 0 dX9_longestClear_30 rfl ?_
          refine zr_mmax zl_514 zl_55 zl_11 zl_56 (Nat.le_of_ble_eq_true rfl) (Nat.le_of_ble_eq_true rfl) (Nat.le_of_ble_eq_true rfl) (Nat.le_of_ble_eq_true rfl) dX9_longestClear_31 ?_
          refine zr_istore_n [(1, .int (if x1_1 < s12 then s12 else x1_1 : Int32)), (2, .int s12), (0, .ref x0), (3, .int x3_3)] dX9_longestClear_34 (Nat.le_of_ble_eq_true rfl) rfl ?_
          refine zr_iinc (j := 3) (x3_3 + 1) [(3, .int (x3_3 + 1)), (1, .int (if x1_1 < s12 then s12 else x1_1 : Int32)), (2, .int s12), (0, .ref x0)] dX9_longestClear_35 rfl rfl (Nat.le_of_ble_eq_true rfl) rfl ?_
          refine zr_goto 6 dX9_longestClear_38 (by decide) ?_
          exact zr_lv [3, 1, 2, 0] rfl (ih5 (if x1_1 < s12 then s12 else x1_1 : Int32) s12 (x3_3 + 1) hf)
        clear hf
        have hf := hg
        clear hg
        refine zr_if_ne 27 dX9_longestClear_18 (by decide) (fun hc => ?_) (fun hc => ?_)
        · rw [if_neg hc] at hf
          refine zr_iconst 0 dX9_longestClear_27 (by decide) ?_
          cases hf
          exact zr_lv [0, 1, 3] rfl hj13
        · rw [if_pos hc] at hf
          refine zr_iload_n 2 dX9_longestClear_21 rfl ?_
          refine zr_iconst 1 dX9_longestClear_22 (by decide) ?_
          refine zr_iadd dX9_longestClear_23 ?_
          refine zr_goto 28 dX9_longestClear_24 (by decide) ?_
          cases hf
          exact zr_lv [0, 1, 3] rfl hj13
  exact zr_lv [3, 2, 1, 0] rfl (hL14 _ 0 0 0 hf)
theorem zl_515 : Cond.fieldLink RX10 9 "TwoEchoes$Valley" "should" "[I" ∈ zt := zt_at 177 (by decide +kernel)
theorem dX10_sayingsUntil_0 : decode cX10_sayingsUntil 0 = .ok (.iload_n 1, 1) := by decide +kernel
theorem dX10_sayingsUntil_1 : decode cX10_sayingsUntil 1 = .ok (.istore_n 3, 1) := by decide +kernel
theorem dX10_sayingsUntil_2 : decode cX10_sayingsUntil 2 = .ok (.iconst 1, 1) := by decide +kernel
theorem dX10_sayingsUntil_3 : decode cX10_sayingsUntil 3 = .ok (.istore 4, 2) := by decide +kernel
theorem dX10_sayingsUntil_5 : decode cX10_sayingsUntil 5 = .ok (.iload 4, 2) := by decide +kernel
theorem dX10_sayingsUntil_7 : decode cX10_sayingsUntil 7 = .ok (.bipush 8, 2) := by decide +kernel
theorem dX10_sayingsUntil_9 : decode cX10_sayingsUntil 9 = .ok (.if_icmp .gt 24, 3) := by decide +kernel
theorem dX10_sayingsUntil_12 : decode cX10_sayingsUntil 12 = .ok (.aload_n 0, 1) := by decide +kernel
theorem dX10_sayingsUntil_13 : decode cX10_sayingsUntil 13 = .ok (.getfield 9, 3) := by decide +kernel
theorem dX10_sayingsUntil_16 : decode cX10_sayingsUntil 16 = .ok (.iload_n 3, 1) := by decide +kernel
theorem dX10_sayingsUntil_17 : decode cX10_sayingsUntil 17 = .ok (.iaload, 1) := by decide +kernel
theorem dX10_sayingsUntil_18 : decode cX10_sayingsUntil 18 = .ok (.istore_n 3, 1) := by decide +kernel
theorem dX10_sayingsUntil_19 : decode cX10_sayingsUntil 19 = .ok (.iload_n 3, 1) := by decide +kernel
theorem dX10_sayingsUntil_20 : decode cX10_sayingsUntil 20 = .ok (.iload_n 2, 1) := by decide +kernel
theorem dX10_sayingsUntil_21 : decode cX10_sayingsUntil 21 = .ok (.if_icmp .ne 6, 3) := by decide +kernel
theorem dX10_sayingsUntil_24 : decode cX10_sayingsUntil 24 = .ok (.iload 4, 2) := by decide +kernel
theorem dX10_sayingsUntil_26 : decode cX10_sayingsUntil 26 = .ok (.ireturn, 1) := by decide +kernel
theorem dX10_sayingsUntil_27 : decode cX10_sayingsUntil 27 = .ok (.iinc 4 1, 3) := by decide +kernel
theorem dX10_sayingsUntil_30 : decode cX10_sayingsUntil 30 = .ok (.goto (-25), 3) := by decide +kernel
theorem dX10_sayingsUntil_33 : decode cX10_sayingsUntil 33 = .ok (.iconst (-1), 1) := by decide +kernel
theorem dX10_sayingsUntil_34 : decode cX10_sayingsUntil 34 = .ok (.ireturn, 1) := by decide +kernel
def fX10_sayingsUntil_l5 (μ : zM) (x0 : Nat) (x2 : Int32) (F3 : Int32 → Int32 → Option (Int32)) (x3_1 : Int32) (x4_2 : Int32) : Option (Int32) :=
  if 8 < x4_2 then (
  some (-1))
  else (
  zb1 (zm_gR μ 9 x0 1) fun v5 =>
  zb1 (zm_aI μ 0 v5 x3_1) fun v7 =>
  if v7 = x2 then (
  some x4_2)
  else (
  F3 v7 (x4_2 + 1)))
def fX10_sayingsUntil (μ : zM) (x0 : Nat) (x1 : Int32) (x2 : Int32) : Option (Int32) :=
  zf2 (fX10_sayingsUntil_l5 μ x0 x2) zfu x1 1
set_option maxHeartbeats 4000000 in
set_option maxRecDepth 100000 in
theorem cX10_sayingsUntil_ok {μ : zM} {x0 : Nat} {x1 : Int32} {x2 : Int32} {r : Int32} (hf : fX10_sayingsUntil μ x0 x1 x2 = some r) : zC yX10_sayingsUntil cX10_sayingsUntil 5 (some .int) 0 0 0 [.ref x0, .int x1, .int x2] μ (some (.int r)) μ := by
  unfold fX10_sayingsUntil at hf
  refine zC.of (by decide) (Nat.le_of_ble_eq_true rfl) (fun K hin => ?_)
  clear hin
  show zz K cX10_sayingsUntil (5, RX10, some .int, 0, 0, 0, some (.int r), μ) 0 0 0 [(0, .ref x0), (1, .int x1), (2, .int x2)] [] μ
  refine zr_iload_n 1 dX10_sayingsUntil_0 rfl ?_
  refine zr_istore_n [(3, .int x1), (0, .ref x0), (1, .int x1), (2, .int x2)] dX10_sayingsUntil_1 (Nat.le_of_ble_eq_true rfl) rfl ?_
  refine zr_iconst 1 dX10_sayingsUntil_2 (by decide) ?_
  refine zr_istore [(4, .int 1), (3, .int x1), (0, .ref x0), (1, .int x1), (2, .int x2)] dX10_sayingsUntil_3 (Nat.le_of_ble_eq_true rfl) rfl ?_
  have hL9 : ∀ (n : Nat) (x3_1 : Int32) (x4_2 : Int32), zf2 (fX10_sayingsUntil_l5 μ x0 x2) n x3_1 x4_2 = some r → zz K cX10_sayingsUntil (5, RX10, some .int, 0, 0, 0, some (.int r), μ) 0 0 5 [(0, .ref x0), (2, .int x2), (3, .int x3_1), (4, .int x4_2)] [] μ := by
    intro n
    induction n with
    | zero => intro x3_1 x4_2 hf; cases hf
    | succ n ih4 =>
      intro x3_1 x4_2 hf
      replace hf := zf2_s hf
      generalize zf2 (fX10_sayingsUntil_l5 μ x0 x2) n = F3 at hf ih4
      unfold fX10_sayingsUntil_l5 at hf
      refine zr_iload 3 dX10_sayingsUntil_5 rfl ?_
      refine zr_bipush 8 dX10_sayingsUntil_7 (by decide) ?_
      refine zr_icmp_gt 33 dX10_sayingsUntil_9 (by decide) (fun hc => ?_) (fun hc => ?_)
      · rw [if_pos hc] at hf
        refine zr_iconst (-1) dX10_sayingsUntil_33 (by decide) ?_
        cases hf
        exact zr_iret dX10_sayingsUntil_34
      · rw [if_neg hc] at hf
        refine zr_aload_n 0 dX10_sayingsUntil_12 rfl ?_
        replace hf := zb1_s hf
        obtain ⟨v5, h6, hf⟩ := hf
        refine zr_get (zm_gR_g h6) zk9 (by decide) zl_515 dX10_sayingsUntil_13 ?_
        refine zr_iload_n 2 dX10_sayingsUntil_16 rfl ?_
        replace hf := zb1_s hf
        obtain ⟨v7, h8, hf⟩ := hf
        refine zr_iald h8 dX10_sayingsUntil_17 ?_
        refine zr_istore_n [(3, .int v7), (0, .ref x0), (2, .int x2), (4, .int x4_2)] dX10_sayingsUntil_18 (Nat.le_of_ble_eq_true rfl) rfl ?_
        refine zr_iload_n 0 dX10_sayingsUntil_19 rfl ?_
        refine zr_iload_n 2 dX10_sayingsUntil_20 rfl ?_
        refine zr_icmp_ne 27 dX10_sayingsUntil_21 (by decide) (fun hc => ?_) (fun hc => ?_)
        · rw [if_neg hc] at hf
          refine zr_iinc (j := 3) (x4_2 + 1) [(4, .int (x4_2 + 1)), (3, .int v7), (0, .ref x0), (2, .int x2)] dX10_sayingsUntil_27 rfl rfl (Nat.le_of_ble_eq_true rfl) rfl ?_
          refine zr_goto 5 dX10_sayingsUntil_30 (by decide) ?_
          exact zr_lv [2, 3, 1, 0] rfl (ih4 v7 (x4_2 + 1) hf)
        · rw [if_pos hc] at hf
          refine zr_iload 3 dX10_sayingsUntil_24 rfl ?_
          cases hf
          exact zr_iret dX10_sayingsUntil_26
  exact zr_lv [2, 4, 1, 0] rfl (hL9 _ x1 1 hf)
theorem zl_516 : Cond.code yX10_sayingsUntil cX10_sayingsUntil 5 (some .int) ∈ zt := zt_at 960 (by decide +kernel)
theorem zl_517 : Cond.initialized RX10 ∈ zt := zt_at 149 (by decide +kernel)
theorem zvs_X10_sayingsUntil : zvS yX10_sayingsUntil cX10_sayingsUntil 5 (some .int) 3 := ⟨zl_516, zl_517, ⟨by decide +kernel, by decide +kernel, by decide +kernel⟩, by decide⟩
theorem zl_518 : Cond.methodLink RX10 21 yX10_sayingsUntil ∈ zt := zt_at 1192 (by decide +kernel)
theorem zl_519 : Cond.static yX10_sayingsUntil ∈ zt := zt_at 959 (by decide +kernel)
theorem dX10_isLeastOfRing_0 : decode cX10_isLeastOfRing 0 = .ok (.aload_n 0, 1) := by decide +kernel
theorem dX10_isLeastOfRing_1 : decode cX10_isLeastOfRing 1 = .ok (.iload_n 1, 1) := by decide +kernel
theorem dX10_isLeastOfRing_2 : decode cX10_isLeastOfRing 2 = .ok (.iload_n 1, 1) := by decide +kernel
theorem dX10_isLeastOfRing_3 : decode cX10_isLeastOfRing 3 = .ok (.invokestatic 21, 3) := by decide +kernel
theorem dX10_isLeastOfRing_6 : decode cX10_isLeastOfRing 6 = .ok (.istore_n 2, 1) := by decide +kernel
theorem dX10_isLeastOfRing_7 : decode cX10_isLeastOfRing 7 = .ok (.iload_n 1, 1) := by decide +kernel
theorem dX10_isLeastOfRing_8 : decode cX10_isLeastOfRing 8 = .ok (.istore_n 3, 1) := by decide +kernel
theorem dX10_isLeastOfRing_9 : decode cX10_isLeastOfRing 9 = .ok (.iconst 0, 1) := by decide +kernel
theorem dX10_isLeastOfRing_10 : decode cX10_isLeastOfRing 10 = .ok (.istore 4, 2) := by decide +kernel
theorem dX10_isLeastOfRing_12 : decode cX10_isLeastOfRing 12 = .ok (.iload 4, 2) := by decide +kernel
theorem dX10_isLeastOfRing_14 : decode cX10_isLeastOfRing 14 = .ok (.iload_n 2, 1) := by decide +kernel
theorem dX10_isLeastOfRing_15 : decode cX10_isLeastOfRing 15 = .ok (.if_icmp .ge 23, 3) := by decide +kernel
theorem dX10_isLeastOfRing_18 : decode cX10_isLeastOfRing 18 = .ok (.aload_n 0, 1) := by decide +kernel
theorem dX10_isLeastOfRing_19 : decode cX10_isLeastOfRing 19 = .ok (.getfield 9, 3) := by decide +kernel
theorem dX10_isLeastOfRing_22 : decode cX10_isLeastOfRing 22 = .ok (.iload_n 3, 1) := by decide +kernel
theorem dX10_isLeastOfRing_23 : decode cX10_isLeastOfRing 23 = .ok (.iaload, 1) := by decide +kernel
theorem dX10_isLeastOfRing_24 : decode cX10_isLeastOfRing 24 = .ok (.istore_n 3, 1) := by decide +kernel
theorem dX10_isLeastOfRing_25 : decode cX10_isLeastOfRing 25 = .ok (.iload_n 3, 1) := by decide +kernel
theorem dX10_isLeastOfRing_26 : decode cX10_isLeastOfRing 26 = .ok (.iload_n 1, 1) := by decide +kernel
theorem dX10_isLeastOfRing_27 : decode cX10_isLeastOfRing 27 = .ok (.if_icmp .ge 5, 3) := by decide +kernel
theorem dX10_isLeastOfRing_30 : decode cX10_isLeastOfRing 30 = .ok (.iconst 0, 1) := by decide +kernel
theorem dX10_isLeastOfRing_31 : decode cX10_isLeastOfRing 31 = .ok (.ireturn, 1) := by decide +kernel
theorem dX10_isLeastOfRing_32 : decode cX10_isLeastOfRing 32 = .ok (.iinc 4 1, 3) := by decide +kernel
theorem dX10_isLeastOfRing_35 : decode cX10_isLeastOfRing 35 = .ok (.goto (-23), 3) := by decide +kernel
theorem dX10_isLeastOfRing_38 : decode cX10_isLeastOfRing 38 = .ok (.iload_n 2, 1) := by decide +kernel
theorem dX10_isLeastOfRing_39 : decode cX10_isLeastOfRing 39 = .ok (.iconst (-1), 1) := by decide +kernel
theorem dX10_isLeastOfRing_40 : decode cX10_isLeastOfRing 40 = .ok (.if_icmp .eq 7, 3) := by decide +kernel
theorem dX10_isLeastOfRing_43 : decode cX10_isLeastOfRing 43 = .ok (.iconst 1, 1) := by decide +kernel
theorem dX10_isLeastOfRing_44 : decode cX10_isLeastOfRing 44 = .ok (.goto 4, 3) := by decide +kernel
theorem dX10_isLeastOfRing_47 : decode cX10_isLeastOfRing 47 = .ok (.iconst 0, 1) := by decide +kernel
theorem dX10_isLeastOfRing_48 : decode cX10_isLeastOfRing 48 = .ok (.ireturn, 1) := by decide +kernel
def fX10_isLeastOfRing_l12 (v2 : Int32) (μ : zM) (x0 : Nat) (x1 : Int32) (F5 : Int32 → Int32 → Option (Int32)) (x3_3 : Int32) (x4_4 : Int32) : Option (Int32) :=
  if v2 ≤ x4_4 then (
  zb1 (if v2 = (-1) then (
  some 0)
  else (
  some 1)) fun s7 =>
  zb1 (zbz s7) fun v9 =>
  some v9)
  else (
  zb1 (zm_gR μ 9 x0 1) fun v11 =>
  zb1 (zm_aI μ 0 v11 x3_3) fun v13 =>
  if x1 ≤ v13 then (
  F5 v13 (x4_4 + 1))
  else (
  some 0))
def fX10_isLeastOfRing (μ : zM) (x0 : Nat) (x1 : Int32) : Option (Int32) :=
  zb1 (fX10_sayingsUntil μ x0 x1 x1) fun v2 =>
  zf2 (fX10_isLeastOfRing_l12 v2 μ x0 x1) zfu x1 0
set_option maxHeartbeats 4000000 in
set_option maxRecDepth 100000 in
theorem cX10_isLeastOfRing_ok {μ : zM} {x0 : Nat} {x1 : Int32} {r : Int32} (hf : fX10_isLeastOfRing μ x0 x1 = some r) : zC yX10_isLeastOfRing cX10_isLeastOfRing 5 (some .boolean) 1 0 0 [.ref x0, .int x1] μ (some (.int r)) μ := by
  unfold fX10_isLeastOfRing at hf
  refine zC.of (by decide) (Nat.le_of_ble_eq_true rfl) (fun K hin => ?_)
  clear hin
  show zz K cX10_isLeastOfRing (5, RX10, some .boolean, 1, 0, 0, some (.int r), μ) 0 0 0 [(0, .ref x0), (1, .int x1)] [] μ
  refine zr_aload_n 0 dX10_isLeastOfRing_0 rfl ?_
  refine zr_iload_n 1 dX10_isLeastOfRing_1 rfl ?_
  refine zr_iload_n 1 dX10_isLeastOfRing_2 rfl ?_
  replace hf := zb1_s hf
  obtain ⟨v2, h1, hf⟩ := hf
  refine zr_callS [.ref x0, .int x1, .int x1] (cX10_sayingsUntil_ok h1) zvs_X10_sayingsUntil zl_519 zl_518 rfl (Nat.le_of_ble_eq_true rfl) (Nat.le_of_ble_eq_true rfl) (Nat.le_of_ble_eq_true rfl) (Nat.le_of_ble_eq_true rfl) dX10_isLeastOfRing_3 rfl ?_
  refine zr_istore_n [(2, .int v2), (0, .ref x0), (1, .int x1)] dX10_isLeastOfRing_6 (Nat.le_of_ble_eq_true rfl) rfl ?_
  refine zr_iload_n 2 dX10_isLeastOfRing_7 rfl ?_
  refine zr_istore_n [(3, .int x1), (2, .int v2), (0, .ref x0), (1, .int x1)] dX10_isLeastOfRing_8 (Nat.le_of_ble_eq_true rfl) rfl ?_
  refine zr_iconst 0 dX10_isLeastOfRing_9 (by decide) ?_
  refine zr_istore [(4, .int 0), (3, .int x1), (2, .int v2), (0, .ref x0), (1, .int x1)] dX10_isLeastOfRing_10 (Nat.le_of_ble_eq_true rfl) rfl ?_
  have hL15 : ∀ (n : Nat) (x3_3 : Int32) (x4_4 : Int32), zf2 (fX10_isLeastOfRing_l12 v2 μ x0 x1) n x3_3 x4_4 = some r → zz K cX10_isLeastOfRing (5, RX10, some .boolean, 1, 0, 0, some (.int r), μ) 0 0 12 [(0, .ref x0), (1, .int x1), (2, .int v2), (3, .int x3_3), (4, .int x4_4)] [] μ := by
    intro n
    induction n with
    | zero => intro x3_3 x4_4 hf; cases hf
    | succ n ih6 =>
      intro x3_3 x4_4 hf
      replace hf := zf2_s hf
      generalize zf2 (fX10_isLeastOfRing_l12 v2 μ x0 x1) n = F5 at hf ih6
      unfold fX10_isLeastOfRing_l12 at hf
      refine zr_iload 4 dX10_isLeastOfRing_12 rfl ?_
      refine zr_iload_n 2 dX10_isLeastOfRing_14 rfl ?_
      refine zr_icmp_ge 38 dX10_isLeastOfRing_15 (by decide) (fun hc => ?_) (fun hc => ?_)
      · rw [if_pos hc] at hf
        refine zr_iload_n 2 dX10_isLeastOfRing_38 rfl ?_
        refine zr_iconst (-1) dX10_isLeastOfRing_39 (by decide) ?_
        replace hf := zb1_s hf
        obtain ⟨s7, hg, hf⟩ := hf
        have hj8 : zz K cX10_isLeastOfRing (5, RX10, some .boolean, 1, 0, 0, some (.int r), μ) 0 0 48 [] [.int s7] μ := by
          replace hf := zb1_s hf
          obtain ⟨v9, hn10, hf⟩ := hf
          obtain ⟨hn10, rfl⟩ := zbz_s hn10
          cases hf
          exact zr_zret hn10 dX10_isLeastOfRing_48
        clear hf
        have hf := hg
        clear hg
        refine zr_icmp_eq 47 dX10_isLeastOfRing_40 (by decide) (fun hc => ?_) (fun hc => ?_)
        · rw [if_pos hc] at hf
          refine zr_iconst 0 dX10_isLeastOfRing_47 (by decide) ?_
          cases hf
          exact zr_lv [] rfl hj8
        · rw [if_neg hc] at hf
          refine zr_iconst 1 dX10_isLeastOfRing_43 (by decide) ?_
          refine zr_goto 48 dX10_isLeastOfRing_44 (by decide) ?_
          cases hf
          exact zr_lv [] rfl hj8
      · rw [if_neg hc] at hf
        refine zr_aload_n 0 dX10_isLeastOfRing_18 rfl ?_
        replace hf := zb1_s hf
        obtain ⟨v11, h12, hf⟩ := hf
        refine zr_get (zm_gR_g h12) zk9 (by decide) zl_515 dX10_isLeastOfRing_19 ?_
        refine zr_iload_n 3 dX10_isLeastOfRing_22 rfl ?_
        replace hf := zb1_s hf
        obtain ⟨v13, h14, hf⟩ := hf
        refine zr_iald h14 dX10_isLeastOfRing_23 ?_
        refine zr_istore_n [(3, .int v13), (0, .ref x0), (1, .int x1), (2, .int v2), (4, .int x4_4)] dX10_isLeastOfRing_24 (Nat.le_of_ble_eq_true rfl) rfl ?_
        refine zr_iload_n 0 dX10_isLeastOfRing_25 rfl ?_
        refine zr_iload_n 2 dX10_isLeastOfRing_26 rfl ?_
        refine zr_icmp_ge 32 dX10_isLeastOfRing_27 (by decide) (fun hc => ?_) (fun hc => ?_)
        · rw [if_pos hc] at hf
          refine zr_iinc (j := 4) (x4_4 + 1) [(4, .int (x4_4 + 1)), (3, .int v13), (0, .ref x0), (1, .int x1), (2, .int v2)] dX10_isLeastOfRing_32 rfl rfl (Nat.le_of_ble_eq_true rfl) rfl ?_
          refine zr_goto 12 dX10_isLeastOfRing_35 (by decide) ?_
          exact zr_lv [2, 3, 4, 1, 0] rfl (ih6 v13 (x4_4 + 1) hf)
        · rw [if_neg hc] at hf
          refine zr_iconst 0 dX10_isLeastOfRing_30 (by decide) ?_
          cases hf
          exact zr_zret rfl dX10_isLeastOfRing_31
  exact zr_lv [3, 4, 2, 1, 0] rfl (hL15 _ x1 0 hf)
theorem zl_520 : Cond.code yX10_isLeastOfRing cX10_isLeastOfRing 5 (some .boolean) ∈ zt := zt_at 1191 (by decide +kernel)
theorem zvs_X10_isLeastOfRing : zvS yX10_isLeastOfRing cX10_isLeastOfRing 5 (some .boolean) 2 := ⟨zl_520, zl_517, ⟨by decide +kernel, by decide +kernel, by decide +kernel⟩, by decide⟩
theorem zl_521 : Cond.methodLink RX10 15 yX10_isLeastOfRing ∈ zt := zt_at 1189 (by decide +kernel)
theorem zl_522 : Cond.static yX10_isLeastOfRing ∈ zt := zt_at 1190 (by decide +kernel)
theorem dX10_ringCount_0 : decode cX10_ringCount 0 = .ok (.iconst 0, 1) := by decide +kernel
theorem dX10_ringCount_1 : decode cX10_ringCount 1 = .ok (.istore_n 1, 1) := by decide +kernel
theorem dX10_ringCount_2 : decode cX10_ringCount 2 = .ok (.iconst 0, 1) := by decide +kernel
theorem dX10_ringCount_3 : decode cX10_ringCount 3 = .ok (.istore_n 2, 1) := by decide +kernel
theorem dX10_ringCount_4 : decode cX10_ringCount 4 = .ok (.iload_n 2, 1) := by decide +kernel
theorem dX10_ringCount_5 : decode cX10_ringCount 5 = .ok (.bipush 8, 2) := by decide +kernel
theorem dX10_ringCount_7 : decode cX10_ringCount 7 = .ok (.if_icmp .ge 20, 3) := by decide +kernel
theorem dX10_ringCount_10 : decode cX10_ringCount 10 = .ok (.aload_n 0, 1) := by decide +kernel
theorem dX10_ringCount_11 : decode cX10_ringCount 11 = .ok (.iload_n 2, 1) := by decide +kernel
theorem dX10_ringCount_12 : decode cX10_ringCount 12 = .ok (.invokestatic 15, 3) := by decide +kernel
theorem dX10_ringCount_15 : decode cX10_ringCount 15 = .ok (.ifCond .eq 6, 3) := by decide +kernel
theorem dX10_ringCount_18 : decode cX10_ringCount 18 = .ok (.iinc 1 1, 3) := by decide +kernel
theorem dX10_ringCount_21 : decode cX10_ringCount 21 = .ok (.iinc 2 1, 3) := by decide +kernel
theorem dX10_ringCount_24 : decode cX10_ringCount 24 = .ok (.goto (-20), 3) := by decide +kernel
theorem dX10_ringCount_27 : decode cX10_ringCount 27 = .ok (.iload_n 1, 1) := by decide +kernel
theorem dX10_ringCount_28 : decode cX10_ringCount 28 = .ok (.ireturn, 1) := by decide +kernel
def fX10_ringCount_l4 (μ : zM) (x0 : Nat) (F3 : Int32 → Int32 → Option (Int32)) (x1_1 : Int32) (x2_2 : Int32) : Option (Int32) :=
  if 8 ≤ x2_2 then (
  some x1_1)
  else (
  zb1 (fX10_isLeastOfRing μ x0 x2_2) fun v8 =>
  zb1 (if v8 = 0 then (
  some x1_1)
  else (
  some (x1_1 + 1))) fun x1_9 =>
  F3 x1_9 (x2_2 + 1))
def fX10_ringCount (μ : zM) (x0 : Nat) : Option (Int32) :=
  zb1 (zf2 (fX10_ringCount_l4 μ x0) zfu 0 0) fun x1_5 =>
  some x1_5
set_option maxHeartbeats 4000000 in
set_option maxRecDepth 100000 in
theorem cX10_ringCount_ok {μ : zM} {x0 : Nat} {r : Int32} (hf : fX10_ringCount μ x0 = some r) : zC yX10_ringCount cX10_ringCount 3 (some .int) 2 0 0 [.ref x0] μ (some (.int r)) μ := by
  unfold fX10_ringCount at hf
  refine zC.of (by decide) (Nat.le_of_ble_eq_true rfl) (fun K hin => ?_)
  clear hin
  show zz K cX10_ringCount (3, RX10, some .int, 2, 0, 0, some (.int r), μ) 0 0 0 [(0, .ref x0)] [] μ
  refine zr_iconst 0 dX10_ringCount_0 (by decide) ?_
  refine zr_istore_n [(1, .int 0), (0, .ref x0)] dX10_ringCount_1 (Nat.le_of_ble_eq_true rfl) rfl ?_
  refine zr_iconst 0 dX10_ringCount_2 (by decide) ?_
  refine zr_istore_n [(2, .int 0), (1, .int 0), (0, .ref x0)] dX10_ringCount_3 (Nat.le_of_ble_eq_true rfl) rfl ?_
  replace hf := zb1_s hf
  obtain ⟨x1_5, hg, hf⟩ := hf
  have hj6 : zz K cX10_ringCount (3, RX10, some .int, 2, 0, 0, some (.int r), μ) 0 0 27 [(1, .int x1_5)] [] μ := by
    refine zr_iload_n 0 dX10_ringCount_27 rfl ?_
    cases hf
    exact zr_iret dX10_ringCount_28
  clear hf
  have hf := hg
  clear hg
  have hL11 : ∀ (n : Nat) (x1_1 : Int32) (x2_2 : Int32), zf2 (fX10_ringCount_l4 μ x0) n x1_1 x2_2 = some x1_5 → zz K cX10_ringCount (3, RX10, some .int, 2, 0, 0, some (.int r), μ) 0 0 4 [(0, .ref x0), (1, .int x1_1), (2, .int x2_2)] [] μ := by
    intro n
    induction n with
    | zero => intro x1_1 x2_2 hf; cases hf
    | succ n ih4 =>
      intro x1_1 x2_2 hf
      replace hf := zf2_s hf
      generalize zf2 (fX10_ringCount_l4 μ x0) n = F3 at hf ih4
      unfold fX10_ringCount_l4 at hf
      refine zr_iload_n 2 dX10_ringCount_4 rfl ?_
      refine zr_bipush 8 dX10_ringCount_5 (by decide) ?_
      refine zr_icmp_ge 27 dX10_ringCount_7 (by decide) (fun hc => ?_) (fun hc => ?_)
      · rw [if_pos hc] at hf
        cases hf
        exact zr_lv [1] rfl hj6
      · rw [if_neg hc] at hf
        refine zr_aload_n 0 dX10_ringCount_10 rfl ?_
        refine zr_iload_n 2 dX10_ringCount_11 rfl ?_
        replace hf := zb1_s hf
        obtain ⟨v8, h7, hf⟩ := hf
        refine zr_callS [.ref x0, .int x2_2] (cX10_isLeastOfRing_ok h7) zvs_X10_isLeastOfRing zl_522 zl_521 rfl (Nat.le_of_ble_eq_true rfl) (Nat.le_of_ble_eq_true rfl) (Nat.le_of_ble_eq_true rfl) (Nat.le_of_ble_eq_true rfl) dX10_ringCount_12 rfl ?_
        replace hf := zb1_s hf
        obtain ⟨x1_9, hg, hf⟩ := hf
        have hj10 : zz K cX10_ringCount (3, RX10, some .int, 2, 0, 0, some (.int r), μ) 0 0 21 [(0, .ref x0), (1, .int x1_9), (2, .int x2_2)] [] μ := by
          refine zr_iinc (j := 2) (x2_2 + 1) [(2, .int (x2_2 + 1)), (0, .ref x0), (1, .int x1_9)] dX10_ringCount_21 rfl rfl (Nat.le_of_ble_eq_true rfl) rfl ?_
          refine zr_goto 4 dX10_ringCount_24 (by decide) ?_
          exact zr_lv [1, 2, 0] rfl (ih4 x1_9 (x2_2 + 1) hf)
        clear hf
        have hf := hg
        clear hg
        refine zr_if_eq 21 dX10_ringCount_15 (by decide) (fun hc => ?_) (fun hc => ?_)
        · rw [if_pos hc] at hf
          cases hf
          exact zr_lv [0, 1, 2] rfl hj10
        · rw [if_neg hc] at hf
          refine zr_iinc (j := 1) (x1_1 + 1) [(1, .int (x1_1 + 1)), (0, .ref x0), (2, .int x2_2)] dX10_ringCount_18 rfl rfl (Nat.le_of_ble_eq_true rfl) rfl ?_
          cases hf
          exact zr_lv [1, 0, 2] rfl hj10
  exact zr_lv [2, 1, 0] rfl (hL11 _ 0 0 hf)
theorem zl_523 : Cond.methodLink RX10 25 Lib.Math.max.name ∈ zt := zt_at 1196 (by decide +kernel)
theorem dX10_longestRing_0 : decode cX10_longestRing 0 = .ok (.iconst 0, 1) := by decide +kernel
theorem dX10_longestRing_1 : decode cX10_longestRing 1 = .ok (.istore_n 1, 1) := by decide +kernel
theorem dX10_longestRing_2 : decode cX10_longestRing 2 = .ok (.iconst 0, 1) := by decide +kernel
theorem dX10_longestRing_3 : decode cX10_longestRing 3 = .ok (.istore_n 2, 1) := by decide +kernel
theorem dX10_longestRing_4 : decode cX10_longestRing 4 = .ok (.iload_n 2, 1) := by decide +kernel
theorem dX10_longestRing_5 : decode cX10_longestRing 5 = .ok (.bipush 8, 2) := by decide +kernel
theorem dX10_longestRing_7 : decode cX10_longestRing 7 = .ok (.if_icmp .ge 20, 3) := by decide +kernel
theorem dX10_longestRing_10 : decode cX10_longestRing 10 = .ok (.iload_n 1, 1) := by decide +kernel
theorem dX10_longestRing_11 : decode cX10_longestRing 11 = .ok (.aload_n 0, 1) := by decide +kernel
theorem dX10_longestRing_12 : decode cX10_longestRing 12 = .ok (.iload_n 2, 1) := by decide +kernel
theorem dX10_longestRing_13 : decode cX10_longestRing 13 = .ok (.iload_n 2, 1) := by decide +kernel
theorem dX10_longestRing_14 : decode cX10_longestRing 14 = .ok (.invokestatic 21, 3) := by decide +kernel
theorem dX10_longestRing_17 : decode cX10_longestRing 17 = .ok (.invokestatic 25, 3) := by decide +kernel
theorem dX10_longestRing_20 : decode cX10_longestRing 20 = .ok (.istore_n 1, 1) := by decide +kernel
theorem dX10_longestRing_21 : decode cX10_longestRing 21 = .ok (.iinc 2 1, 3) := by decide +kernel
theorem dX10_longestRing_24 : decode cX10_longestRing 24 = .ok (.goto (-20), 3) := by decide +kernel
theorem dX10_longestRing_27 : decode cX10_longestRing 27 = .ok (.iload_n 1, 1) := by decide +kernel
theorem dX10_longestRing_28 : decode cX10_longestRing 28 = .ok (.ireturn, 1) := by decide +kernel
def fX10_longestRing_l4 (μ : zM) (x0 : Nat) (F3 : Int32 → Int32 → Option (Int32)) (x1_1 : Int32) (x2_2 : Int32) : Option (Int32) :=
  if 8 ≤ x2_2 then (
  some x1_1)
  else (
  zb1 (fX10_sayingsUntil μ x0 x2_2 x2_2) fun v8 =>
  F3 (if x1_1 < v8 then v8 else x1_1 : Int32) (x2_2 + 1))
def fX10_longestRing (μ : zM) (x0 : Nat) : Option (Int32) :=
  zb1 (zf2 (fX10_longestRing_l4 μ x0) zfu 0 0) fun x1_5 =>
  some x1_5
set_option maxHeartbeats 4000000 in
set_option maxRecDepth 100000 in
theorem cX10_longestRing_ok {μ : zM} {x0 : Nat} {r : Int32} (hf : fX10_longestRing μ x0 = some r) : zC yX10_longestRing cX10_longestRing 3 (some .int) 1 0 0 [.ref x0] μ (some (.int r)) μ := by
  unfold fX10_longestRing at hf
  refine zC.of (by decide) (Nat.le_of_ble_eq_true rfl) (fun K hin => ?_)
  clear hin
  show zz K cX10_longestRing (3, RX10, some .int, 1, 0, 0, some (.int r), μ) 0 0 0 [(0, .ref x0)] [] μ
  refine zr_iconst 0 dX10_longestRing_0 (by decide) ?_
  refine zr_istore_n [(1, .int 0), (0, .ref x0)] dX10_longestRing_1 (Nat.le_of_ble_eq_true rfl) rfl ?_
  refine zr_iconst 0 dX10_longestRing_2 (by decide) ?_
  refine zr_istore_n [(2, .int 0), (1, .int 0), (0, .ref x0)] dX10_longestRing_3 (Nat.le_of_ble_eq_true rfl) rfl ?_
  replace hf := zb1_s hf
  obtain ⟨x1_5, hg, hf⟩ := hf
  have hj6 : zz K cX10_longestRing (3, RX10, some .int, 1, 0, 0, some (.int r), μ) 0 0 27 [(1, .int x1_5)] [] μ := by
    refine zr_iload_n 0 dX10_longestRing_27 rfl ?_
    cases hf
    exact zr_iret dX10_longestRing_28
  clear hf
  have hf := hg
  clear hg
  have hL9 : ∀ (n : Nat) (x1_1 : Int32) (x2_2 : Int32), zf2 (fX10_longestRing_l4 μ x0) n x1_1 x2_2 = some x1_5 → zz K cX10_longestRing (3, RX10, some .int, 1, 0, 0, some (.int r), μ) 0 0 4 [(0, .ref x0), (1, .int x1_1), (2, .int x2_2)] [] μ := by
    intro n
    induction n with
    | zero => intro x1_1 x2_2 hf; cases hf
    | succ n ih4 =>
      intro x1_1 x2_2 hf
      replace hf := zf2_s hf
      generalize zf2 (fX10_longestRing_l4 μ x0) n = F3 at hf ih4
      unfold fX10_longestRing_l4 at hf
      refine zr_iload_n 2 dX10_longestRing_4 rfl ?_
      refine zr_bipush 8 dX10_longestRing_5 (by decide) ?_
      refine zr_icmp_ge 27 dX10_longestRing_7 (by decide) (fun hc => ?_) (fun hc => ?_)
      · rw [if_pos hc] at hf
        cases hf
        exact zr_lv [1] rfl hj6
      · rw [if_neg hc] at hf
        refine zr_iload_n 1 dX10_longestRing_10 rfl ?_
        refine zr_aload_n 0 dX10_longestRing_11 rfl ?_
        refine zr_iload_n 2 dX10_longestRing_12 rfl ?_
        refine zr_iload_n 2 dX10_longestRing_13 rfl ?_
        replace hf := zb1_s hf
        obtain ⟨v8, h7, hf⟩ := hf
        refine zr_callS [.ref x0, .int x2_2, .int x2_2] (cX10_sayingsUntil_ok h7) zvs_X10_sayingsUntil zl_519 zl_518 rfl (Nat.le_of_ble_eq_true rfl) (Nat.le_of_ble_eq_true rfl) (Nat.le_of_ble_eq_true rfl) (Nat.le_of_ble_eq_true rfl) dX10_longestRing_14 rfl ?_
        refine zr_mmax zl_523 zl_55 zl_11 zl_56 (Nat.le_of_ble_eq_true rfl) (Nat.le_of_ble_eq_true rfl) (Nat.le_of_ble_eq_true rfl) (Nat.le_of_ble_eq_true rfl) dX10_longestRing_17 ?_
        refine zr_istore_n [(1, .int (if x1_1 < v8 then v8 else x1_1 : Int32)), (0, .ref x0), (2, .int x2_2)] dX10_longestRing_20 (Nat.le_of_ble_eq_true rfl) rfl ?_
        refine zr_iinc (j := 2) (x2_2 + 1) [(2, .int (x2_2 + 1)), (1, .int (if x1_1 < v8 then v8 else x1_1 : Int32)), (0, .ref x0)] dX10_longestRing_21 rfl rfl (Nat.le_of_ble_eq_true rfl) rfl ?_
        refine zr_goto 4 dX10_longestRing_24 (by decide) ?_
        exact zr_lv [2, 1, 0] rfl (ih4 (if x1_1 < v8 then v8 else x1_1 : Int32) (x2_2 + 1) hf)
  exact zr_lv [2, 1, 0] rfl (hL9 _ 0 0 hf)
theorem dX10_wordsInRings_0 : decode cX10_wordsInRings 0 = .ok (.iconst 0, 1) := by decide +kernel
theorem dX10_wordsInRings_1 : decode cX10_wordsInRings 1 = .ok (.istore_n 1, 1) := by decide +kernel
theorem dX10_wordsInRings_2 : decode cX10_wordsInRings 2 = .ok (.iconst 0, 1) := by decide +kernel
theorem dX10_wordsInRings_3 : decode cX10_wordsInRings 3 = .ok (.istore_n 2, 1) := by decide +kernel
theorem dX10_wordsInRings_4 : decode cX10_wordsInRings 4 = .ok (.iload_n 2, 1) := by decide +kernel
theorem dX10_wordsInRings_5 : decode cX10_wordsInRings 5 = .ok (.bipush 8, 2) := by decide +kernel
theorem dX10_wordsInRings_7 : decode cX10_wordsInRings 7 = .ok (.if_icmp .ge 25, 3) := by decide +kernel
theorem dX10_wordsInRings_10 : decode cX10_wordsInRings 10 = .ok (.aload_n 0, 1) := by decide +kernel
theorem dX10_wordsInRings_11 : decode cX10_wordsInRings 11 = .ok (.iload_n 2, 1) := by decide +kernel
theorem dX10_wordsInRings_12 : decode cX10_wordsInRings 12 = .ok (.iload_n 2, 1) := by decide +kernel
theorem dX10_wordsInRings_13 : decode cX10_wordsInRings 13 = .ok (.invokestatic 21, 3) := by decide +kernel
theorem dX10_wordsInRings_16 : decode cX10_wordsInRings 16 = .ok (.iconst (-1), 1) := by decide +kernel
theorem dX10_wordsInRings_17 : decode cX10_wordsInRings 17 = .ok (.if_icmp .eq 9, 3) := by decide +kernel
theorem dX10_wordsInRings_20 : decode cX10_wordsInRings 20 = .ok (.iload_n 1, 1) := by decide +kernel
theorem dX10_wordsInRings_21 : decode cX10_wordsInRings 21 = .ok (.iconst 1, 1) := by decide +kernel
theorem dX10_wordsInRings_22 : decode cX10_wordsInRings 22 = .ok (.iload_n 2, 1) := by decide +kernel
theorem dX10_wordsInRings_23 : decode cX10_wordsInRings 23 = .ok (.ishl, 1) := by decide +kernel
theorem dX10_wordsInRings_24 : decode cX10_wordsInRings 24 = .ok (.ior, 1) := by decide +kernel
theorem dX10_wordsInRings_25 : decode cX10_wordsInRings 25 = .ok (.istore_n 1, 1) := by decide +kernel
theorem dX10_wordsInRings_26 : decode cX10_wordsInRings 26 = .ok (.iinc 2 1, 3) := by decide +kernel
theorem dX10_wordsInRings_29 : decode cX10_wordsInRings 29 = .ok (.goto (-25), 3) := by decide +kernel
theorem dX10_wordsInRings_32 : decode cX10_wordsInRings 32 = .ok (.iload_n 1, 1) := by decide +kernel
theorem dX10_wordsInRings_33 : decode cX10_wordsInRings 33 = .ok (.ireturn, 1) := by decide +kernel
def fX10_wordsInRings_l4 (μ : zM) (x0 : Nat) (F3 : Int32 → Int32 → Option (Int32)) (x1_1 : Int32) (x2_2 : Int32) : Option (Int32) :=
  if 8 ≤ x2_2 then (
  some x1_1)
  else (
  zb1 (fX10_sayingsUntil μ x0 x2_2 x2_2) fun v8 =>
  zb1 (if v8 = (-1) then (
  some x1_1)
  else (
  some (x1_1 ||| (1 <<< (x2_2 &&& 31))))) fun x1_9 =>
  F3 x1_9 (x2_2 + 1))
def fX10_wordsInRings (μ : zM) (x0 : Nat) : Option (Int32) :=
  zb1 (zf2 (fX10_wordsInRings_l4 μ x0) zfu 0 0) fun x1_5 =>
  some x1_5
set_option maxHeartbeats 4000000 in
set_option maxRecDepth 100000 in
theorem cX10_wordsInRings_ok {μ : zM} {x0 : Nat} {r : Int32} (hf : fX10_wordsInRings μ x0 = some r) : zC yX10_wordsInRings cX10_wordsInRings 3 (some .int) 1 0 0 [.ref x0] μ (some (.int r)) μ := by
  unfold fX10_wordsInRings at hf
  refine zC.of (by decide) (Nat.le_of_ble_eq_true rfl) (fun K hin => ?_)
  clear hin
  show zz K cX10_wordsInRings (3, RX10, some .int, 1, 0, 0, some (.int r), μ) 0 0 0 [(0, .ref x0)] [] μ
  refine zr_iconst 0 dX10_wordsInRings_0 (by decide) ?_
  refine zr_istore_n [(1, .int 0), (0, .ref x0)] dX10_wordsInRings_1 (Nat.le_of_ble_eq_true rfl) rfl ?_
  refine zr_iconst 0 dX10_wordsInRings_2 (by decide) ?_
  refine zr_istore_n [(2, .int 0), (1, .int 0), (0, .ref x0)] dX10_wordsInRings_3 (Nat.le_of_ble_eq_true rfl) rfl ?_
  replace hf := zb1_s hf
  obtain ⟨x1_5, hg, hf⟩ := hf
  have hj6 : zz K cX10_wordsInRings (3, RX10, some .int, 1, 0, 0, some (.int r), μ) 0 0 32 [(1, .int x1_5)] [] μ := by
    refine zr_iload_n 0 dX10_wordsInRings_32 rfl ?_
    cases hf
    exact zr_iret dX10_wordsInRings_33
  clear hf
  have hf := hg
  clear hg
  have hL11 : ∀ (n : Nat) (x1_1 : Int32) (x2_2 : Int32), zf2 (fX10_wordsInRings_l4 μ x0) n x1_1 x2_2 = some x1_5 → zz K cX10_wordsInRings (3, RX10, some .int, 1, 0, 0, some (.int r), μ) 0 0 4 [(0, .ref x0), (1, .int x1_1), (2, .int x2_2)] [] μ := by
    intro n
    induction n with
    | zero => intro x1_1 x2_2 hf; cases hf
    | succ n ih4 =>
      intro x1_1 x2_2 hf
      replace hf := zf2_s hf
      generalize zf2 (fX10_wordsInRings_l4 μ x0) n = F3 at hf ih4
      unfold fX10_wordsInRings_l4 at hf
      refine zr_iload_n 2 dX10_wordsInRings_4 rfl ?_
      refine zr_bipush 8 dX10_wordsInRings_5 (by decide) ?_
      refine zr_icmp_ge 32 dX10_wordsInRings_7 (by decide) (fun hc => ?_) (fun hc => ?_)
      · rw [if_pos hc] at hf
        cases hf
        exact zr_lv [1] rfl hj6
      · rw [if_neg hc] at hf
        refine zr_aload_n 0 dX10_wordsInRings_10 rfl ?_
        refine zr_iload_n 2 dX10_wordsInRings_11 rfl ?_
        refine zr_iload_n 2 dX10_wordsInRings_12 rfl ?_
        replace hf := zb1_s hf
        obtain ⟨v8, h7, hf⟩ := hf
        refine zr_callS [.ref x0, .int x2_2, .int x2_2] (cX10_sayingsUntil_ok h7) zvs_X10_sayingsUntil zl_519 zl_518 rfl (Nat.le_of_ble_eq_true rfl) (Nat.le_of_ble_eq_true rfl) (Nat.le_of_ble_eq_true rfl) (Nat.le_of_ble_eq_true rfl) dX10_wordsInRings_13 rfl ?_
        refine zr_iconst (-1) dX10_wordsInRings_16 (by decide) ?_
        replace hf := zb1_s hf
        obtain ⟨x1_9, hg, hf⟩ := hf
        have hj10 : zz K cX10_wordsInRings (3, RX10, some .int, 1, 0, 0, some (.int r), μ) 0 0 26 [(0, .ref x0), (1, .int x1_9), (2, .int x2_2)] [] μ := by
          refine zr_iinc (j := 2) (x2_2 + 1) [(2, .int (x2_2 + 1)), (0, .ref x0), (1, .int x1_9)] dX10_wordsInRings_26 rfl rfl (Nat.le_of_ble_eq_true rfl) rfl ?_
          refine zr_goto 4 dX10_wordsInRings_29 (by decide) ?_
          exact zr_lv [1, 2, 0] rfl (ih4 x1_9 (x2_2 + 1) hf)
        clear hf
        have hf := hg
        clear hg
        refine zr_icmp_eq 26 dX10_wordsInRings_17 (by decide) (fun hc => ?_) (fun hc => ?_)
        · rw [if_pos hc] at hf
          cases hf
          exact zr_lv [0, 1, 2] rfl hj10
        · rw [if_neg hc] at hf
          refine zr_iload_n 1 dX10_wordsInRings_20 rfl ?_
          refine zr_iconst 1 dX10_wordsInRings_21 (by decide) ?_
          refine zr_iload_n 2 dX10_wordsInRings_22 rfl ?_
          refine zr_ishl dX10_wordsInRings_23 ?_
          refine zr_ior dX10_wordsInRings_24 ?_
          refine zr_istore_n [(1, .int (x1_1 ||| (1 <<< (x2_2 &&& 31)))), (0, .ref x0), (2, .int x2_2)] dX10_wordsInRings_25 (Nat.le_of_ble_eq_true rfl) rfl ?_
          cases hf
          exact zr_lv [1, 0, 2] rfl hj10
  exact zr_lv [2, 1, 0] rfl (hL11 _ 0 0 hf)
theorem dX10_weightFrom_0 : decode cX10_weightFrom 0 = .ok (.iconst 0, 1) := by decide +kernel
theorem dX10_weightFrom_1 : decode cX10_weightFrom 1 = .ok (.istore_n 2, 1) := by decide +kernel
theorem dX10_weightFrom_2 : decode cX10_weightFrom 2 = .ok (.iload_n 1, 1) := by decide +kernel
theorem dX10_weightFrom_3 : decode cX10_weightFrom 3 = .ok (.istore_n 3, 1) := by decide +kernel
theorem dX10_weightFrom_4 : decode cX10_weightFrom 4 = .ok (.iload_n 3, 1) := by decide +kernel
theorem dX10_weightFrom_5 : decode cX10_weightFrom 5 = .ok (.bipush 8, 2) := by decide +kernel
theorem dX10_weightFrom_7 : decode cX10_weightFrom 7 = .ok (.if_icmp .ge 15, 3) := by decide +kernel
theorem dX10_weightFrom_10 : decode cX10_weightFrom 10 = .ok (.iload_n 2, 1) := by decide +kernel
theorem dX10_weightFrom_11 : decode cX10_weightFrom 11 = .ok (.aload_n 0, 1) := by decide +kernel
theorem dX10_weightFrom_12 : decode cX10_weightFrom 12 = .ok (.iload_n 3, 1) := by decide +kernel
theorem dX10_weightFrom_13 : decode cX10_weightFrom 13 = .ok (.iaload, 1) := by decide +kernel
theorem dX10_weightFrom_14 : decode cX10_weightFrom 14 = .ok (.iadd, 1) := by decide +kernel
theorem dX10_weightFrom_15 : decode cX10_weightFrom 15 = .ok (.istore_n 2, 1) := by decide +kernel
theorem dX10_weightFrom_16 : decode cX10_weightFrom 16 = .ok (.iinc 3 1, 3) := by decide +kernel
theorem dX10_weightFrom_19 : decode cX10_weightFrom 19 = .ok (.goto (-15), 3) := by decide +kernel
theorem dX10_weightFrom_22 : decode cX10_weightFrom 22 = .ok (.iload_n 2, 1) := by decide +kernel
theorem dX10_weightFrom_23 : decode cX10_weightFrom 23 = .ok (.ireturn, 1) := by decide +kernel
def fX10_weightFrom_l4 (μ : zM) (x0 : Nat) (F3 : Int32 → Int32 → Option (Int32)) (x2_1 : Int32) (x3_2 : Int32) : Option (Int32) :=
  if 8 ≤ x3_2 then (
  some x2_1)
  else (
  zb1 (zm_aI μ 0 x0 x3_2) fun v7 =>
  F3 (x2_1 + v7) (x3_2 + 1))
def fX10_weightFrom (μ : zM) (x0 : Nat) (x1 : Int32) : Option (Int32) :=
  zb1 (zf2 (fX10_weightFrom_l4 μ x0) zfu 0 x1) fun x2_5 =>
  some x2_5
set_option maxHeartbeats 4000000 in
set_option maxRecDepth 100000 in
theorem cX10_weightFrom_ok {μ : zM} {x0 : Nat} {x1 : Int32} {r : Int32} (hf : fX10_weightFrom μ x0 x1 = some r) : zC yX10_weightFrom cX10_weightFrom 4 (some .int) 0 0 0 [.ref x0, .int x1] μ (some (.int r)) μ := by
  unfold fX10_weightFrom at hf
  refine zC.of (by decide) (Nat.le_of_ble_eq_true rfl) (fun K hin => ?_)
  clear hin
  show zz K cX10_weightFrom (4, RX10, some .int, 0, 0, 0, some (.int r), μ) 0 0 0 [(0, .ref x0), (1, .int x1)] [] μ
  refine zr_iconst 0 dX10_weightFrom_0 (by decide) ?_
  refine zr_istore_n [(2, .int 0), (0, .ref x0), (1, .int x1)] dX10_weightFrom_1 (Nat.le_of_ble_eq_true rfl) rfl ?_
  refine zr_iload_n 2 dX10_weightFrom_2 rfl ?_
  refine zr_istore_n [(3, .int x1), (2, .int 0), (0, .ref x0), (1, .int x1)] dX10_weightFrom_3 (Nat.le_of_ble_eq_true rfl) rfl ?_
  replace hf := zb1_s hf
  obtain ⟨x2_5, hg, hf⟩ := hf
  have hj6 : zz K cX10_weightFrom (4, RX10, some .int, 0, 0, 0, some (.int r), μ) 0 0 22 [(2, .int x2_5)] [] μ := by
    refine zr_iload_n 0 dX10_weightFrom_22 rfl ?_
    cases hf
    exact zr_iret dX10_weightFrom_23
  clear hf
  have hf := hg
  clear hg
  have hL9 : ∀ (n : Nat) (x2_1 : Int32) (x3_2 : Int32), zf2 (fX10_weightFrom_l4 μ x0) n x2_1 x3_2 = some x2_5 → zz K cX10_weightFrom (4, RX10, some .int, 0, 0, 0, some (.int r), μ) 0 0 4 [(0, .ref x0), (2, .int x2_1), (3, .int x3_2)] [] μ := by
    intro n
    induction n with
    | zero => intro x2_1 x3_2 hf; cases hf
    | succ n ih4 =>
      intro x2_1 x3_2 hf
      replace hf := zf2_s hf
      generalize zf2 (fX10_weightFrom_l4 μ x0) n = F3 at hf ih4
      unfold fX10_weightFrom_l4 at hf
      refine zr_iload_n 2 dX10_weightFrom_4 rfl ?_
      refine zr_bipush 8 dX10_weightFrom_5 (by decide) ?_
      refine zr_icmp_ge 22 dX10_weightFrom_7 (by decide) (fun hc => ?_) (fun hc => ?_)
      · rw [if_pos hc] at hf
        cases hf
        exact zr_lv [1] rfl hj6
      · rw [if_neg hc] at hf
        refine zr_iload_n 1 dX10_weightFrom_10 rfl ?_
        refine zr_aload_n 0 dX10_weightFrom_11 rfl ?_
        refine zr_iload_n 2 dX10_weightFrom_12 rfl ?_
        replace hf := zb1_s hf
        obtain ⟨v7, h8, hf⟩ := hf
        refine zr_iald h8 dX10_weightFrom_13 ?_
        refine zr_iadd dX10_weightFrom_14 ?_
        refine zr_istore_n [(2, .int (x2_1 + v7)), (0, .ref x0), (3, .int x3_2)] dX10_weightFrom_15 (Nat.le_of_ble_eq_true rfl) rfl ?_
        refine zr_iinc (j := 2) (x3_2 + 1) [(3, .int (x3_2 + 1)), (2, .int (x2_1 + v7)), (0, .ref x0)] dX10_weightFrom_16 rfl rfl (Nat.le_of_ble_eq_true rfl) rfl ?_
        refine zr_goto 4 dX10_weightFrom_19 (by decide) ?_
        exact zr_lv [2, 1, 0] rfl (ih4 (x2_1 + v7) (x3_2 + 1) hf)
  exact zr_lv [2, 1, 0] rfl (hL9 _ 0 x1 hf)
theorem zl_524 : Cond.fieldLink RX10 31 "TwoEchoes$Valley" "weight" "[I" ∈ zt := zt_at 185 (by decide +kernel)
theorem dX10_weightOfAll_0 : decode cX10_weightOfAll 0 = .ok (.lconst 0, 1) := by decide +kernel
theorem dX10_weightOfAll_1 : decode cX10_weightOfAll 1 = .ok (.lstore_n 1, 1) := by decide +kernel
theorem dX10_weightOfAll_2 : decode cX10_weightOfAll 2 = .ok (.iconst 0, 1) := by decide +kernel
theorem dX10_weightOfAll_3 : decode cX10_weightOfAll 3 = .ok (.istore_n 3, 1) := by decide +kernel
theorem dX10_weightOfAll_4 : decode cX10_weightOfAll 4 = .ok (.iload_n 3, 1) := by decide +kernel
theorem dX10_weightOfAll_5 : decode cX10_weightOfAll 5 = .ok (.bipush 8, 2) := by decide +kernel
theorem dX10_weightOfAll_7 : decode cX10_weightOfAll 7 = .ok (.if_icmp .ge 19, 3) := by decide +kernel
theorem dX10_weightOfAll_10 : decode cX10_weightOfAll 10 = .ok (.lload_n 1, 1) := by decide +kernel
theorem dX10_weightOfAll_11 : decode cX10_weightOfAll 11 = .ok (.aload_n 0, 1) := by decide +kernel
theorem dX10_weightOfAll_12 : decode cX10_weightOfAll 12 = .ok (.getfield 31, 3) := by decide +kernel
theorem dX10_weightOfAll_15 : decode cX10_weightOfAll 15 = .ok (.iload_n 3, 1) := by decide +kernel
theorem dX10_weightOfAll_16 : decode cX10_weightOfAll 16 = .ok (.iaload, 1) := by decide +kernel
theorem dX10_weightOfAll_17 : decode cX10_weightOfAll 17 = .ok (.i2l, 1) := by decide +kernel
theorem dX10_weightOfAll_18 : decode cX10_weightOfAll 18 = .ok (.ladd, 1) := by decide +kernel
theorem dX10_weightOfAll_19 : decode cX10_weightOfAll 19 = .ok (.lstore_n 1, 1) := by decide +kernel
theorem dX10_weightOfAll_20 : decode cX10_weightOfAll 20 = .ok (.iinc 3 1, 3) := by decide +kernel
theorem dX10_weightOfAll_23 : decode cX10_weightOfAll 23 = .ok (.goto (-19), 3) := by decide +kernel
theorem dX10_weightOfAll_26 : decode cX10_weightOfAll 26 = .ok (.lload_n 1, 1) := by decide +kernel
theorem dX10_weightOfAll_27 : decode cX10_weightOfAll 27 = .ok (.lreturn, 1) := by decide +kernel
def fX10_weightOfAll_l4 (μ : zM) (x0 : Nat) (F3 : Int64 → Int32 → Option (Int64)) (x1_1 : Int64) (x3_2 : Int32) : Option (Int64) :=
  if 8 ≤ x3_2 then (
  some x1_1)
  else (
  zb1 (zm_gR μ 9 x0 3) fun v7 =>
  zb1 (zm_aI μ 0 v7 x3_2) fun v9 =>
  F3 (x1_1 + ((v9 : Int32).toInt64)) (x3_2 + 1))
def fX10_weightOfAll (μ : zM) (x0 : Nat) : Option (Int64) :=
  zb1 (zf2 (fX10_weightOfAll_l4 μ x0) zfu 0 0) fun x1_5 =>
  some x1_5
set_option maxHeartbeats 4000000 in
set_option maxRecDepth 100000 in
theorem cX10_weightOfAll_ok {μ : zM} {x0 : Nat} {r : Int64} (hf : fX10_weightOfAll μ x0 = some r) : zC yX10_weightOfAll cX10_weightOfAll 4 (some .long) 0 0 0 [.ref x0] μ (some (.long r)) μ := by
  unfold fX10_weightOfAll at hf
  refine zC.of (by decide) (Nat.le_of_ble_eq_true rfl) (fun K hin => ?_)
  clear hin
  show zz K cX10_weightOfAll (4, RX10, some .long, 0, 0, 0, some (.long r), μ) 0 0 0 [(0, .ref x0)] [] μ
  refine zr_lconst 0 dX10_weightOfAll_0 (by decide) ?_
  refine zr_lstore_n [(1, .long 0), (0, .ref x0)] dX10_weightOfAll_1 (Nat.le_of_ble_eq_true rfl) rfl ?_
  refine zr_iconst 0 dX10_weightOfAll_2 (by decide) ?_
  refine zr_istore_n [(3, .int 0), (1, .long 0), (0, .ref x0)] dX10_weightOfAll_3 (Nat.le_of_ble_eq_true rfl) rfl ?_
  replace hf := zb1_s hf
  obtain ⟨x1_5, hg, hf⟩ := hf
  have hj6 : zz K cX10_weightOfAll (4, RX10, some .long, 0, 0, 0, some (.long r), μ) 0 0 26 [(1, .long x1_5)] [] μ := by
    refine zr_lload_n 0 dX10_weightOfAll_26 rfl ?_
    cases hf
    exact zr_lret dX10_weightOfAll_27
  clear hf
  have hf := hg
  clear hg
  have hL11 : ∀ (n : Nat) (x1_1 : Int64) (x3_2 : Int32), zf2 (fX10_weightOfAll_l4 μ x0) n x1_1 x3_2 = some x1_5 → zz K cX10_weightOfAll (4, RX10, some .long, 0, 0, 0, some (.long r), μ) 0 0 4 [(0, .ref x0), (1, .long x1_1), (3, .int x3_2)] [] μ := by
    intro n
    induction n with
    | zero => intro x1_1 x3_2 hf; cases hf
    | succ n ih4 =>
      intro x1_1 x3_2 hf
      replace hf := zf2_s hf
      generalize zf2 (fX10_weightOfAll_l4 μ x0) n = F3 at hf ih4
      unfold fX10_weightOfAll_l4 at hf
      refine zr_iload_n 2 dX10_weightOfAll_4 rfl ?_
      refine zr_bipush 8 dX10_weightOfAll_5 (by decide) ?_
      refine zr_icmp_ge 26 dX10_weightOfAll_7 (by decide) (fun hc => ?_) (fun hc => ?_)
      · rw [if_pos hc] at hf
        cases hf
        exact zr_lv [1] rfl hj6
      · rw [if_neg hc] at hf
        refine zr_lload_n 1 dX10_weightOfAll_10 rfl ?_
        refine zr_aload_n 0 dX10_weightOfAll_11 rfl ?_
        replace hf := zb1_s hf
        obtain ⟨v7, h8, hf⟩ := hf
        refine zr_get (zm_gR_g h8) zk9 (by decide) zl_524 dX10_weightOfAll_12 ?_
        refine zr_iload_n 2 dX10_weightOfAll_15 rfl ?_
        replace hf := zb1_s hf
        obtain ⟨v9, h10, hf⟩ := hf
        refine zr_iald h10 dX10_weightOfAll_16 ?_
        refine zr_i2l dX10_weightOfAll_17 ?_
        refine zr_ladd dX10_weightOfAll_18 ?_
        refine zr_lstore_n [(1, .long (x1_1 + ((v9 : Int32).toInt64))), (0, .ref x0), (3, .int x3_2)] dX10_weightOfAll_19 (Nat.le_of_ble_eq_true rfl) rfl ?_
        refine zr_iinc (j := 2) (x3_2 + 1) [(3, .int (x3_2 + 1)), (1, .long (x1_1 + ((v9 : Int32).toInt64))), (0, .ref x0)] dX10_weightOfAll_20 rfl rfl (Nat.le_of_ble_eq_true rfl) rfl ?_
        refine zr_goto 4 dX10_weightOfAll_23 (by decide) ?_
        exact zr_lv [2, 1, 0] rfl (ih4 (x1_1 + ((v9 : Int32).toInt64)) (x3_2 + 1) hf)
  exact zr_lv [2, 1, 0] rfl (hL11 _ 0 0 hf)
theorem dX10_weightOfSelfSame_0 : decode cX10_weightOfSelfSame 0 = .ok (.lconst 0, 1) := by decide +kernel
theorem dX10_weightOfSelfSame_1 : decode cX10_weightOfSelfSame 1 = .ok (.lstore_n 1, 1) := by decide +kernel
theorem dX10_weightOfSelfSame_2 : decode cX10_weightOfSelfSame 2 = .ok (.iconst 0, 1) := by decide +kernel
theorem dX10_weightOfSelfSame_3 : decode cX10_weightOfSelfSame 3 = .ok (.istore_n 3, 1) := by decide +kernel
theorem dX10_weightOfSelfSame_4 : decode cX10_weightOfSelfSame 4 = .ok (.iload_n 3, 1) := by decide +kernel
theorem dX10_weightOfSelfSame_5 : decode cX10_weightOfSelfSame 5 = .ok (.bipush 8, 2) := by decide +kernel
theorem dX10_weightOfSelfSame_7 : decode cX10_weightOfSelfSame 7 = .ok (.if_icmp .ge 33, 3) := by decide +kernel
theorem dX10_weightOfSelfSame_10 : decode cX10_weightOfSelfSame 10 = .ok (.lload_n 1, 1) := by decide +kernel
theorem dX10_weightOfSelfSame_11 : decode cX10_weightOfSelfSame 11 = .ok (.aload_n 0, 1) := by decide +kernel
theorem dX10_weightOfSelfSame_12 : decode cX10_weightOfSelfSame 12 = .ok (.getfield 9, 3) := by decide +kernel
theorem dX10_weightOfSelfSame_15 : decode cX10_weightOfSelfSame 15 = .ok (.iload_n 3, 1) := by decide +kernel
theorem dX10_weightOfSelfSame_16 : decode cX10_weightOfSelfSame 16 = .ok (.iaload, 1) := by decide +kernel
theorem dX10_weightOfSelfSame_17 : decode cX10_weightOfSelfSame 17 = .ok (.iload_n 3, 1) := by decide +kernel
theorem dX10_weightOfSelfSame_18 : decode cX10_weightOfSelfSame 18 = .ok (.if_icmp .ne 13, 3) := by decide +kernel
theorem dX10_weightOfSelfSame_21 : decode cX10_weightOfSelfSame 21 = .ok (.aload_n 0, 1) := by decide +kernel
theorem dX10_weightOfSelfSame_22 : decode cX10_weightOfSelfSame 22 = .ok (.getfield 31, 3) := by decide +kernel
theorem dX10_weightOfSelfSame_25 : decode cX10_weightOfSelfSame 25 = .ok (.iload_n 3, 1) := by decide +kernel
theorem dX10_weightOfSelfSame_26 : decode cX10_weightOfSelfSame 26 = .ok (.iaload, 1) := by decide +kernel
theorem dX10_weightOfSelfSame_27 : decode cX10_weightOfSelfSame 27 = .ok (.i2l, 1) := by decide +kernel
theorem dX10_weightOfSelfSame_28 : decode cX10_weightOfSelfSame 28 = .ok (.goto 4, 3) := by decide +kernel
theorem dX10_weightOfSelfSame_31 : decode cX10_weightOfSelfSame 31 = .ok (.lconst 0, 1) := by decide +kernel
theorem dX10_weightOfSelfSame_32 : decode cX10_weightOfSelfSame 32 = .ok (.ladd, 1) := by decide +kernel
theorem dX10_weightOfSelfSame_33 : decode cX10_weightOfSelfSame 33 = .ok (.lstore_n 1, 1) := by decide +kernel
theorem dX10_weightOfSelfSame_34 : decode cX10_weightOfSelfSame 34 = .ok (.iinc 3 1, 3) := by decide +kernel
theorem dX10_weightOfSelfSame_37 : decode cX10_weightOfSelfSame 37 = .ok (.goto (-33), 3) := by decide +kernel
theorem dX10_weightOfSelfSame_40 : decode cX10_weightOfSelfSame 40 = .ok (.lload_n 1, 1) := by decide +kernel
theorem dX10_weightOfSelfSame_41 : decode cX10_weightOfSelfSame 41 = .ok (.lreturn, 1) := by decide +kernel
def fX10_weightOfSelfSame_l4 (μ : zM) (x0 : Nat) (F3 : Int64 → Int32 → Option (Int64)) (x1_1 : Int64) (x3_2 : Int32) : Option (Int64) :=
  if 8 ≤ x3_2 then (
  some x1_1)
  else (
  zb1 (zm_gR μ 9 x0 1) fun v7 =>
  zb1 (zm_aI μ 0 v7 x3_2) fun v9 =>
  zb1 (if v9 = x3_2 then (
  zb1 (zm_gR μ 9 x0 3) fun v13 =>
  zb1 (zm_aI μ 0 v13 x3_2) fun v15 =>
  some ((v15 : Int32).toInt64))
  else (
  some 0)) fun s11 =>
  F3 (x1_1 + s11) (x3_2 + 1))
def fX10_weightOfSelfSame (μ : zM) (x0 : Nat) : Option (Int64) :=
  zb1 (zf2 (fX10_weightOfSelfSame_l4 μ x0) zfu 0 0) fun x1_5 =>
  some x1_5
set_option maxHeartbeats 4000000 in
set_option maxRecDepth 100000 in
theorem cX10_weightOfSelfSame_ok {μ : zM} {x0 : Nat} {r : Int64} (hf : fX10_weightOfSelfSame μ x0 = some r) : zC yX10_weightOfSelfSame cX10_weightOfSelfSame 4 (some .long) 0 0 0 [.ref x0] μ (some (.long r)) μ := by
  unfold fX10_weightOfSelfSame at hf
  refine zC.of (by decide) (Nat.le_of_ble_eq_true rfl) (fun K hin => ?_)
  clear hin
  show zz K cX10_weightOfSelfSame (4, RX10, some .long, 0, 0, 0, some (.long r), μ) 0 0 0 [(0, .ref x0)] [] μ
  refine zr_lconst 0 dX10_weightOfSelfSame_0 (by decide) ?_
  refine zr_lstore_n [(1, .long 0), (0, .ref x0)] dX10_weightOfSelfSame_1 (Nat.le_of_ble_eq_true rfl) rfl ?_
  refine zr_iconst 0 dX10_weightOfSelfSame_2 (by decide) ?_
  refine zr_istore_n [(3, .int 0), (1, .long 0), (0, .ref x0)] dX10_weightOfSelfSame_3 (Nat.le_of_ble_eq_true rfl) rfl ?_
  replace hf := zb1_s hf
  obtain ⟨x1_5, hg, hf⟩ := hf
  have hj6 : zz K cX10_weightOfSelfSame (4, RX10, some .long, 0, 0, 0, some (.long r), μ) 0 0 40 [(1, .long x1_5)] [] μ := by
    refine zr_lload_n 0 dX10_weightOfSelfSame_40 rfl ?_
    cases hf
    exact zr_lret dX10_weightOfSelfSame_41
  clear hf
  have hf := hg
  clear hg
  have hL17 : ∀ (n : Nat) (x1_1 : Int64) (x3_2 : Int32), zf2 (fX10_weightOfSelfSame_l4 μ x0) n x1_1 x3_2 = some x1_5 → zz K cX10_weightOfSelfSame (4, RX10, some .long, 0, 0, 0, some (.long r), μ) 0 0 4 [(0, .ref x0), (1, .long x1_1), (3, .int x3_2)] [] μ := by
    intro n
    induction n with
    | zero => intro x1_1 x3_2 hf; cases hf
    | succ n ih4 =>
      intro x1_1 x3_2 hf
      replace hf := zf2_s hf
      generalize zf2 (fX10_weightOfSelfSame_l4 μ x0) n = F3 at hf ih4
      unfold fX10_weightOfSelfSame_l4 at hf
      refine zr_iload_n 2 dX10_weightOfSelfSame_4 rfl ?_
      refine zr_bipush 8 dX10_weightOfSelfSame_5 (by decide) ?_
      refine zr_icmp_ge 40 dX10_weightOfSelfSame_7 (by decide) (fun hc => ?_) (fun hc => ?_)
      · rw [if_pos hc] at hf
        cases hf
        exact zr_lv [1] rfl hj6
      · rw [if_neg hc] at hf
        refine zr_lload_n 1 dX10_weightOfSelfSame_10 rfl ?_
        refine zr_aload_n 0 dX10_weightOfSelfSame_11 rfl ?_
        replace hf := zb1_s hf
        obtain ⟨v7, h8, hf⟩ := hf
        refine zr_get (zm_gR_g h8) zk9 (by decide) zl_515 dX10_weightOfSelfSame_12 ?_
        refine zr_iload_n 2 dX10_weightOfSelfSame_15 rfl ?_
        replace hf := zb1_s hf
        obtain ⟨v9, h10, hf⟩ := hf
        refine zr_iald h10 dX10_weightOfSelfSame_16 ?_
        refine zr_iload_n 2 dX10_weightOfSelfSame_17 rfl ?_
        replace hf := zb1_s hf
        obtain ⟨s11, hg, hf⟩ := hf
        have hj12 : zz K cX10_weightOfSelfSame (4, RX10, some .long, 0, 0, 0, some (.long r), μ) 0 0 32 [(0, .ref x0), (3, .int x3_2)] [.long s11, .long x1_1] μ := by
          refine zr_ladd dX10_weightOfSelfSame_32 ?_
          refine zr_lstore_n [(1, .long (x1_1 + s11)), (0, .ref x0), (3, .int x3_2)] dX10_weightOfSelfSame_33 (Nat.le_of_ble_eq_true rfl) rfl ?_
          refine zr_iinc (j := 2) (x3_2 + 1) [(3, .int (x3_2 + 1)), (1, .long (x1_1 + s11)), (0, .ref x0)] dX10_weightOfSelfSame_34 rfl rfl (Nat.le_of_ble_eq_true rfl) rfl ?_
          refine zr_goto 4 dX10_weightOfSelfSame_37 (by decide) ?_
          exact zr_lv [2, 1, 0] rfl (ih4 (x1_1 + s11) (x3_2 + 1) hf)
        clear hf
        have hf := hg
        clear hg
        refine zr_icmp_ne 31 dX10_weightOfSelfSame_18 (by decide) (fun hc => ?_) (fun hc => ?_)
        · rw [if_neg hc] at hf
          refine zr_lconst 0 dX10_weightOfSelfSame_31 (by decide) ?_
          cases hf
          exact zr_lv [0, 2] rfl hj12
        · rw [if_pos hc] at hf
          refine zr_aload_n 0 dX10_weightOfSelfSame_21 rfl ?_
          replace hf := zb1_s hf
          obtain ⟨v13, h14, hf⟩ := hf
          refine zr_get (zm_gR_g h14) zk9 (by decide) zl_524 dX10_weightOfSelfSame_22 ?_
          refine zr_iload_n 2 dX10_weightOfSelfSame_25 rfl ?_
          replace hf := zb1_s hf
          obtain ⟨v15, h16, hf⟩ := hf
          refine zr_iald h16 dX10_weightOfSelfSame_26 ?_
          refine zr_i2l dX10_weightOfSelfSame_27 ?_
          refine zr_goto 32 dX10_weightOfSelfSame_28 (by decide) ?_
          cases hf
          exact zr_lv [0, 2] rfl hj12
  exact zr_lv [2, 1, 0] rfl (hL17 _ 0 0 hf)
theorem dX10_commonDivisor_0 : decode cX10_commonDivisor 0 = .ok (.lload_n 0, 1) := by decide +kernel
theorem dX10_commonDivisor_1 : decode cX10_commonDivisor 1 = .ok (.lstore 4, 2) := by decide +kernel
theorem dX10_commonDivisor_3 : decode cX10_commonDivisor 3 = .ok (.lload_n 2, 1) := by decide +kernel
theorem dX10_commonDivisor_4 : decode cX10_commonDivisor 4 = .ok (.lstore 6, 2) := by decide +kernel
theorem dX10_commonDivisor_6 : decode cX10_commonDivisor 6 = .ok (.iconst 0, 1) := by decide +kernel
theorem dX10_commonDivisor_7 : decode cX10_commonDivisor 7 = .ok (.istore 8, 2) := by decide +kernel
theorem dX10_commonDivisor_9 : decode cX10_commonDivisor 9 = .ok (.iload 8, 2) := by decide +kernel
theorem dX10_commonDivisor_11 : decode cX10_commonDivisor 11 = .ok (.bipush 100, 2) := by decide +kernel
theorem dX10_commonDivisor_13 : decode cX10_commonDivisor 13 = .ok (.if_icmp .ge 31, 3) := by decide +kernel
theorem dX10_commonDivisor_16 : decode cX10_commonDivisor 16 = .ok (.lload 6, 2) := by decide +kernel
theorem dX10_commonDivisor_18 : decode cX10_commonDivisor 18 = .ok (.lconst 0, 1) := by decide +kernel
theorem dX10_commonDivisor_19 : decode cX10_commonDivisor 19 = .ok (.lcmp, 1) := by decide +kernel
theorem dX10_commonDivisor_20 : decode cX10_commonDivisor 20 = .ok (.ifCond .eq 24, 3) := by decide +kernel
theorem dX10_commonDivisor_23 : decode cX10_commonDivisor 23 = .ok (.lload 4, 2) := by decide +kernel
theorem dX10_commonDivisor_25 : decode cX10_commonDivisor 25 = .ok (.lload 6, 2) := by decide +kernel
theorem dX10_commonDivisor_27 : decode cX10_commonDivisor 27 = .ok (.lrem, 1) := by decide +kernel
theorem dX10_commonDivisor_28 : decode cX10_commonDivisor 28 = .ok (.lstore 9, 2) := by decide +kernel
theorem dX10_commonDivisor_30 : decode cX10_commonDivisor 30 = .ok (.lload 6, 2) := by decide +kernel
theorem dX10_commonDivisor_32 : decode cX10_commonDivisor 32 = .ok (.lstore 4, 2) := by decide +kernel
theorem dX10_commonDivisor_34 : decode cX10_commonDivisor 34 = .ok (.lload 9, 2) := by decide +kernel
theorem dX10_commonDivisor_36 : decode cX10_commonDivisor 36 = .ok (.lstore 6, 2) := by decide +kernel
theorem dX10_commonDivisor_38 : decode cX10_commonDivisor 38 = .ok (.iinc 8 1, 3) := by decide +kernel
theorem dX10_commonDivisor_41 : decode cX10_commonDivisor 41 = .ok (.goto (-32), 3) := by decide +kernel
theorem dX10_commonDivisor_44 : decode cX10_commonDivisor 44 = .ok (.lload 4, 2) := by decide +kernel
theorem dX10_commonDivisor_46 : decode cX10_commonDivisor 46 = .ok (.lreturn, 1) := by decide +kernel
def fX10_commonDivisor_l9  (F4 : Int64 → Int64 → Int32 → Option (Int64)) (x4_1 : Int64) (x6_2 : Int64) (x8_3 : Int32) : Option (Int64) :=
  if 100 ≤ x8_3 then (
  some x4_1)
  else (
  if (lg_cmp x6_2 0) = 0 then (
  some x4_1)
  else (
  zni (x6_2 = 0) <|
  F4 x6_2 (x4_1 - x4_1 / x6_2 * x6_2) (x8_3 + 1)))
def fX10_commonDivisor (μ : zM) (x0 : Int64) (x2 : Int64) : Option (Int64) :=
  zb1 (zf3 fX10_commonDivisor_l9 zfu x0 x2 0) fun x4_6 =>
  some x4_6
set_option maxHeartbeats 4000000 in
set_option maxRecDepth 100000 in
theorem cX10_commonDivisor_ok {μ : zM} {x0 : Int64} {x2 : Int64} {r : Int64} (hf : fX10_commonDivisor μ x0 x2 = some r) : zC yX10_commonDivisor cX10_commonDivisor 11 (some .long) 0 0 0 [.long x0, .long x2] μ (some (.long r)) μ := by
  unfold fX10_commonDivisor at hf
  refine zC.of (by decide) (Nat.le_of_ble_eq_true rfl) (fun K hin => ?_)
  clear hin
  show zz K cX10_commonDivisor (11, RX10, some .long, 0, 0, 0, some (.long r), μ) 0 0 0 [(0, .long x0), (2, .long x2)] [] μ
  refine zr_lload_n 0 dX10_commonDivisor_0 rfl ?_
  refine zr_lstore [(4, .long x0), (0, .long x0), (2, .long x2)] dX10_commonDivisor_1 (Nat.le_of_ble_eq_true rfl) rfl ?_
  refine zr_lload_n 2 dX10_commonDivisor_3 rfl ?_
  refine zr_lstore [(6, .long x2), (4, .long x0), (0, .long x0), (2, .long x2)] dX10_commonDivisor_4 (Nat.le_of_ble_eq_true rfl) rfl ?_
  refine zr_iconst 0 dX10_commonDivisor_6 (by decide) ?_
  refine zr_istore [(8, .int 0), (6, .long x2), (4, .long x0), (0, .long x0), (2, .long x2)] dX10_commonDivisor_7 (Nat.le_of_ble_eq_true rfl) rfl ?_
  replace hf := zb1_s hf
  obtain ⟨x4_6, hg, hf⟩ := hf
  have hj7 : zz K cX10_commonDivisor (11, RX10, some .long, 0, 0, 0, some (.long r), μ) 0 0 44 [(4, .long x4_6)] [] μ := by
    refine zr_lload 0 dX10_commonDivisor_44 rfl ?_
    cases hf
    exact zr_lret dX10_commonDivisor_46
  clear hf
  have hf := hg
  clear hg
  have hL9 : ∀ (n : Nat) (x4_1 : Int64) (x6_2 : Int64) (x8_3 : Int32), zf3 fX10_commonDivisor_l9 n x4_1 x6_2 x8_3 = some x4_6 → zz K cX10_commonDivisor (11, RX10, some .long, 0, 0, 0, some (.long r), μ) 0 0 9 [(4, .long x4_1), (6, .long x6_2), (8, .int x8_3)] [] μ := by
    intro n
    induction n with
    | zero => intro x4_1 x6_2 x8_3 hf; cases hf
    | succ n ih5 =>
      intro x4_1 x6_2 x8_3 hf
      replace hf := zf3_s hf
      generalize zf3 fX10_commonDivisor_l9 n = F4 at hf ih5
      unfold fX10_commonDivisor_l9 at hf
      refine zr_iload 2 dX10_commonDivisor_9 rfl ?_
      refine zr_bipush 100 dX10_commonDivisor_11 (by decide) ?_
      refine zr_icmp_ge 44 dX10_commonDivisor_13 (by decide) (fun hc => ?_) (fun hc => ?_)
      · rw [if_pos hc] at hf
        cases hf
        exact zr_lv [0] rfl hj7
      · rw [if_neg hc] at hf
        refine zr_lload 1 dX10_commonDivisor_16 rfl ?_
        refine zr_lconst 0 dX10_commonDivisor_18 (by decide) ?_
        refine zr_lcmp dX10_commonDivisor_19 ?_
        refine zr_if_eq 44 dX10_commonDivisor_20 (by decide) (fun hc => ?_) (fun hc => ?_)
        · rw [if_pos hc] at hf
          cases hf
          exact zr_lv [0] rfl hj7
        · rw [if_neg hc] at hf
          refine zr_lload 0 dX10_commonDivisor_23 rfl ?_
          refine zr_lload 1 dX10_commonDivisor_25 rfl ?_
          replace hf := zni_s hf
          obtain ⟨hn8, hf⟩ := hf
          refine zr_lrem dX10_commonDivisor_27 hn8 ?_
          refine zr_lstore [(9, .long (x4_1 - x4_1 / x6_2 * x6_2)), (4, .long x4_1), (6, .long x6_2), (8, .int x8_3)] dX10_commonDivisor_28 (Nat.le_of_ble_eq_true rfl) rfl ?_
          refine zr_lload 2 dX10_commonDivisor_30 rfl ?_
          refine zr_lstore [(4, .long x6_2), (9, .long (x4_1 - x4_1 / x6_2 * x6_2)), (6, .long x6_2), (8, .int x8_3)] dX10_commonDivisor_32 (Nat.le_of_ble_eq_true rfl) rfl ?_
          refine zr_lload 1 dX10_commonDivisor_34 rfl ?_
          refine zr_lstore [(6, .long (x4_1 - x4_1 / x6_2 * x6_2)), (4, .long x6_2), (9, .long (x4_1 - x4_1 / x6_2 * x6_2)), (8, .int x8_3)] dX10_commonDivisor_36 (Nat.le_of_ble_eq_true rfl) rfl ?_
          refine zr_iinc (j := 3) (x8_3 + 1) [(8, .int (x8_3 + 1)), (6, .long (x4_1 - x4_1 / x6_2 * x6_2)), (4, .long x6_2), (9, .long (x4_1 - x4_1 / x6_2 * x6_2))] dX10_commonDivisor_38 rfl rfl (Nat.le_of_ble_eq_true rfl) rfl ?_
          refine zr_goto 9 dX10_commonDivisor_41 (by decide) ?_
          exact zr_lv [2, 1, 0] rfl (ih5 x6_2 (x4_1 - x4_1 / x6_2 * x6_2) (x8_3 + 1) hf)
  exact zr_lv [2, 1, 0] rfl (hL9 _ x0 x2 0 hf)
theorem dX10_power_0 : decode cX10_power 0 = .ok (.lconst 1, 1) := by decide +kernel
theorem dX10_power_1 : decode cX10_power 1 = .ok (.lstore_n 3, 1) := by decide +kernel
theorem dX10_power_2 : decode cX10_power 2 = .ok (.iconst 0, 1) := by decide +kernel
theorem dX10_power_3 : decode cX10_power 3 = .ok (.istore 5, 2) := by decide +kernel
theorem dX10_power_5 : decode cX10_power 5 = .ok (.iload 5, 2) := by decide +kernel
theorem dX10_power_7 : decode cX10_power 7 = .ok (.iload_n 2, 1) := by decide +kernel
theorem dX10_power_8 : decode cX10_power 8 = .ok (.if_icmp .ge 13, 3) := by decide +kernel
theorem dX10_power_11 : decode cX10_power 11 = .ok (.lload_n 3, 1) := by decide +kernel
theorem dX10_power_12 : decode cX10_power 12 = .ok (.lload_n 0, 1) := by decide +kernel
theorem dX10_power_13 : decode cX10_power 13 = .ok (.lmul, 1) := by decide +kernel
theorem dX10_power_14 : decode cX10_power 14 = .ok (.lstore_n 3, 1) := by decide +kernel
theorem dX10_power_15 : decode cX10_power 15 = .ok (.iinc 5 1, 3) := by decide +kernel
theorem dX10_power_18 : decode cX10_power 18 = .ok (.goto (-13), 3) := by decide +kernel
theorem dX10_power_21 : decode cX10_power 21 = .ok (.lload_n 3, 1) := by decide +kernel
theorem dX10_power_22 : decode cX10_power 22 = .ok (.lreturn, 1) := by decide +kernel
def fX10_power_l5 (x2 : Int32) (x0 : Int64) (F3 : Int64 → Int32 → Option (Int64)) (x3_1 : Int64) (x5_2 : Int32) : Option (Int64) :=
  if x2 ≤ x5_2 then (
  some x3_1)
  else (
  F3 (x3_1 * x0) (x5_2 + 1))
def fX10_power (μ : zM) (x0 : Int64) (x2 : Int32) : Option (Int64) :=
  zb1 (zf2 (fX10_power_l5 x2 x0) zfu 1 0) fun x3_5 =>
  some x3_5
set_option maxHeartbeats 4000000 in
set_option maxRecDepth 100000 in
theorem cX10_power_ok {μ : zM} {x0 : Int64} {x2 : Int32} {r : Int64} (hf : fX10_power μ x0 x2 = some r) : zC yX10_power cX10_power 6 (some .long) 0 0 0 [.long x0, .int x2] μ (some (.long r)) μ := by
  unfold fX10_power at hf
  refine zC.of (by decide) (Nat.le_of_ble_eq_true rfl) (fun K hin => ?_)
  clear hin
  show zz K cX10_power (6, RX10, some .long, 0, 0, 0, some (.long r), μ) 0 0 0 [(0, .long x0), (2, .int x2)] [] μ
  refine zr_lconst 1 dX10_power_0 (by decide) ?_
  refine zr_lstore_n [(3, .long 1), (0, .long x0), (2, .int x2)] dX10_power_1 (Nat.le_of_ble_eq_true rfl) rfl ?_
  refine zr_iconst 0 dX10_power_2 (by decide) ?_
  refine zr_istore [(5, .int 0), (3, .long 1), (0, .long x0), (2, .int x2)] dX10_power_3 (Nat.le_of_ble_eq_true rfl) rfl ?_
  replace hf := zb1_s hf
  obtain ⟨x3_5, hg, hf⟩ := hf
  have hj6 : zz K cX10_power (6, RX10, some .long, 0, 0, 0, some (.long r), μ) 0 0 21 [(3, .long x3_5)] [] μ := by
    refine zr_lload_n 0 dX10_power_21 rfl ?_
    cases hf
    exact zr_lret dX10_power_22
  clear hf
  have hf := hg
  clear hg
  have hL7 : ∀ (n : Nat) (x3_1 : Int64) (x5_2 : Int32), zf2 (fX10_power_l5 x2 x0) n x3_1 x5_2 = some x3_5 → zz K cX10_power (6, RX10, some .long, 0, 0, 0, some (.long r), μ) 0 0 5 [(0, .long x0), (2, .int x2), (3, .long x3_1), (5, .int x5_2)] [] μ := by
    intro n
    induction n with
    | zero => intro x3_1 x5_2 hf; cases hf
    | succ n ih4 =>
      intro x3_1 x5_2 hf
      replace hf := zf2_s hf
      generalize zf2 (fX10_power_l5 x2 x0) n = F3 at hf ih4
      unfold fX10_power_l5 at hf
      refine zr_iload 3 dX10_power_5 rfl ?_
      refine zr_iload_n 1 dX10_power_7 rfl ?_
      refine zr_icmp_ge 21 dX10_power_8 (by decide) (fun hc => ?_) (fun hc => ?_)
      · rw [if_pos hc] at hf
        cases hf
        exact zr_lv [2] rfl hj6
      · rw [if_neg hc] at hf
        refine zr_lload_n 2 dX10_power_11 rfl ?_
        refine zr_lload_n 0 dX10_power_12 rfl ?_
        refine zr_lmul dX10_power_13 ?_
        refine zr_lstore_n [(3, .long (x3_1 * x0)), (0, .long x0), (2, .int x2), (5, .int x5_2)] dX10_power_14 (Nat.le_of_ble_eq_true rfl) rfl ?_
        refine zr_iinc (j := 3) (x5_2 + 1) [(5, .int (x5_2 + 1)), (3, .long (x3_1 * x0)), (0, .long x0), (2, .int x2)] dX10_power_15 rfl rfl (Nat.le_of_ble_eq_true rfl) rfl ?_
        refine zr_goto 5 dX10_power_18 (by decide) ?_
        exact zr_lv [2, 3, 1, 0] rfl (ih4 (x3_1 * x0) (x5_2 + 1) hf)
  exact zr_lv [2, 3, 1, 0] rfl (hL7 _ 1 0 hf)
theorem zl_525 : Cond.methodLink RX11 1 Lib.objectInit ∈ zt := zt_at 155 (by decide +kernel)
theorem zl_526 : Cond.classLink RX11 7 RX7 ∈ zt := zt_at 158 (by decide +kernel)
theorem zl_527 : Cond.instantiable RX7 9 ∈ zt := zt_at 159 (by decide +kernel)
theorem zl_528 : Cond.initialized RX7 ∈ zt := zt_at 130 (by decide +kernel)
theorem zl_529 : Cond.code yX7_init cX7_init 1 (none) ∈ zt := zt_at 162 (by decide +kernel)
theorem zvs_X7_init : zvS yX7_init cX7_init 1 (none) 0 := ⟨zl_529, zl_528, ⟨by decide +kernel, by decide +kernel, by decide +kernel⟩, by decide⟩
theorem zl_530 : Cond.methodLinkNest RX11 9 yX7_init "TwoEchoes" ∈ zn := zn_at 160 (by decide +kernel)
theorem zl_531 : Cond.instanceMethod yX7_init ∈ zt := zt_at 161 (by decide +kernel)
theorem zl_532 : Cond.fieldLink RX11 10 "TwoEchoes" "told" "LTwoEchoes$Told;" ∈ zt := zt_at 485 (by decide +kernel)
theorem zl_533 : Cond.fieldLink RX11 16 "TwoEchoes" "images" "[LTwoEchoes$Told;" ∈ zt := zt_at 486 (by decide +kernel)
theorem zl_534 : Cond.classLink RX11 20 RX4 ∈ zt := zt_at 353 (by decide +kernel)
theorem zl_535 : Cond.instantiable RX4 13 ∈ zt := zt_at 354 (by decide +kernel)
theorem zl_536 : Cond.fieldLink RX11 22 "TwoEchoes$Told" "tape" "[B" ∈ zt := zt_at 316 (by decide +kernel)
theorem zl_537 : Cond.code yX4_init cX4_init 2 (none) ∈ zt := zt_at 357 (by decide +kernel)
theorem zvs_X4_init : zvS yX4_init cX4_init 2 (none) 1 := ⟨zl_537, zl_296, ⟨by decide +kernel, by decide +kernel, by decide +kernel⟩, by decide⟩
theorem zl_538 : Cond.methodLink RX11 26 yX4_init ∈ zt := zt_at 355 (by decide +kernel)
theorem zl_539 : Cond.instanceMethod yX4_init ∈ zt := zt_at 356 (by decide +kernel)
theorem zl_540 : Cond.fieldLink RX11 29 "TwoEchoes" "reader" "LTwoEchoes$Reader;" ∈ zt := zt_at 487 (by decide +kernel)
theorem zl_541 : Cond.classLink RX11 33 RX1 ∈ zt := zt_at 413 (by decide +kernel)
theorem zl_542 : Cond.instantiable RX1 6 ∈ zt := zt_at 414 (by decide +kernel)
theorem zl_543 : Cond.code yX1_init cX1_init 1 (none) ∈ zt := zt_at 417 (by decide +kernel)
theorem zvs_X1_init : zvS yX1_init cX1_init 1 (none) 0 := ⟨zl_543, zl_110, ⟨by decide +kernel, by decide +kernel, by decide +kernel⟩, by decide⟩
theorem zl_544 : Cond.methodLinkNest RX11 35 yX1_init "TwoEchoes" ∈ zn := zn_at 415 (by decide +kernel)
theorem zl_545 : Cond.instanceMethod yX1_init ∈ zt := zt_at 416 (by decide +kernel)
theorem zl_546 : Cond.fieldLink RX11 36 "TwoEchoes" "course" "LTwoEchoes$Course;" ∈ zt := zt_at 488 (by decide +kernel)
theorem zl_547 : Cond.classLink RX11 40 RX5 ∈ zt := zt_at 438 (by decide +kernel)
theorem zl_548 : Cond.instantiable RX5 3 ∈ zt := zt_at 439 (by decide +kernel)
theorem zl_549 : Cond.code yX5_init cX5_init 1 (none) ∈ zt := zt_at 442 (by decide +kernel)
theorem zvs_X5_init : zvS yX5_init cX5_init 1 (none) 0 := ⟨zl_549, zl_378, ⟨by decide +kernel, by decide +kernel, by decide +kernel⟩, by decide⟩
theorem zl_550 : Cond.methodLinkNest RX11 42 yX5_init "TwoEchoes" ∈ zn := zn_at 440 (by decide +kernel)
theorem zl_551 : Cond.instanceMethod yX5_init ∈ zt := zt_at 441 (by decide +kernel)
theorem zl_552 : Cond.fieldLink RX11 43 "TwoEchoes" "search" "LTwoEchoes$Search;" ∈ zt := zt_at 489 (by decide +kernel)
theorem zl_553 : Cond.classLink RX11 47 RX8 ∈ zt := zt_at 454 (by decide +kernel)
theorem zl_554 : Cond.instantiable RX8 2 ∈ zt := zt_at 455 (by decide +kernel)
theorem zl_555 : Cond.code yX8_init cX8_init 1 (none) ∈ zt := zt_at 458 (by decide +kernel)
theorem zvs_X8_init : zvS yX8_init cX8_init 1 (none) 0 := ⟨zl_555, zl_471, ⟨by decide +kernel, by decide +kernel, by decide +kernel⟩, by decide⟩
theorem zl_556 : Cond.methodLinkNest RX11 49 yX8_init "TwoEchoes" ∈ zn := zn_at 456 (by decide +kernel)
theorem zl_557 : Cond.instanceMethod yX8_init ∈ zt := zt_at 457 (by decide +kernel)
theorem zl_558 : Cond.fieldLink RX11 50 "TwoEchoes" "trade" "LTwoEchoes$Trade;" ∈ zt := zt_at 490 (by decide +kernel)
theorem zl_559 : Cond.classLink RX11 54 RX0 ∈ zt := zt_at 467 (by decide +kernel)
theorem zl_560 : Cond.instantiable RX0 3 ∈ zt := zt_at 468 (by decide +kernel)
theorem zl_561 : Cond.code yX0_init cX0_init 1 (none) ∈ zt := zt_at 471 (by decide +kernel)
theorem zvs_X0_init : zvS yX0_init cX0_init 1 (none) 0 := ⟨zl_561, zl_31, ⟨by decide +kernel, by decide +kernel, by decide +kernel⟩, by decide⟩
theorem zl_562 : Cond.methodLinkNest RX11 56 yX0_init "TwoEchoes" ∈ zn := zn_at 469 (by decide +kernel)
theorem zl_563 : Cond.instanceMethod yX0_init ∈ zt := zt_at 470 (by decide +kernel)
theorem zl_564 : Cond.fieldLink RX11 57 "TwoEchoes" "company" "LTwoEchoes$Company;" ∈ zt := zt_at 491 (by decide +kernel)
theorem dX11_init_0 : decode cX11_init 0 = .ok (.aload_n 0, 1) := by decide +kernel
theorem dX11_init_1 : decode cX11_init 1 = .ok (.invokespecial 1, 3) := by decide +kernel
theorem dX11_init_4 : decode cX11_init 4 = .ok (.aload_n 0, 1) := by decide +kernel
theorem dX11_init_5 : decode cX11_init 5 = .ok (.new 7, 3) := by decide +kernel
theorem dX11_init_8 : decode cX11_init 8 = .ok (.dup, 1) := by decide +kernel
theorem dX11_init_9 : decode cX11_init 9 = .ok (.invokespecial 9, 3) := by decide +kernel
theorem dX11_init_12 : decode cX11_init 12 = .ok (.putfield 10, 3) := by decide +kernel
theorem dX11_init_15 : decode cX11_init 15 = .ok (.aload_n 0, 1) := by decide +kernel
theorem dX11_init_16 : decode cX11_init 16 = .ok (.iconst 3, 1) := by decide +kernel
theorem dX11_init_17 : decode cX11_init 17 = .ok (.anewarray 7, 3) := by decide +kernel
theorem dX11_init_20 : decode cX11_init 20 = .ok (.putfield 16, 3) := by decide +kernel
theorem dX11_init_23 : decode cX11_init 23 = .ok (.aload_n 0, 1) := by decide +kernel
theorem dX11_init_24 : decode cX11_init 24 = .ok (.new 20, 3) := by decide +kernel
theorem dX11_init_27 : decode cX11_init 27 = .ok (.dup, 1) := by decide +kernel
theorem dX11_init_28 : decode cX11_init 28 = .ok (.aload_n 0, 1) := by decide +kernel
theorem dX11_init_29 : decode cX11_init 29 = .ok (.getfield 10, 3) := by decide +kernel
theorem dX11_init_32 : decode cX11_init 32 = .ok (.getfield 22, 3) := by decide +kernel
theorem dX11_init_35 : decode cX11_init 35 = .ok (.invokespecial 26, 3) := by decide +kernel
theorem dX11_init_38 : decode cX11_init 38 = .ok (.putfield 29, 3) := by decide +kernel
theorem dX11_init_41 : decode cX11_init 41 = .ok (.aload_n 0, 1) := by decide +kernel
theorem dX11_init_42 : decode cX11_init 42 = .ok (.new 33, 3) := by decide +kernel
theorem dX11_init_45 : decode cX11_init 45 = .ok (.dup, 1) := by decide +kernel
theorem dX11_init_46 : decode cX11_init 46 = .ok (.invokespecial 35, 3) := by decide +kernel
theorem dX11_init_49 : decode cX11_init 49 = .ok (.putfield 36, 3) := by decide +kernel
theorem dX11_init_52 : decode cX11_init 52 = .ok (.aload_n 0, 1) := by decide +kernel
theorem dX11_init_53 : decode cX11_init 53 = .ok (.new 40, 3) := by decide +kernel
theorem dX11_init_56 : decode cX11_init 56 = .ok (.dup, 1) := by decide +kernel
theorem dX11_init_57 : decode cX11_init 57 = .ok (.invokespecial 42, 3) := by decide +kernel
theorem dX11_init_60 : decode cX11_init 60 = .ok (.putfield 43, 3) := by decide +kernel
theorem dX11_init_63 : decode cX11_init 63 = .ok (.aload_n 0, 1) := by decide +kernel
theorem dX11_init_64 : decode cX11_init 64 = .ok (.new 47, 3) := by decide +kernel
theorem dX11_init_67 : decode cX11_init 67 = .ok (.dup, 1) := by decide +kernel
theorem dX11_init_68 : decode cX11_init 68 = .ok (.invokespecial 49, 3) := by decide +kernel
theorem dX11_init_71 : decode cX11_init 71 = .ok (.putfield 50, 3) := by decide +kernel
theorem dX11_init_74 : decode cX11_init 74 = .ok (.aload_n 0, 1) := by decide +kernel
theorem dX11_init_75 : decode cX11_init 75 = .ok (.new 54, 3) := by decide +kernel
theorem dX11_init_78 : decode cX11_init 78 = .ok (.dup, 1) := by decide +kernel
theorem dX11_init_79 : decode cX11_init 79 = .ok (.invokespecial 56, 3) := by decide +kernel
theorem dX11_init_82 : decode cX11_init 82 = .ok (.putfield 57, 3) := by decide +kernel
theorem dX11_init_85 : decode cX11_init 85 = .ok (.return_, 1) := by decide +kernel
def fX11_init (μ : zM) (x0 : Nat) : Option (zM) :=
  zb1 (some (zm_nw μ (.inr (7, [.null, .int 0, .int 0, .int 0, .null, .null, .null, .null, .null])))) fun m1 =>
  zb1 (fX7_init m1 μ.2.1) fun m4 =>
  zb1 (zm_p m4 11 x0 0 (.ref μ.2.1)) fun m5 =>
  zb1 (some (zm_nw m5 (.inl (3, 3, .inr (.inr (.inr (.inr (fun _ => none)))))))) fun m7 =>
  zb1 (zm_p m7 11 x0 1 (.ref m5.2.1)) fun m9 =>
  zb1 (some (zm_nw m9 (.inr (4, [.null, .null, .null, .null, .int 0, .int 0, .null, .int 0, .int 0, .int 0, .int 0, .null, .null])))) fun m11 =>
  zb1 (zm_gR m11 11 x0 0) fun v13 =>
  zb1 (zm_gR m11 7 v13 0) fun v15 =>
  zb1 (fX4_init m11 m9.2.1 v15) fun m18 =>
  zb1 (zm_p m18 11 x0 2 (.ref m9.2.1)) fun m19 =>
  zb1 (some (zm_nw m19 (.inr (1, [.int 0, .int 0, .int 0, .null, .null, .null])))) fun m21 =>
  zb1 (fX1_init m21 m19.2.1) fun m24 =>
  zb1 (zm_p m24 11 x0 3 (.ref m19.2.1)) fun m25 =>
  zb1 (some (zm_nw m25 (.inr (5, [.null, .null, .int 0])))) fun m27 =>
  zb1 (fX5_init m27 m25.2.1) fun m30 =>
  zb1 (zm_p m30 11 x0 4 (.ref m25.2.1)) fun m31 =>
  zb1 (some (zm_nw m31 (.inr (8, [.null, .null])))) fun m33 =>
  zb1 (fX8_init m33 m31.2.1) fun m36 =>
  zb1 (zm_p m36 11 x0 5 (.ref m31.2.1)) fun m37 =>
  zb1 (some (zm_nw m37 (.inr (0, [.null, .null, .null])))) fun m39 =>
  zb1 (fX0_init m39 m37.2.1) fun m42 =>
  zb1 (zm_p m42 11 x0 6 (.ref m37.2.1)) fun m43 =>
  some m43
set_option maxHeartbeats 4000000 in
set_option maxRecDepth 100000 in
theorem cX11_init_ok {μ : zM} {x0 : Nat} {mo : zM} (hf : fX11_init μ x0 = some mo) : zC yX11_init cX11_init 1 (none) 3 94 6247 [.ref x0] μ (none) mo := by
  unfold fX11_init at hf
  refine zC.of (by decide) (Nat.le_of_ble_eq_true rfl) (fun K hin => ?_)
  replace hin := hin rfl
  show zz K cX11_init (1, RX11, none, 3, 94, 6247, none, mo) 0 0 0 [(0, .ref x0)] [] μ
  refine zr_aload_n 0 dX11_init_0 rfl ?_
  refine zr_objInit zl_525 zl_1 zl_2 (Nat.le_of_ble_eq_true rfl) (Nat.le_of_ble_eq_true rfl) dX11_init_1 ?_
  refine zr_aload_n 0 dX11_init_4 rfl ?_
  refine zr_new [.null, .int 0, .int 0, .int 0, .null, .null, .null, .null, .null] zk7 zl_526 zl_527 zl_528 (by decide +kernel) (Nat.le_of_ble_eq_true rfl) (Nat.le_of_ble_eq_true rfl) dX11_init_5 ?_
  replace hf := zb1_s hf
  obtain ⟨m1, h2, hf⟩ := hf
  obtain rfl := Option.some.inj h2
  refine zr_dup dX11_init_8 rfl ?_
  replace hf := zb1_s hf
  obtain ⟨m4, h3, hf⟩ := hf
  refine zr_callIN [] (cX7_init_ok h3) zvs_X7_init zl_531 rfl zl_530 rfl (Nat.le_of_ble_eq_true rfl) (Nat.le_of_ble_eq_true rfl) (Nat.le_of_ble_eq_true rfl) (Nat.le_of_ble_eq_true rfl) dX11_init_9 rfl ?_
  replace hf := zb1_s hf
  obtain ⟨m5, h6, hf⟩ := hf
  refine zr_putF h6 hin rfl zk11 (by decide) zl_532 rfl rfl rfl dX11_init_12 ?_
  refine zr_aload_n 0 dX11_init_15 rfl ?_
  refine zr_iconst 3 dX11_init_16 (by decide) ?_
  refine zr_newq (t := 3) (N := 3) (by decide) rfl zl_526 (by decide) (by decide) (by decide) (Nat.le_of_ble_eq_true rfl) (Nat.le_of_ble_eq_true rfl) dX11_init_17 ?_
  replace hf := zb1_s hf
  obtain ⟨m7, h8, hf⟩ := hf
  obtain rfl := Option.some.inj h8
  replace hf := zb1_s hf
  obtain ⟨m9, h10, hf⟩ := hf
  refine zr_putF h10 hin rfl zk11 (by decide) zl_533 rfl rfl rfl dX11_init_20 ?_
  refine zr_aload_n 0 dX11_init_23 rfl ?_
  refine zr_new [.null, .null, .null, .null, .int 0, .int 0, .null, .int 0, .int 0, .int 0, .int 0, .null, .null] zk4 zl_534 zl_535 zl_296 (by decide +kernel) (Nat.le_of_ble_eq_true rfl) (Nat.le_of_ble_eq_true rfl) dX11_init_24 ?_
  replace hf := zb1_s hf
  obtain ⟨m11, h12, hf⟩ := hf
  obtain rfl := Option.some.inj h12
  refine zr_dup dX11_init_27 rfl ?_
  refine zr_aload_n 0 dX11_init_28 rfl ?_
  replace hf := zb1_s hf
  obtain ⟨v13, h14, hf⟩ := hf
  refine zr_get (zm_gR_g h14) zk11 (by decide) zl_532 dX11_init_29 ?_
  replace hf := zb1_s hf
  obtain ⟨v15, h16, hf⟩ := hf
  refine zr_get (zm_gR_g h16) zk7 (by decide) zl_536 dX11_init_32 ?_
  replace hf := zb1_s hf
  obtain ⟨m18, h17, hf⟩ := hf
  refine zr_callI [.ref v15] (cX4_init_ok h17) zvs_X4_init zl_539 rfl zl_538 rfl (Nat.le_of_ble_eq_true rfl) (Nat.le_of_ble_eq_true rfl) (Nat.le_of_ble_eq_true rfl) (Nat.le_of_ble_eq_true rfl) dX11_init_35 rfl ?_
  replace hf := zb1_s hf
  obtain ⟨m19, h20, hf⟩ := hf
  refine zr_putF h20 hin rfl zk11 (by decide) zl_540 rfl rfl rfl dX11_init_38 ?_
  refine zr_aload_n 0 dX11_init_41 rfl ?_
  refine zr_new [.int 0, .int 0, .int 0, .null, .null, .null] zk1 zl_541 zl_542 zl_110 (by decide +kernel) (Nat.le_of_ble_eq_true rfl) (Nat.le_of_ble_eq_true rfl) dX11_init_42 ?_
  replace hf := zb1_s hf
  obtain ⟨m21, h22, hf⟩ := hf
  obtain rfl := Option.some.inj h22
  refine zr_dup dX11_init_45 rfl ?_
  replace hf := zb1_s hf
  obtain ⟨m24, h23, hf⟩ := hf
  refine zr_callIN [] (cX1_init_ok h23) zvs_X1_init zl_545 rfl zl_544 rfl (Nat.le_of_ble_eq_true rfl) (Nat.le_of_ble_eq_true rfl) (Nat.le_of_ble_eq_true rfl) (Nat.le_of_ble_eq_true rfl) dX11_init_46 rfl ?_
  replace hf := zb1_s hf
  obtain ⟨m25, h26, hf⟩ := hf
  refine zr_putF h26 hin rfl zk11 (by decide) zl_546 rfl rfl rfl dX11_init_49 ?_
  refine zr_aload_n 0 dX11_init_52 rfl ?_
  refine zr_new [.null, .null, .int 0] zk5 zl_547 zl_548 zl_378 (by decide +kernel) (Nat.le_of_ble_eq_true rfl) (Nat.le_of_ble_eq_true rfl) dX11_init_53 ?_
  replace hf := zb1_s hf
  obtain ⟨m27, h28, hf⟩ := hf
  obtain rfl := Option.some.inj h28
  refine zr_dup dX11_init_56 rfl ?_
  replace hf := zb1_s hf
  obtain ⟨m30, h29, hf⟩ := hf
  refine zr_callIN [] (cX5_init_ok h29) zvs_X5_init zl_551 rfl zl_550 rfl (Nat.le_of_ble_eq_true rfl) (Nat.le_of_ble_eq_true rfl) (Nat.le_of_ble_eq_true rfl) (Nat.le_of_ble_eq_true rfl) dX11_init_57 rfl ?_
  replace hf := zb1_s hf
  obtain ⟨m31, h32, hf⟩ := hf
  refine zr_putF h32 hin rfl zk11 (by decide) zl_552 rfl rfl rfl dX11_init_60 ?_
  refine zr_aload_n 0 dX11_init_63 rfl ?_
  refine zr_new [.null, .null] zk8 zl_553 zl_554 zl_471 (by decide +kernel) (Nat.le_of_ble_eq_true rfl) (Nat.le_of_ble_eq_true rfl) dX11_init_64 ?_
  replace hf := zb1_s hf
  obtain ⟨m33, h34, hf⟩ := hf
  obtain rfl := Option.some.inj h34
  refine zr_dup dX11_init_67 rfl ?_
  replace hf := zb1_s hf
  obtain ⟨m36, h35, hf⟩ := hf
  refine zr_callIN [] (cX8_init_ok h35) zvs_X8_init zl_557 rfl zl_556 rfl (Nat.le_of_ble_eq_true rfl) (Nat.le_of_ble_eq_true rfl) (Nat.le_of_ble_eq_true rfl) (Nat.le_of_ble_eq_true rfl) dX11_init_68 rfl ?_
  replace hf := zb1_s hf
  obtain ⟨m37, h38, hf⟩ := hf
  refine zr_putF h38 hin rfl zk11 (by decide) zl_558 rfl rfl rfl dX11_init_71 ?_
  refine zr_aload_n 0 dX11_init_74 rfl ?_
  refine zr_new [.null, .null, .null] zk0 zl_559 zl_560 zl_31 (by decide +kernel) (Nat.le_of_ble_eq_true rfl) (Nat.le_of_ble_eq_true rfl) dX11_init_75 ?_
  replace hf := zb1_s hf
  obtain ⟨m39, h40, hf⟩ := hf
  obtain rfl := Option.some.inj h40
  refine zr_dup dX11_init_78 rfl ?_
  replace hf := zb1_s hf
  obtain ⟨m42, h41, hf⟩ := hf
  refine zr_callIN [] (cX0_init_ok h41) zvs_X0_init zl_563 rfl zl_562 rfl (Nat.le_of_ble_eq_true rfl) (Nat.le_of_ble_eq_true rfl) (Nat.le_of_ble_eq_true rfl) (Nat.le_of_ble_eq_true rfl) dX11_init_79 rfl ?_
  replace hf := zb1_s hf
  obtain ⟨m43, h44, hf⟩ := hf
  refine zr_putF h44 hin rfl zk11 (by decide) zl_564 rfl rfl rfl dX11_init_82 ?_
  cases hf
  exact zr_vret dX11_init_85
theorem zl_565 : Cond.fieldLink RX11 61 "TwoEchoes$Told" "length" "I" ∈ zt := zt_at 318 (by decide +kernel)
theorem zl_566 : Cond.code yX7_put cX7_put 3 (none) ∈ zt := zt_at 514 (by decide +kernel)
theorem zvs_X7_put : zvS yX7_put cX7_put 3 (none) 1 := ⟨zl_566, zl_528, ⟨by decide +kernel, by decide +kernel, by decide +kernel⟩, by decide⟩
theorem zl_567 : Cond.methodLink RX11 65 yX7_put ∈ zt := zt_at 511 (by decide +kernel)
theorem zl_568 : Cond.instanceMethod yX7_put ∈ zt := zt_at 512 (by decide +kernel)
theorem zl_569 : Cond.selects RX7 yX7_put yX7_put ∈ zt := zt_at 513 (by decide +kernel)
theorem dX11_feed_0 : decode cX11_feed 0 = .ok (.aload_n 0, 1) := by decide +kernel
theorem dX11_feed_1 : decode cX11_feed 1 = .ok (.getfield 10, 3) := by decide +kernel
theorem dX11_feed_4 : decode cX11_feed 4 = .ok (.getfield 61, 3) := by decide +kernel
theorem dX11_feed_7 : decode cX11_feed 7 = .ok (.bipush 20, 2) := by decide +kernel
theorem dX11_feed_9 : decode cX11_feed 9 = .ok (.iadd, 1) := by decide +kernel
theorem dX11_feed_10 : decode cX11_feed 10 = .ok (.sipush 600, 3) := by decide +kernel
theorem dX11_feed_13 : decode cX11_feed 13 = .ok (.if_icmp .le 5, 3) := by decide +kernel
theorem dX11_feed_16 : decode cX11_feed 16 = .ok (.iconst (-1), 1) := by decide +kernel
theorem dX11_feed_17 : decode cX11_feed 17 = .ok (.ireturn, 1) := by decide +kernel
theorem dX11_feed_18 : decode cX11_feed 18 = .ok (.aload_n 0, 1) := by decide +kernel
theorem dX11_feed_19 : decode cX11_feed 19 = .ok (.getfield 10, 3) := by decide +kernel
theorem dX11_feed_22 : decode cX11_feed 22 = .ok (.iload_n 1, 1) := by decide +kernel
theorem dX11_feed_23 : decode cX11_feed 23 = .ok (.invokevirtual 65, 3) := by decide +kernel
theorem dX11_feed_26 : decode cX11_feed 26 = .ok (.aload_n 0, 1) := by decide +kernel
theorem dX11_feed_27 : decode cX11_feed 27 = .ok (.getfield 10, 3) := by decide +kernel
theorem dX11_feed_30 : decode cX11_feed 30 = .ok (.iload_n 2, 1) := by decide +kernel
theorem dX11_feed_31 : decode cX11_feed 31 = .ok (.invokevirtual 65, 3) := by decide +kernel
theorem dX11_feed_34 : decode cX11_feed 34 = .ok (.aload_n 0, 1) := by decide +kernel
theorem dX11_feed_35 : decode cX11_feed 35 = .ok (.getfield 10, 3) := by decide +kernel
theorem dX11_feed_38 : decode cX11_feed 38 = .ok (.iload_n 3, 1) := by decide +kernel
theorem dX11_feed_39 : decode cX11_feed 39 = .ok (.invokevirtual 65, 3) := by decide +kernel
theorem dX11_feed_42 : decode cX11_feed 42 = .ok (.aload_n 0, 1) := by decide +kernel
theorem dX11_feed_43 : decode cX11_feed 43 = .ok (.getfield 10, 3) := by decide +kernel
theorem dX11_feed_46 : decode cX11_feed 46 = .ok (.iload 4, 2) := by decide +kernel
theorem dX11_feed_48 : decode cX11_feed 48 = .ok (.invokevirtual 65, 3) := by decide +kernel
theorem dX11_feed_51 : decode cX11_feed 51 = .ok (.aload_n 0, 1) := by decide +kernel
theorem dX11_feed_52 : decode cX11_feed 52 = .ok (.getfield 10, 3) := by decide +kernel
theorem dX11_feed_55 : decode cX11_feed 55 = .ok (.iload 5, 2) := by decide +kernel
theorem dX11_feed_57 : decode cX11_feed 57 = .ok (.invokevirtual 65, 3) := by decide +kernel
theorem dX11_feed_60 : decode cX11_feed 60 = .ok (.aload_n 0, 1) := by decide +kernel
theorem dX11_feed_61 : decode cX11_feed 61 = .ok (.getfield 10, 3) := by decide +kernel
theorem dX11_feed_64 : decode cX11_feed 64 = .ok (.getfield 61, 3) := by decide +kernel
theorem dX11_feed_67 : decode cX11_feed 67 = .ok (.ireturn, 1) := by decide +kernel
def fX11_feed (μ : zM) (x0 : Nat) (x1 : Int32) (x2 : Int32) (x3 : Int32) (x4 : Int32) (x5 : Int32) : Option (Int32 × zM) := zgd (zm_ck μ 11 x0) <|
  zb1 (zm_gR μ 11 x0 0) fun v1 =>
  zb1 (zm_gI μ 7 v1 1) fun v3 =>
  if (v3 + 20) ≤ 600 then (
  zb1 (zm_gR μ 11 x0 0) fun v5 =>
  zb1 (fX7_put μ v5 x1) fun m8 =>
  zb1 (zm_gR m8 11 x0 0) fun v9 =>
  zb1 (fX7_put m8 v9 x2) fun m12 =>
  zb1 (zm_gR m12 11 x0 0) fun v13 =>
  zb1 (fX7_put m12 v13 x3) fun m16 =>
  zb1 (zm_gR m16 11 x0 0) fun v17 =>
  zb1 (fX7_put m16 v17 x4) fun m20 =>
  zb1 (zm_gR m20 11 x0 0) fun v21 =>
  zb1 (fX7_put m20 v21 x5) fun m24 =>
  zb1 (zm_gR m24 11 x0 0) fun v25 =>
  zb1 (zm_gI m24 7 v25 1) fun v27 =>
  some (v27, m24))
  else (
  some ((-1), μ))
theorem fX11_feed_ck {μ : zM} {x0 : Nat} {x1 : Int32} {x2 : Int32} {x3 : Int32} {x4 : Int32} {x5 : Int32} {z : Int32 × zM} (h : fX11_feed μ x0 x1 x2 x3 x4 x5 = some z) : zm_ck μ 11 x0 = true := (zgd_s h).1
set_option maxHeartbeats 4000000 in
set_option maxRecDepth 100000 in
theorem cX11_feed_ok {μ : zM} {x0 : Nat} {x1 : Int32} {x2 : Int32} {x3 : Int32} {x4 : Int32} {x5 : Int32} {r : Int32} {mo : zM} (hf : fX11_feed μ x0 x1 x2 x3 x4 x5 = some (r, mo)) : zC yX11_feed cX11_feed 6 (some .int) 1 0 0 [.ref x0, .int x1, .int x2, .int x3, .int x4, .int x5] μ (some (.int r)) mo := by
  replace hf := (zgd_s hf).2
  refine zC.of (by decide) (Nat.le_of_ble_eq_true rfl) (fun K hin => ?_)
  clear hin
  show zz K cX11_feed (6, RX11, some .int, 1, 0, 0, some (.int r), mo) 0 0 0 [(0, .ref x0), (1, .int x1), (2, .int x2), (3, .int x3), (4, .int x4), (5, .int x5)] [] μ
  refine zr_aload_n 0 dX11_feed_0 rfl ?_
  replace hf := zb1_s hf
  obtain ⟨v1, h2, hf⟩ := hf
  refine zr_get (zm_gR_g h2) zk11 (by decide) zl_532 dX11_feed_1 ?_
  replace hf := zb1_s hf
  obtain ⟨v3, h4, hf⟩ := hf
  refine zr_get (zm_gI_g h4) zk7 (by decide) zl_565 dX11_feed_4 ?_
  refine zr_bipush 20 dX11_feed_7 (by decide) ?_
  refine zr_iadd dX11_feed_9 ?_
  refine zr_sipush 600 dX11_feed_10 (by decide) ?_
  refine zr_icmp_le 18 dX11_feed_13 (by decide) (fun hc => ?_) (fun hc => ?_)
  · rw [if_pos hc] at hf
    refine zr_aload_n 0 dX11_feed_18 rfl ?_
    replace hf := zb1_s hf
    obtain ⟨v5, h6, hf⟩ := hf
    refine zr_get (zm_gR_g h6) zk11 (by decide) zl_532 dX11_feed_19 ?_
    refine zr_iload_n 1 dX11_feed_22 rfl ?_
    replace hf := zb1_s hf
    obtain ⟨m8, h7, hf⟩ := hf
    refine zr_callV (ci := 7) [.int x1] (cX7_put_ok h7) zvs_X7_put zl_568 zl_569 (fX7_put_ck h7) rfl rfl zl_567 rfl (Nat.le_of_ble_eq_true rfl) (Nat.le_of_ble_eq_true rfl) (Nat.le_of_ble_eq_true rfl) (Nat.le_of_ble_eq_true rfl) dX11_feed_23 rfl ?_
    refine zr_aload_n 0 dX11_feed_26 rfl ?_
    replace hf := zb1_s hf
    obtain ⟨v9, h10, hf⟩ := hf
    refine zr_get (zm_gR_g h10) zk11 (by decide) zl_532 dX11_feed_27 ?_
    refine zr_iload_n 2 dX11_feed_30 rfl ?_
    replace hf := zb1_s hf
    obtain ⟨m12, h11, hf⟩ := hf
    refine zr_callV (ci := 7) [.int x2] (cX7_put_ok h11) zvs_X7_put zl_568 zl_569 (fX7_put_ck h11) rfl rfl zl_567 rfl (Nat.le_of_ble_eq_true rfl) (Nat.le_of_ble_eq_true rfl) (Nat.le_of_ble_eq_true rfl) (Nat.le_of_ble_eq_true rfl) dX11_feed_31 rfl ?_
    refine zr_aload_n 0 dX11_feed_34 rfl ?_
    replace hf := zb1_s hf
    obtain ⟨v13, h14, hf⟩ := hf
    refine zr_get (zm_gR_g h14) zk11 (by decide) zl_532 dX11_feed_35 ?_
    refine zr_iload_n 3 dX11_feed_38 rfl ?_
    replace hf := zb1_s hf
    obtain ⟨m16, h15, hf⟩ := hf
    refine zr_callV (ci := 7) [.int x3] (cX7_put_ok h15) zvs_X7_put zl_568 zl_569 (fX7_put_ck h15) rfl rfl zl_567 rfl (Nat.le_of_ble_eq_true rfl) (Nat.le_of_ble_eq_true rfl) (Nat.le_of_ble_eq_true rfl) (Nat.le_of_ble_eq_true rfl) dX11_feed_39 rfl ?_
    refine zr_aload_n 0 dX11_feed_42 rfl ?_
    replace hf := zb1_s hf
    obtain ⟨v17, h18, hf⟩ := hf
    refine zr_get (zm_gR_g h18) zk11 (by decide) zl_532 dX11_feed_43 ?_
    refine zr_iload 4 dX11_feed_46 rfl ?_
    replace hf := zb1_s hf
    obtain ⟨m20, h19, hf⟩ := hf
    refine zr_callV (ci := 7) [.int x4] (cX7_put_ok h19) zvs_X7_put zl_568 zl_569 (fX7_put_ck h19) rfl rfl zl_567 rfl (Nat.le_of_ble_eq_true rfl) (Nat.le_of_ble_eq_true rfl) (Nat.le_of_ble_eq_true rfl) (Nat.le_of_ble_eq_true rfl) dX11_feed_48 rfl ?_
    refine zr_aload_n 0 dX11_feed_51 rfl ?_
    replace hf := zb1_s hf
    obtain ⟨v21, h22, hf⟩ := hf
    refine zr_get (zm_gR_g h22) zk11 (by decide) zl_532 dX11_feed_52 ?_
    refine zr_iload 5 dX11_feed_55 rfl ?_
    replace hf := zb1_s hf
    obtain ⟨m24, h23, hf⟩ := hf
    refine zr_callV (ci := 7) [.int x5] (cX7_put_ok h23) zvs_X7_put zl_568 zl_569 (fX7_put_ck h23) rfl rfl zl_567 rfl (Nat.le_of_ble_eq_true rfl) (Nat.le_of_ble_eq_true rfl) (Nat.le_of_ble_eq_true rfl) (Nat.le_of_ble_eq_true rfl) dX11_feed_57 rfl ?_
    refine zr_aload_n 0 dX11_feed_60 rfl ?_
    replace hf := zb1_s hf
    obtain ⟨v25, h26, hf⟩ := hf
    refine zr_get (zm_gR_g h26) zk11 (by decide) zl_532 dX11_feed_61 ?_
    replace hf := zb1_s hf
    obtain ⟨v27, h28, hf⟩ := hf
    refine zr_get (zm_gI_g h28) zk7 (by decide) zl_565 dX11_feed_64 ?_
    cases hf
    exact zr_iret dX11_feed_67
  · rw [if_neg hc] at hf
    refine zr_iconst (-1) dX11_feed_16 (by decide) ?_
    cases hf
    exact zr_iret dX11_feed_17
theorem dX11_end_0 : decode cX11_end 0 = .ok (.iload_n 1, 1) := by decide +kernel
theorem dX11_end_1 : decode cX11_end 1 = .ok (.ifCond .lt 14, 3) := by decide +kernel
theorem dX11_end_4 : decode cX11_end 4 = .ok (.iload_n 1, 1) := by decide +kernel
theorem dX11_end_5 : decode cX11_end 5 = .ok (.aload_n 0, 1) := by decide +kernel
theorem dX11_end_6 : decode cX11_end 6 = .ok (.getfield 10, 3) := by decide +kernel
theorem dX11_end_9 : decode cX11_end 9 = .ok (.getfield 61, 3) := by decide +kernel
theorem dX11_end_12 : decode cX11_end 12 = .ok (.if_icmp .le 5, 3) := by decide +kernel
theorem dX11_end_15 : decode cX11_end 15 = .ok (.iconst (-1), 1) := by decide +kernel
theorem dX11_end_16 : decode cX11_end 16 = .ok (.ireturn, 1) := by decide +kernel
theorem dX11_end_17 : decode cX11_end 17 = .ok (.aload_n 0, 1) := by decide +kernel
theorem dX11_end_18 : decode cX11_end 18 = .ok (.getfield 10, 3) := by decide +kernel
theorem dX11_end_21 : decode cX11_end 21 = .ok (.iload_n 1, 1) := by decide +kernel
theorem dX11_end_22 : decode cX11_end 22 = .ok (.putfield 61, 3) := by decide +kernel
theorem dX11_end_25 : decode cX11_end 25 = .ok (.iload_n 1, 1) := by decide +kernel
theorem dX11_end_26 : decode cX11_end 26 = .ok (.ireturn, 1) := by decide +kernel
def fX11_end (μ : zM) (x0 : Nat) (x1 : Int32) : Option (Int32 × zM) := zgd (zm_ck μ 11 x0) <|
  if x1 < 0 then (
  some ((-1), μ))
  else (
  zb1 (zm_gR μ 11 x0 0) fun v1 =>
  zb1 (zm_gI μ 7 v1 1) fun v3 =>
  if x1 ≤ v3 then (
  zb1 (zm_gR μ 11 x0 0) fun v5 =>
  zb1 (zm_p μ 7 v5 1 (.int x1)) fun m7 =>
  some (x1, m7))
  else (
  some ((-1), μ)))
theorem fX11_end_ck {μ : zM} {x0 : Nat} {x1 : Int32} {z : Int32 × zM} (h : fX11_end μ x0 x1 = some z) : zm_ck μ 11 x0 = true := (zgd_s h).1
set_option maxHeartbeats 4000000 in
set_option maxRecDepth 100000 in
theorem cX11_end_ok {μ : zM} {x0 : Nat} {x1 : Int32} {r : Int32} {mo : zM} (hf : fX11_end μ x0 x1 = some (r, mo)) : zC yX11_end cX11_end 2 (some .int) 0 0 0 [.ref x0, .int x1] μ (some (.int r)) mo := by
  replace hf := (zgd_s hf).2
  refine zC.of (by decide) (Nat.le_of_ble_eq_true rfl) (fun K hin => ?_)
  clear hin
  show zz K cX11_end (2, RX11, some .int, 0, 0, 0, some (.int r), mo) 0 0 0 [(0, .ref x0), (1, .int x1)] [] μ
  refine zr_iload_n 1 dX11_end_0 rfl ?_
  refine zr_if_lt 15 dX11_end_1 (by decide) (fun hc => ?_) (fun hc => ?_)
  · rw [if_pos hc] at hf
    refine zr_iconst (-1) dX11_end_15 (by decide) ?_
    cases hf
    exact zr_iret dX11_end_16
  · rw [if_neg hc] at hf
    refine zr_iload_n 1 dX11_end_4 rfl ?_
    refine zr_aload_n 0 dX11_end_5 rfl ?_
    replace hf := zb1_s hf
    obtain ⟨v1, h2, hf⟩ := hf
    refine zr_get (zm_gR_g h2) zk11 (by decide) zl_532 dX11_end_6 ?_
    replace hf := zb1_s hf
    obtain ⟨v3, h4, hf⟩ := hf
    refine zr_get (zm_gI_g h4) zk7 (by decide) zl_565 dX11_end_9 ?_
    refine zr_icmp_le 17 dX11_end_12 (by decide) (fun hc => ?_) (fun hc => ?_)
    · rw [if_pos hc] at hf
      refine zr_aload_n 0 dX11_end_17 rfl ?_
      replace hf := zb1_s hf
      obtain ⟨v5, h6, hf⟩ := hf
      refine zr_get (zm_gR_g h6) zk11 (by decide) zl_532 dX11_end_18 ?_
      refine zr_iload_n 1 dX11_end_21 rfl ?_
      replace hf := zb1_s hf
      obtain ⟨m7, h8, hf⟩ := hf
      refine zr_put h8 zk7 (by decide) zl_565 rfl rfl rfl dX11_end_22 ?_
      refine zr_iload_n 1 dX11_end_25 rfl ?_
      cases hf
      exact zr_iret dX11_end_26
    · rw [if_neg hc] at hf
      refine zr_iconst (-1) dX11_end_15 (by decide) ?_
      cases hf
      exact zr_iret dX11_end_16
theorem zl_570 : Cond.fieldLink RX11 72 "TwoEchoes$Told" "faultPlace" "I" ∈ zt := zt_at 322 (by decide +kernel)
theorem zl_571 : Cond.fieldLink RX11 69 "TwoEchoes$Told" "fault" "I" ∈ zt := zt_at 320 (by decide +kernel)
theorem dX11_fault_0 : decode cX11_fault 0 = .ok (.iload_n 1, 1) := by decide +kernel
theorem dX11_fault_1 : decode cX11_fault 1 = .ok (.ifCond .ne 11, 3) := by decide +kernel
theorem dX11_fault_4 : decode cX11_fault 4 = .ok (.aload_n 0, 1) := by decide +kernel
theorem dX11_fault_5 : decode cX11_fault 5 = .ok (.getfield 10, 3) := by decide +kernel
theorem dX11_fault_8 : decode cX11_fault 8 = .ok (.getfield 69, 3) := by decide +kernel
theorem dX11_fault_11 : decode cX11_fault 11 = .ok (.ireturn, 1) := by decide +kernel
theorem dX11_fault_12 : decode cX11_fault 12 = .ok (.iload_n 1, 1) := by decide +kernel
theorem dX11_fault_13 : decode cX11_fault 13 = .ok (.iconst 1, 1) := by decide +kernel
theorem dX11_fault_14 : decode cX11_fault 14 = .ok (.if_icmp .ne 13, 3) := by decide +kernel
theorem dX11_fault_17 : decode cX11_fault 17 = .ok (.aload_n 0, 1) := by decide +kernel
theorem dX11_fault_18 : decode cX11_fault 18 = .ok (.getfield 10, 3) := by decide +kernel
theorem dX11_fault_21 : decode cX11_fault 21 = .ok (.getfield 72, 3) := by decide +kernel
theorem dX11_fault_24 : decode cX11_fault 24 = .ok (.goto 4, 3) := by decide +kernel
theorem dX11_fault_27 : decode cX11_fault 27 = .ok (.iconst (-1), 1) := by decide +kernel
theorem dX11_fault_28 : decode cX11_fault 28 = .ok (.ireturn, 1) := by decide +kernel
def fX11_fault (μ : zM) (x0 : Nat) (x1 : Int32) : Option (Int32) := zgd (zm_ck μ 11 x0) <|
  if x1 = 0 then (
  zb1 (zm_gR μ 11 x0 0) fun v7 =>
  zb1 (zm_gI μ 7 v7 2) fun v9 =>
  some v9)
  else (
  zb1 (if x1 = 1 then (
  zb1 (zm_gR μ 11 x0 0) fun v3 =>
  zb1 (zm_gI μ 7 v3 3) fun v5 =>
  some v5)
  else (
  some (-1))) fun s1 =>
  some s1)
theorem fX11_fault_ck {μ : zM} {x0 : Nat} {x1 : Int32} {z : Int32} (h : fX11_fault μ x0 x1 = some z) : zm_ck μ 11 x0 = true := (zgd_s h).1
set_option maxHeartbeats 4000000 in
set_option maxRecDepth 100000 in
theorem cX11_fault_ok {μ : zM} {x0 : Nat} {x1 : Int32} {r : Int32} (hf : fX11_fault μ x0 x1 = some r) : zC yX11_fault cX11_fault 2 (some .int) 0 0 0 [.ref x0, .int x1] μ (some (.int r)) μ := by
  replace hf := (zgd_s hf).2
  refine zC.of (by decide) (Nat.le_of_ble_eq_true rfl) (fun K hin => ?_)
  clear hin
  show zz K cX11_fault (2, RX11, some .int, 0, 0, 0, some (.int r), μ) 0 0 0 [(0, .ref x0), (1, .int x1)] [] μ
  refine zr_iload_n 1 dX11_fault_0 rfl ?_
  refine zr_if_ne 12 dX11_fault_1 (by decide) (fun hc => ?_) (fun hc => ?_)
  · rw [if_neg hc] at hf
    refine zr_iload_n 1 dX11_fault_12 rfl ?_
    refine zr_iconst 1 dX11_fault_13 (by decide) ?_
    replace hf := zb1_s hf
    obtain ⟨s1, hg, hf⟩ := hf
    have hj2 : zz K cX11_fault (2, RX11, some .int, 0, 0, 0, some (.int r), μ) 0 0 28 [] [.int s1] μ := by
      cases hf
      exact zr_iret dX11_fault_28
    clear hf
    have hf := hg
    clear hg
    refine zr_icmp_ne 27 dX11_fault_14 (by decide) (fun hc => ?_) (fun hc => ?_)
    · rw [if_neg hc] at hf
      refine zr_iconst (-1) dX11_fault_27 (by decide) ?_
      cases hf
      exact zr_lv [] rfl hj2
    · rw [if_pos hc] at hf
      refine zr_aload_n 0 dX11_fault_17 rfl ?_
      replace hf := zb1_s hf
      obtain ⟨v3, h4, hf⟩ := hf
      refine zr_get (zm_gR_g h4) zk11 (by decide) zl_532 dX11_fault_18 ?_
      replace hf := zb1_s hf
      obtain ⟨v5, h6, hf⟩ := hf
      refine zr_get (zm_gI_g h6) zk7 (by decide) zl_570 dX11_fault_21 ?_
      refine zr_goto 28 dX11_fault_24 (by decide) ?_
      cases hf
      exact zr_lv [] rfl hj2
  · rw [if_pos hc] at hf
    refine zr_aload_n 0 dX11_fault_4 rfl ?_
    replace hf := zb1_s hf
    obtain ⟨v7, h8, hf⟩ := hf
    refine zr_get (zm_gR_g h8) zk11 (by decide) zl_532 dX11_fault_5 ?_
    replace hf := zb1_s hf
    obtain ⟨v9, h10, hf⟩ := hf
    refine zr_get (zm_gI_g h10) zk7 (by decide) zl_571 dX11_fault_8 ?_
    cases hf
    exact zr_iret dX11_fault_11
theorem zl_572 : Cond.fieldLink RX11 318 "TwoEchoes$Told" "counts" "[I" ∈ zt := zt_at 324 (by decide +kernel)
theorem zl_573 : Cond.fieldLink RX11 325 "TwoEchoes$Told" "valleys" "[LTwoEchoes$Valley;" ∈ zt := zt_at 326 (by decide +kernel)
theorem dX11_valleyAt_0 : decode cX11_valleyAt 0 = .ok (.iload_n 1, 1) := by decide +kernel
theorem dX11_valleyAt_1 : decode cX11_valleyAt 1 = .ok (.ifCond .lt 16, 3) := by decide +kernel
theorem dX11_valleyAt_4 : decode cX11_valleyAt 4 = .ok (.iload_n 1, 1) := by decide +kernel
theorem dX11_valleyAt_5 : decode cX11_valleyAt 5 = .ok (.aload_n 0, 1) := by decide +kernel
theorem dX11_valleyAt_6 : decode cX11_valleyAt 6 = .ok (.getfield 10, 3) := by decide +kernel
theorem dX11_valleyAt_9 : decode cX11_valleyAt 9 = .ok (.getfield 318, 3) := by decide +kernel
theorem dX11_valleyAt_12 : decode cX11_valleyAt 12 = .ok (.iconst 0, 1) := by decide +kernel
theorem dX11_valleyAt_13 : decode cX11_valleyAt 13 = .ok (.iaload, 1) := by decide +kernel
theorem dX11_valleyAt_14 : decode cX11_valleyAt 14 = .ok (.if_icmp .lt 7, 3) := by decide +kernel
theorem dX11_valleyAt_17 : decode cX11_valleyAt 17 = .ok (.aconst_null, 1) := by decide +kernel
theorem dX11_valleyAt_18 : decode cX11_valleyAt 18 = .ok (.goto 12, 3) := by decide +kernel
theorem dX11_valleyAt_21 : decode cX11_valleyAt 21 = .ok (.aload_n 0, 1) := by decide +kernel
theorem dX11_valleyAt_22 : decode cX11_valleyAt 22 = .ok (.getfield 10, 3) := by decide +kernel
theorem dX11_valleyAt_25 : decode cX11_valleyAt 25 = .ok (.getfield 325, 3) := by decide +kernel
theorem dX11_valleyAt_28 : decode cX11_valleyAt 28 = .ok (.iload_n 1, 1) := by decide +kernel
theorem dX11_valleyAt_29 : decode cX11_valleyAt 29 = .ok (.aaload, 1) := by decide +kernel
theorem dX11_valleyAt_30 : decode cX11_valleyAt 30 = .ok (.areturn, 1) := by decide +kernel
def fX11_valleyAt (μ : zM) (x0 : Nat) (x1 : Int32) : Option (Option Nat) := zgd (zm_ck μ 11 x0) <|
  zb1 (if x1 < 0 then (
  some none)
  else (
  zb1 (zm_gR μ 11 x0 0) fun v3 =>
  zb1 (zm_gR μ 7 v3 4) fun v5 =>
  zb1 (zm_aI μ 0 v5 0) fun v7 =>
  if x1 < v7 then (
  zb1 (zm_gR μ 11 x0 0) fun v9 =>
  zb1 (zm_gR μ 7 v9 5) fun v11 =>
  zb1 (zm_aQ μ 4 v11 x1) fun v13 =>
  some v13)
  else (
  some none))) fun s1 =>
  some s1
theorem fX11_valleyAt_ck {μ : zM} {x0 : Nat} {x1 : Int32} {z : Option Nat} (h : fX11_valleyAt μ x0 x1 = some z) : zm_ck μ 11 x0 = true := (zgd_s h).1
set_option maxHeartbeats 4000000 in
set_option maxRecDepth 100000 in
theorem cX11_valleyAt_ok {μ : zM} {x0 : Nat} {x1 : Int32} {r : Option Nat} (hf : fX11_valleyAt μ x0 x1 = some r) : zC yX11_valleyAt cX11_valleyAt 2 (some (.object "TwoEchoes$Valley")) 0 0 0 [.ref x0, .int x1] μ (some (va_rf r)) μ := by
  replace hf := (zgd_s hf).2
  refine zC.of (by decide) (Nat.le_of_ble_eq_true rfl) (fun K hin => ?_)
  clear hin
  show zz K cX11_valleyAt (2, RX11, some (.object "TwoEchoes$Valley"), 0, 0, 0, some (va_rf r), μ) 0 0 0 [(0, .ref x0), (1, .int x1)] [] μ
  refine zr_iload_n 1 dX11_valleyAt_0 rfl ?_
  replace hf := zb1_s hf
  obtain ⟨s1, hg, hf⟩ := hf
  have hj2 : zz K cX11_valleyAt (2, RX11, some (.object "TwoEchoes$Valley"), 0, 0, 0, some (va_rf r), μ) 0 0 30 [] [va_rf s1] μ := by
    cases hf
    exact zr_aret (v := s1) dX11_valleyAt_30
  clear hf
  have hf := hg
  clear hg
  refine zr_if_lt 17 dX11_valleyAt_1 (by decide) (fun hc => ?_) (fun hc => ?_)
  · rw [if_pos hc] at hf
    refine zr_null dX11_valleyAt_17 ?_
    refine zr_goto 30 dX11_valleyAt_18 (by decide) ?_
    cases hf
    exact zr_lv [] rfl hj2
  · rw [if_neg hc] at hf
    refine zr_iload_n 1 dX11_valleyAt_4 rfl ?_
    refine zr_aload_n 0 dX11_valleyAt_5 rfl ?_
    replace hf := zb1_s hf
    obtain ⟨v3, h4, hf⟩ := hf
    refine zr_get (zm_gR_g h4) zk11 (by decide) zl_532 dX11_valleyAt_6 ?_
    replace hf := zb1_s hf
    obtain ⟨v5, h6, hf⟩ := hf
    refine zr_get (zm_gR_g h6) zk7 (by decide) zl_572 dX11_valleyAt_9 ?_
    refine zr_iconst 0 dX11_valleyAt_12 (by decide) ?_
    replace hf := zb1_s hf
    obtain ⟨v7, h8, hf⟩ := hf
    refine zr_iald h8 dX11_valleyAt_13 ?_
    refine zr_icmp_lt 21 dX11_valleyAt_14 (by decide) (fun hc => ?_) (fun hc => ?_)
    · rw [if_pos hc] at hf
      refine zr_aload_n 0 dX11_valleyAt_21 rfl ?_
      replace hf := zb1_s hf
      obtain ⟨v9, h10, hf⟩ := hf
      refine zr_get (zm_gR_g h10) zk11 (by decide) zl_532 dX11_valleyAt_22 ?_
      replace hf := zb1_s hf
      obtain ⟨v11, h12, hf⟩ := hf
      refine zr_get (zm_gR_g h12) zk7 (by decide) zl_573 dX11_valleyAt_25 ?_
      refine zr_iload_n 1 dX11_valleyAt_28 rfl ?_
      replace hf := zb1_s hf
      obtain ⟨v13, h14, hf⟩ := hf
      refine zr_aald h14 (by decide) rfl dX11_valleyAt_29 ?_
      cases hf
      exact zr_lv [] rfl hj2
    · rw [if_neg hc] at hf
      refine zr_null dX11_valleyAt_17 ?_
      refine zr_goto 30 dX11_valleyAt_18 (by decide) ?_
      cases hf
      exact zr_lv [] rfl hj2
theorem zl_574 : Cond.code yX11_valleyAt cX11_valleyAt 2 (some (.object "TwoEchoes$Valley")) ∈ zt := zt_at 768 (by decide +kernel)
theorem zvs_X11_valleyAt : zvS yX11_valleyAt cX11_valleyAt 2 (some (.object "TwoEchoes$Valley")) 1 := ⟨zl_574, zl_118, ⟨by decide +kernel, by decide +kernel, by decide +kernel⟩, by decide⟩
theorem zl_575 : Cond.methodLink RX11 89 yX11_valleyAt ∈ zt := zt_at 765 (by decide +kernel)
theorem zl_576 : Cond.instanceMethod yX11_valleyAt ∈ zt := zt_at 767 (by decide +kernel)
theorem zl_577 : Cond.selects RX11 yX11_valleyAt yX11_valleyAt ∈ zt := zt_at 15 (by decide +kernel)
theorem zl_578 : Cond.code yX9_tell cX9_tell 3 (some .int) ∈ zt := zt_at 772 (by decide +kernel)
theorem zvs_X9_tell : zvS yX9_tell cX9_tell 3 (some .int) 1 := ⟨zl_578, zl_14, ⟨by decide +kernel, by decide +kernel, by decide +kernel⟩, by decide⟩
theorem zl_579 : Cond.methodLink RX11 93 yX9_tell ∈ zt := zt_at 769 (by decide +kernel)
theorem zl_580 : Cond.instanceMethod yX9_tell ∈ zt := zt_at 770 (by decide +kernel)
theorem zl_581 : Cond.selects RX9 yX9_tell yX9_tell ∈ zt := zt_at 771 (by decide +kernel)
theorem dX11_valley_0 : decode cX11_valley 0 = .ok (.aload_n 0, 1) := by decide +kernel
theorem dX11_valley_1 : decode cX11_valley 1 = .ok (.iload_n 1, 1) := by decide +kernel
theorem dX11_valley_2 : decode cX11_valley 2 = .ok (.invokevirtual 89, 3) := by decide +kernel
theorem dX11_valley_5 : decode cX11_valley 5 = .ok (.astore_n 3, 1) := by decide +kernel
theorem dX11_valley_6 : decode cX11_valley 6 = .ok (.aload_n 3, 1) := by decide +kernel
theorem dX11_valley_7 : decode cX11_valley 7 = .ok (.ifnonnull 7, 3) := by decide +kernel
theorem dX11_valley_10 : decode cX11_valley 10 = .ok (.iconst (-1), 1) := by decide +kernel
theorem dX11_valley_11 : decode cX11_valley 11 = .ok (.goto 8, 3) := by decide +kernel
theorem dX11_valley_14 : decode cX11_valley 14 = .ok (.aload_n 3, 1) := by decide +kernel
theorem dX11_valley_15 : decode cX11_valley 15 = .ok (.iload_n 2, 1) := by decide +kernel
theorem dX11_valley_16 : decode cX11_valley 16 = .ok (.invokevirtual 93, 3) := by decide +kernel
theorem dX11_valley_19 : decode cX11_valley 19 = .ok (.ireturn, 1) := by decide +kernel
def fX11_valley (μ : zM) (x0 : Nat) (x1 : Int32) (x2 : Int32) : Option (Int32) := zgd (zm_ck μ 11 x0) <|
  zb1 (fX11_valleyAt μ x0 x1) fun v2 =>
  zb1 (zmo v2 (
  some (-1)) fun a5 =>
  zb1 (fX9_tell μ a5 x2) fun v7 =>
  some v7) fun s3 =>
  some s3
theorem fX11_valley_ck {μ : zM} {x0 : Nat} {x1 : Int32} {x2 : Int32} {z : Int32} (h : fX11_valley μ x0 x1 x2 = some z) : zm_ck μ 11 x0 = true := (zgd_s h).1
set_option maxHeartbeats 4000000 in
set_option maxRecDepth 100000 in
theorem cX11_valley_ok {μ : zM} {x0 : Nat} {x1 : Int32} {x2 : Int32} {r : Int32} (hf : fX11_valley μ x0 x1 x2 = some r) : zC yX11_valley cX11_valley 4 (some .int) 2 0 0 [.ref x0, .int x1, .int x2] μ (some (.int r)) μ := by
  replace hf := (zgd_s hf).2
  refine zC.of (by decide) (Nat.le_of_ble_eq_true rfl) (fun K hin => ?_)
  clear hin
  show zz K cX11_valley (4, RX11, some .int, 2, 0, 0, some (.int r), μ) 0 0 0 [(0, .ref x0), (1, .int x1), (2, .int x2)] [] μ
  refine zr_aload_n 0 dX11_valley_0 rfl ?_
  refine zr_iload_n 1 dX11_valley_1 rfl ?_
  replace hf := zb1_s hf
  obtain ⟨v2, h1, hf⟩ := hf
  refine zr_callV (ci := 11) [.int x1] (cX11_valleyAt_ok h1) zvs_X11_valleyAt zl_576 zl_577 (fX11_valleyAt_ck h1) rfl rfl zl_575 rfl (Nat.le_of_ble_eq_true rfl) (Nat.le_of_ble_eq_true rfl) (Nat.le_of_ble_eq_true rfl) (Nat.le_of_ble_eq_true rfl) dX11_valley_2 rfl ?_
  refine zr_ostore_n [(3, va_rf v2), (0, .ref x0), (1, .int x1), (2, .int x2)] dX11_valley_5 (Nat.le_of_ble_eq_true rfl) rfl ?_
  refine zr_oload_n 0 dX11_valley_6 rfl ?_
  replace hf := zb1_s hf
  obtain ⟨s3, hg, hf⟩ := hf
  have hj4 : zz K cX11_valley (4, RX11, some .int, 2, 0, 0, some (.int r), μ) 0 0 19 [] [.int s3] μ := by
    cases hf
    exact zr_iret dX11_valley_19
  clear hf
  have hf := hg
  clear hg
  cases v2 with
  | none =>
    replace hf := zmo_n hf
    refine zr_ifnonnull_n dX11_valley_7 ?_
    refine zr_iconst (-1) dX11_valley_10 (by decide) ?_
    refine zr_goto 19 dX11_valley_11 (by decide) ?_
    cases hf
    exact zr_lv [] rfl hj4
  | some a5 =>
    replace hf := zmo_s hf
    refine zr_ifnonnull_r 14 dX11_valley_7 (by decide) ?_
    refine zr_aload_n 0 dX11_valley_14 rfl ?_
    refine zr_iload_n 3 dX11_valley_15 rfl ?_
    replace hf := zb1_s hf
    obtain ⟨v7, h6, hf⟩ := hf
    refine zr_callV (ci := 9) [.int x2] (cX9_tell_ok h6) zvs_X9_tell zl_580 zl_581 (fX9_tell_ck h6) rfl rfl zl_579 rfl (Nat.le_of_ble_eq_true rfl) (Nat.le_of_ble_eq_true rfl) (Nat.le_of_ble_eq_true rfl) (Nat.le_of_ble_eq_true rfl) dX11_valley_16 rfl ?_
    cases hf
    exact zr_lv [] rfl hj4
theorem dX11_isLoud_0 : decode cX11_isLoud 0 = .ok (.iload_n 0, 1) := by decide +kernel
theorem dX11_isLoud_1 : decode cX11_isLoud 1 = .ok (.ifCond .lt 12, 3) := by decide +kernel
theorem dX11_isLoud_4 : decode cX11_isLoud 4 = .ok (.iload_n 0, 1) := by decide +kernel
theorem dX11_isLoud_5 : decode cX11_isLoud 5 = .ok (.iconst 2, 1) := by decide +kernel
theorem dX11_isLoud_6 : decode cX11_isLoud 6 = .ok (.if_icmp .gt 7, 3) := by decide +kernel
theorem dX11_isLoud_9 : decode cX11_isLoud 9 = .ok (.iconst 1, 1) := by decide +kernel
theorem dX11_isLoud_10 : decode cX11_isLoud 10 = .ok (.goto 4, 3) := by decide +kernel
theorem dX11_isLoud_13 : decode cX11_isLoud 13 = .ok (.iconst 0, 1) := by decide +kernel
theorem dX11_isLoud_14 : decode cX11_isLoud 14 = .ok (.ireturn, 1) := by decide +kernel
def fX11_isLoud (μ : zM) (x0 : Int32) : Option (Int32) :=
  zb1 (if x0 < 0 then (
  some 0)
  else (
  if 2 < x0 then (
  some 0)
  else (
  some 1))) fun s1 =>
  zb1 (zbz s1) fun v3 =>
  some v3
set_option maxHeartbeats 4000000 in
set_option maxRecDepth 100000 in
theorem cX11_isLoud_ok {μ : zM} {x0 : Int32} {r : Int32} (hf : fX11_isLoud μ x0 = some r) : zC yX11_isLoud cX11_isLoud 1 (some .boolean) 0 0 0 [.int x0] μ (some (.int r)) μ := by
  unfold fX11_isLoud at hf
  refine zC.of (by decide) (Nat.le_of_ble_eq_true rfl) (fun K hin => ?_)
  clear hin
  show zz K cX11_isLoud (1, RX11, some .boolean, 0, 0, 0, some (.int r), μ) 0 0 0 [(0, .int x0)] [] μ
  refine zr_iload_n 0 dX11_isLoud_0 rfl ?_
  replace hf := zb1_s hf
  obtain ⟨s1, hg, hf⟩ := hf
  have hj2 : zz K cX11_isLoud (1, RX11, some .boolean, 0, 0, 0, some (.int r), μ) 0 0 14 [] [.int s1] μ := by
    replace hf := zb1_s hf
    obtain ⟨v3, hn4, hf⟩ := hf
    obtain ⟨hn4, rfl⟩ := zbz_s hn4
    cases hf
    exact zr_zret hn4 dX11_isLoud_14
  clear hf
  have hf := hg
  clear hg
  refine zr_if_lt 13 dX11_isLoud_1 (by decide) (fun hc => ?_) (fun hc => ?_)
  · rw [if_pos hc] at hf
    refine zr_iconst 0 dX11_isLoud_13 (by decide) ?_
    cases hf
    exact zr_lv [] rfl hj2
  · rw [if_neg hc] at hf
    refine zr_iload_n 0 dX11_isLoud_4 rfl ?_
    refine zr_iconst 2 dX11_isLoud_5 (by decide) ?_
    refine zr_icmp_gt 13 dX11_isLoud_6 (by decide) (fun hc => ?_) (fun hc => ?_)
    · rw [if_pos hc] at hf
      refine zr_iconst 0 dX11_isLoud_13 (by decide) ?_
      cases hf
      exact zr_lv [] rfl hj2
    · rw [if_neg hc] at hf
      refine zr_iconst 1 dX11_isLoud_9 (by decide) ?_
      refine zr_goto 14 dX11_isLoud_10 (by decide) ?_
      cases hf
      exact zr_lv [] rfl hj2
theorem zl_582 : Cond.methodLink RX11 99 yX9_hasPlace ∈ zt := zt_at 794 (by decide +kernel)
theorem zl_583 : Cond.methodLink RX11 103 yX11_isWord ∈ zt := zt_at 795 (by decide +kernel)
theorem zl_584 : Cond.code yX11_isLoud cX11_isLoud 1 (some .boolean) ∈ zt := zt_at 798 (by decide +kernel)
theorem zvs_X11_isLoud : zvS yX11_isLoud cX11_isLoud 1 (some .boolean) 1 := ⟨zl_584, zl_118, ⟨by decide +kernel, by decide +kernel, by decide +kernel⟩, by decide⟩
theorem zl_585 : Cond.methodLink RX11 106 yX11_isLoud ∈ zt := zt_at 796 (by decide +kernel)
theorem zl_586 : Cond.static yX11_isLoud ∈ zt := zt_at 797 (by decide +kernel)
theorem zl_587 : Cond.methodLink RX11 109 yX11_isMinute ∈ zt := zt_at 799 (by decide +kernel)
theorem zl_588 : Cond.methodLink RX11 112 yX9_arrival ∈ zt := zt_at 802 (by decide +kernel)
theorem dX11_heard_0 : decode cX11_heard 0 = .ok (.aload_n 0, 1) := by decide +kernel
theorem dX11_heard_1 : decode cX11_heard 1 = .ok (.iload_n 1, 1) := by decide +kernel
theorem dX11_heard_2 : decode cX11_heard 2 = .ok (.invokevirtual 89, 3) := by decide +kernel
theorem dX11_heard_5 : decode cX11_heard 5 = .ok (.astore 8, 2) := by decide +kernel
theorem dX11_heard_7 : decode cX11_heard 7 = .ok (.aload 8, 2) := by decide +kernel
theorem dX11_heard_9 : decode cX11_heard 9 = .ok (.ifnull 27, 3) := by decide +kernel
theorem dX11_heard_12 : decode cX11_heard 12 = .ok (.aload 8, 2) := by decide +kernel
theorem dX11_heard_14 : decode cX11_heard 14 = .ok (.iload_n 2, 1) := by decide +kernel
theorem dX11_heard_15 : decode cX11_heard 15 = .ok (.invokevirtual 99, 3) := by decide +kernel
theorem dX11_heard_18 : decode cX11_heard 18 = .ok (.ifCond .eq 18, 3) := by decide +kernel
theorem dX11_heard_21 : decode cX11_heard 21 = .ok (.iload_n 3, 1) := by decide +kernel
theorem dX11_heard_22 : decode cX11_heard 22 = .ok (.invokestatic 103, 3) := by decide +kernel
theorem dX11_heard_25 : decode cX11_heard 25 = .ok (.ifCond .eq 11, 3) := by decide +kernel
theorem dX11_heard_28 : decode cX11_heard 28 = .ok (.iload 4, 2) := by decide +kernel
theorem dX11_heard_30 : decode cX11_heard 30 = .ok (.invokestatic 106, 3) := by decide +kernel
theorem dX11_heard_33 : decode cX11_heard 33 = .ok (.ifCond .ne 5, 3) := by decide +kernel
theorem dX11_heard_36 : decode cX11_heard 36 = .ok (.iconst (-1), 1) := by decide +kernel
theorem dX11_heard_37 : decode cX11_heard 37 = .ok (.ireturn, 1) := by decide +kernel
theorem dX11_heard_38 : decode cX11_heard 38 = .ok (.iload 5, 2) := by decide +kernel
theorem dX11_heard_40 : decode cX11_heard 40 = .ok (.invokestatic 109, 3) := by decide +kernel
theorem dX11_heard_43 : decode cX11_heard 43 = .ok (.ifCond .eq 24, 3) := by decide +kernel
theorem dX11_heard_46 : decode cX11_heard 46 = .ok (.aload 8, 2) := by decide +kernel
theorem dX11_heard_48 : decode cX11_heard 48 = .ok (.iload 6, 2) := by decide +kernel
theorem dX11_heard_50 : decode cX11_heard 50 = .ok (.invokevirtual 99, 3) := by decide +kernel
theorem dX11_heard_53 : decode cX11_heard 53 = .ok (.ifCond .eq 14, 3) := by decide +kernel
theorem dX11_heard_56 : decode cX11_heard 56 = .ok (.iload 7, 2) := by decide +kernel
theorem dX11_heard_58 : decode cX11_heard 58 = .ok (.ifCond .lt 9, 3) := by decide +kernel
theorem dX11_heard_61 : decode cX11_heard 61 = .ok (.iload 7, 2) := by decide +kernel
theorem dX11_heard_63 : decode cX11_heard 63 = .ok (.iconst 2, 1) := by decide +kernel
theorem dX11_heard_64 : decode cX11_heard 64 = .ok (.if_icmp .le 5, 3) := by decide +kernel
theorem dX11_heard_67 : decode cX11_heard 67 = .ok (.iconst (-1), 1) := by decide +kernel
theorem dX11_heard_68 : decode cX11_heard 68 = .ok (.ireturn, 1) := by decide +kernel
theorem dX11_heard_69 : decode cX11_heard 69 = .ok (.aload 8, 2) := by decide +kernel
theorem dX11_heard_71 : decode cX11_heard 71 = .ok (.iload_n 2, 1) := by decide +kernel
theorem dX11_heard_72 : decode cX11_heard 72 = .ok (.iload_n 3, 1) := by decide +kernel
theorem dX11_heard_73 : decode cX11_heard 73 = .ok (.iload 4, 2) := by decide +kernel
theorem dX11_heard_75 : decode cX11_heard 75 = .ok (.iload 5, 2) := by decide +kernel
theorem dX11_heard_77 : decode cX11_heard 77 = .ok (.iload 6, 2) := by decide +kernel
theorem dX11_heard_79 : decode cX11_heard 79 = .ok (.iload 7, 2) := by decide +kernel
theorem dX11_heard_81 : decode cX11_heard 81 = .ok (.invokevirtual 112, 3) := by decide +kernel
theorem dX11_heard_84 : decode cX11_heard 84 = .ok (.ireturn, 1) := by decide +kernel
def fX11_heard (μ : zM) (x0 : Nat) (x1 : Int32) (x2 : Int32) (x3 : Int32) (x4 : Int32) (x5 : Int32) (x6 : Int32) (x7 : Int32) : Option (Int32) := zgd (zm_ck μ 11 x0) <|
  zb1 (fX11_valleyAt μ x0 x1) fun v2 =>
  zmo v2 (
  some (-1)) fun a3 =>
  zb1 (fX9_hasPlace μ a3 x2) fun v5 =>
  if v5 = 0 then (
  some (-1))
  else (
  zb1 (fX11_isWord μ x3) fun v7 =>
  if v7 = 0 then (
  some (-1))
  else (
  zb1 (fX11_isLoud μ x4) fun v9 =>
  if v9 = 0 then (
  some (-1))
  else (
  zb1 (fX11_isMinute μ x5) fun v11 =>
  if v11 = 0 then (
  some (-1))
  else (
  zb1 (fX9_hasPlace μ a3 x6) fun v13 =>
  if v13 = 0 then (
  some (-1))
  else (
  if x7 < 0 then (
  some (-1))
  else (
  if x7 ≤ 2 then (
  zb1 (fX9_arrival μ a3 x2 x3 x4 x5 x6 x7) fun v15 =>
  some v15)
  else (
  some (-1))))))))
theorem fX11_heard_ck {μ : zM} {x0 : Nat} {x1 : Int32} {x2 : Int32} {x3 : Int32} {x4 : Int32} {x5 : Int32} {x6 : Int32} {x7 : Int32} {z : Int32} (h : fX11_heard μ x0 x1 x2 x3 x4 x5 x6 x7 = some z) : zm_ck μ 11 x0 = true := (zgd_s h).1
set_option maxHeartbeats 4000000 in
set_option maxRecDepth 100000 in
theorem cX11_heard_ok {μ : zM} {x0 : Nat} {x1 : Int32} {x2 : Int32} {x3 : Int32} {x4 : Int32} {x5 : Int32} {x6 : Int32} {x7 : Int32} {r : Int32} (hf : fX11_heard μ x0 x1 x2 x3 x4 x5 x6 x7 = some r) : zC yX11_heard cX11_heard 9 (some .int) 3 0 0 [.ref x0, .int x1, .int x2, .int x3, .int x4, .int x5, .int x6, .int x7] μ (some (.int r)) μ := by
  replace hf := (zgd_s hf).2
  refine zC.of (by decide) (Nat.le_of_ble_eq_true rfl) (fun K hin => ?_)
  clear hin
  show zz K cX11_heard (9, RX11, some .int, 3, 0, 0, some (.int r), μ) 0 0 0 [(0, .ref x0), (1, .int x1), (2, .int x2), (3, .int x3), (4, .int x4), (5, .int x5), (6, .int x6), (7, .int x7)] [] μ
  refine zr_aload_n 0 dX11_heard_0 rfl ?_
  refine zr_iload_n 1 dX11_heard_1 rfl ?_
  replace hf := zb1_s hf
  obtain ⟨v2, h1, hf⟩ := hf
  refine zr_callV (ci := 11) [.int x1] (cX11_valleyAt_ok h1) zvs_X11_valleyAt zl_576 zl_577 (fX11_valleyAt_ck h1) rfl rfl zl_575 rfl (Nat.le_of_ble_eq_true rfl) (Nat.le_of_ble_eq_true rfl) (Nat.le_of_ble_eq_true rfl) (Nat.le_of_ble_eq_true rfl) dX11_heard_2 rfl ?_
  refine zr_ostore [(8, va_rf v2), (0, .ref x0), (1, .int x1), (2, .int x2), (3, .int x3), (4, .int x4), (5, .int x5), (6, .int x6), (7, .int x7)] dX11_heard_5 (Nat.le_of_ble_eq_true rfl) rfl ?_
  refine zr_oload 0 dX11_heard_7 rfl ?_
  cases v2 with
  | none =>
    replace hf := zmo_n hf
    refine zr_ifnull_n 36 dX11_heard_9 (by decide) ?_
    refine zr_iconst (-1) dX11_heard_36 (by decide) ?_
    cases hf
    exact zr_iret dX11_heard_37
  | some a3 =>
    replace hf := zmo_s hf
    refine zr_ifnull_r dX11_heard_9 ?_
    refine zr_aload 0 dX11_heard_12 rfl ?_
    refine zr_iload_n 3 dX11_heard_14 rfl ?_
    replace hf := zb1_s hf
    obtain ⟨v5, h4, hf⟩ := hf
    refine zr_callV (ci := 9) [.int x2] (cX9_hasPlace_ok h4) zvs_X9_hasPlace zl_106 zl_107 (fX9_hasPlace_ck h4) rfl rfl zl_582 rfl (Nat.le_of_ble_eq_true rfl) (Nat.le_of_ble_eq_true rfl) (Nat.le_of_ble_eq_true rfl) (Nat.le_of_ble_eq_true rfl) dX11_heard_15 rfl ?_
    refine zr_if_eq 36 dX11_heard_18 (by decide) (fun hc => ?_) (fun hc => ?_)
    · rw [if_pos hc] at hf
      refine zr_iconst (-1) dX11_heard_36 (by decide) ?_
      cases hf
      exact zr_iret dX11_heard_37
    · rw [if_neg hc] at hf
      refine zr_iload_n 4 dX11_heard_21 rfl ?_
      replace hf := zb1_s hf
      obtain ⟨v7, h6, hf⟩ := hf
      refine zr_callS [.int x3] (cX11_isWord_ok h6) zvs_X11_isWord zl_334 zl_583 rfl (Nat.le_of_ble_eq_true rfl) (Nat.le_of_ble_eq_true rfl) (Nat.le_of_ble_eq_true rfl) (Nat.le_of_ble_eq_true rfl) dX11_heard_22 rfl ?_
      refine zr_if_eq 36 dX11_heard_25 (by decide) (fun hc => ?_) (fun hc => ?_)
      · rw [if_pos hc] at hf
        refine zr_iconst (-1) dX11_heard_36 (by decide) ?_
        cases hf
        exact zr_iret dX11_heard_37
      · rw [if_neg hc] at hf
        refine zr_iload 5 dX11_heard_28 rfl ?_
        replace hf := zb1_s hf
        obtain ⟨v9, h8, hf⟩ := hf
        refine zr_callS [.int x4] (cX11_isLoud_ok h8) zvs_X11_isLoud zl_586 zl_585 rfl (Nat.le_of_ble_eq_true rfl) (Nat.le_of_ble_eq_true rfl) (Nat.le_of_ble_eq_true rfl) (Nat.le_of_ble_eq_true rfl) dX11_heard_30 rfl ?_
        refine zr_if_ne 38 dX11_heard_33 (by decide) (fun hc => ?_) (fun hc => ?_)
        · rw [if_neg hc] at hf
          refine zr_iload 6 dX11_heard_38 rfl ?_
          replace hf := zb1_s hf
          obtain ⟨v11, h10, hf⟩ := hf
          refine zr_callS [.int x5] (cX11_isMinute_ok h10) zvs_X11_isMinute zl_120 zl_587 rfl (Nat.le_of_ble_eq_true rfl) (Nat.le_of_ble_eq_true rfl) (Nat.le_of_ble_eq_true rfl) (Nat.le_of_ble_eq_true rfl) dX11_heard_40 rfl ?_
          refine zr_if_eq 67 dX11_heard_43 (by decide) (fun hc => ?_) (fun hc => ?_)
          · rw [if_pos hc] at hf
            refine zr_iconst (-1) dX11_heard_67 (by decide) ?_
            cases hf
            exact zr_iret dX11_heard_68
          · rw [if_neg hc] at hf
            refine zr_aload 0 dX11_heard_46 rfl ?_
            refine zr_iload 7 dX11_heard_48 rfl ?_
            replace hf := zb1_s hf
            obtain ⟨v13, h12, hf⟩ := hf
            refine zr_callV (ci := 9) [.int x6] (cX9_hasPlace_ok h12) zvs_X9_hasPlace zl_106 zl_107 (fX9_hasPlace_ck h12) rfl rfl zl_582 rfl (Nat.le_of_ble_eq_true rfl) (Nat.le_of_ble_eq_true rfl) (Nat.le_of_ble_eq_true rfl) (Nat.le_of_ble_eq_true rfl) dX11_heard_50 rfl ?_
            refine zr_if_eq 67 dX11_heard_53 (by decide) (fun hc => ?_) (fun hc => ?_)
            · rw [if_pos hc] at hf
              refine zr_iconst (-1) dX11_heard_67 (by decide) ?_
              cases hf
              exact zr_iret dX11_heard_68
            · rw [if_neg hc] at hf
              refine zr_iload 8 dX11_heard_56 rfl ?_
              refine zr_if_lt 67 dX11_heard_58 (by decide) (fun hc => ?_) (fun hc => ?_)
              · rw [if_pos hc] at hf
                refine zr_iconst (-1) dX11_heard_67 (by decide) ?_
                cases hf
                exact zr_iret dX11_heard_68
              · rw [if_neg hc] at hf
                refine zr_iload 8 dX11_heard_61 rfl ?_
                refine zr_iconst 2 dX11_heard_63 (by decide) ?_
                refine zr_icmp_le 69 dX11_heard_64 (by decide) (fun hc => ?_) (fun hc => ?_)
                · rw [if_pos hc] at hf
                  refine zr_aload 0 dX11_heard_69 rfl ?_
                  refine zr_iload_n 3 dX11_heard_71 rfl ?_
                  refine zr_iload_n 4 dX11_heard_72 rfl ?_
                  refine zr_iload 5 dX11_heard_73 rfl ?_
                  refine zr_iload 6 dX11_heard_75 rfl ?_
                  refine zr_iload 7 dX11_heard_77 rfl ?_
                  refine zr_iload 8 dX11_heard_79 rfl ?_
                  replace hf := zb1_s hf
                  obtain ⟨v15, h14, hf⟩ := hf
                  refine zr_callV (ci := 9) [.int x2, .int x3, .int x4, .int x5, .int x6, .int x7] (cX9_arrival_ok h14) zvs_X9_arrival zl_124 zl_125 (fX9_arrival_ck h14) rfl rfl zl_588 rfl (Nat.le_of_ble_eq_true rfl) (Nat.le_of_ble_eq_true rfl) (Nat.le_of_ble_eq_true rfl) (Nat.le_of_ble_eq_true rfl) dX11_heard_81 rfl ?_
                  cases hf
                  exact zr_iret dX11_heard_84
                · rw [if_neg hc] at hf
                  refine zr_iconst (-1) dX11_heard_67 (by decide) ?_
                  cases hf
                  exact zr_iret dX11_heard_68
        · rw [if_pos hc] at hf
          refine zr_iconst (-1) dX11_heard_36 (by decide) ?_
          cases hf
          exact zr_iret dX11_heard_37
theorem zl_589 : Cond.methodLink RX11 116 yX9_wordBy ∈ zt := zt_at 827 (by decide +kernel)
theorem dX11_gives_0 : decode cX11_gives 0 = .ok (.aload_n 0, 1) := by decide +kernel
theorem dX11_gives_1 : decode cX11_gives 1 = .ok (.iload_n 1, 1) := by decide +kernel
theorem dX11_gives_2 : decode cX11_gives 2 = .ok (.invokevirtual 89, 3) := by decide +kernel
theorem dX11_gives_5 : decode cX11_gives 5 = .ok (.astore 5, 2) := by decide +kernel
theorem dX11_gives_7 : decode cX11_gives 7 = .ok (.aload 5, 2) := by decide +kernel
theorem dX11_gives_9 : decode cX11_gives 9 = .ok (.ifnull 17, 3) := by decide +kernel
theorem dX11_gives_12 : decode cX11_gives 12 = .ok (.iload_n 2, 1) := by decide +kernel
theorem dX11_gives_13 : decode cX11_gives 13 = .ok (.invokestatic 103, 3) := by decide +kernel
theorem dX11_gives_16 : decode cX11_gives 16 = .ok (.ifCond .eq 10, 3) := by decide +kernel
theorem dX11_gives_19 : decode cX11_gives 19 = .ok (.iload_n 3, 1) := by decide +kernel
theorem dX11_gives_20 : decode cX11_gives 20 = .ok (.invokestatic 109, 3) := by decide +kernel
theorem dX11_gives_23 : decode cX11_gives 23 = .ok (.ifCond .ne 5, 3) := by decide +kernel
theorem dX11_gives_26 : decode cX11_gives 26 = .ok (.iconst (-1), 1) := by decide +kernel
theorem dX11_gives_27 : decode cX11_gives 27 = .ok (.ireturn, 1) := by decide +kernel
theorem dX11_gives_28 : decode cX11_gives 28 = .ok (.iload 4, 2) := by decide +kernel
theorem dX11_gives_30 : decode cX11_gives 30 = .ok (.iconst 1, 1) := by decide +kernel
theorem dX11_gives_31 : decode cX11_gives 31 = .ok (.if_icmp .eq 9, 3) := by decide +kernel
theorem dX11_gives_34 : decode cX11_gives 34 = .ok (.iload 4, 2) := by decide +kernel
theorem dX11_gives_36 : decode cX11_gives 36 = .ok (.iconst 2, 1) := by decide +kernel
theorem dX11_gives_37 : decode cX11_gives 37 = .ok (.if_icmp .ne 15, 3) := by decide +kernel
theorem dX11_gives_40 : decode cX11_gives 40 = .ok (.aload 5, 2) := by decide +kernel
theorem dX11_gives_42 : decode cX11_gives 42 = .ok (.iload_n 2, 1) := by decide +kernel
theorem dX11_gives_43 : decode cX11_gives 43 = .ok (.iload_n 3, 1) := by decide +kernel
theorem dX11_gives_44 : decode cX11_gives 44 = .ok (.iload 4, 2) := by decide +kernel
theorem dX11_gives_46 : decode cX11_gives 46 = .ok (.invokevirtual 116, 3) := by decide +kernel
theorem dX11_gives_49 : decode cX11_gives 49 = .ok (.goto 4, 3) := by decide +kernel
theorem dX11_gives_52 : decode cX11_gives 52 = .ok (.iconst (-1), 1) := by decide +kernel
theorem dX11_gives_53 : decode cX11_gives 53 = .ok (.ireturn, 1) := by decide +kernel
def fX11_gives_b40 (μ : zM) (a3 : Nat) (x2 : Int32) (x3 : Int32) (x4 : Int32) : Option (Int32) :=
  zb1 (fX9_wordBy μ a3 x2 x3 x4) fun v11 =>
  some v11
def fX11_gives (μ : zM) (x0 : Nat) (x1 : Int32) (x2 : Int32) (x3 : Int32) (x4 : Int32) : Option (Int32) := zgd (zm_ck μ 11 x0) <|
  zb1 (fX11_valleyAt μ x0 x1) fun v2 =>
  zmo v2 (
  some (-1)) fun a3 =>
  zb1 (fX11_isWord μ x2) fun v5 =>
  if v5 = 0 then (
  some (-1))
  else (
  zb1 (fX11_isMinute μ x3) fun v7 =>
  if v7 = 0 then (
  some (-1))
  else (
  zb1 (if x4 = 1 then (
  fX11_gives_b40 μ a3 x2 x3 x4)
  else (
  if x4 = 2 then (
  fX11_gives_b40 μ a3 x2 x3 x4)
  else (
  some (-1)))) fun s8 =>
  some s8))
theorem fX11_gives_ck {μ : zM} {x0 : Nat} {x1 : Int32} {x2 : Int32} {x3 : Int32} {x4 : Int32} {z : Int32} (h : fX11_gives μ x0 x1 x2 x3 x4 = some z) : zm_ck μ 11 x0 = true := (zgd_s h).1
set_option maxHeartbeats 4000000 in
set_option maxRecDepth 100000 in
theorem cX11_gives_ok {μ : zM} {x0 : Nat} {x1 : Int32} {x2 : Int32} {x3 : Int32} {x4 : Int32} {r : Int32} (hf : fX11_gives μ x0 x1 x2 x3 x4 = some r) : zC yX11_gives cX11_gives 6 (some .int) 2 0 0 [.ref x0, .int x1, .int x2, .int x3, .int x4] μ (some (.int r)) μ := by
  replace hf := (zgd_s hf).2
  refine zC.of (by decide) (Nat.le_of_ble_eq_true rfl) (fun K hin => ?_)
  clear hin
  show zz K cX11_gives (6, RX11, some .int, 2, 0, 0, some (.int r), μ) 0 0 0 [(0, .ref x0), (1, .int x1), (2, .int x2), (3, .int x3), (4, .int x4)] [] μ
  refine zr_aload_n 0 dX11_gives_0 rfl ?_
  refine zr_iload_n 1 dX11_gives_1 rfl ?_
  replace hf := zb1_s hf
  obtain ⟨v2, h1, hf⟩ := hf
  refine zr_callV (ci := 11) [.int x1] (cX11_valleyAt_ok h1) zvs_X11_valleyAt zl_576 zl_577 (fX11_valleyAt_ck h1) rfl rfl zl_575 rfl (Nat.le_of_ble_eq_true rfl) (Nat.le_of_ble_eq_true rfl) (Nat.le_of_ble_eq_true rfl) (Nat.le_of_ble_eq_true rfl) dX11_gives_2 rfl ?_
  refine zr_ostore [(5, va_rf v2), (0, .ref x0), (1, .int x1), (2, .int x2), (3, .int x3), (4, .int x4)] dX11_gives_5 (Nat.le_of_ble_eq_true rfl) rfl ?_
  refine zr_oload 0 dX11_gives_7 rfl ?_
  cases v2 with
  | none =>
    replace hf := zmo_n hf
    refine zr_ifnull_n 26 dX11_gives_9 (by decide) ?_
    refine zr_iconst (-1) dX11_gives_26 (by decide) ?_
    cases hf
    exact zr_iret dX11_gives_27
  | some a3 =>
    replace hf := zmo_s hf
    refine zr_ifnull_r dX11_gives_9 ?_
    refine zr_iload_n 3 dX11_gives_12 rfl ?_
    replace hf := zb1_s hf
    obtain ⟨v5, h4, hf⟩ := hf
    refine zr_callS [.int x2] (cX11_isWord_ok h4) zvs_X11_isWord zl_334 zl_583 rfl (Nat.le_of_ble_eq_true rfl) (Nat.le_of_ble_eq_true rfl) (Nat.le_of_ble_eq_true rfl) (Nat.le_of_ble_eq_true rfl) dX11_gives_13 rfl ?_
    refine zr_if_eq 26 dX11_gives_16 (by decide) (fun hc => ?_) (fun hc => ?_)
    · rw [if_pos hc] at hf
      refine zr_iconst (-1) dX11_gives_26 (by decide) ?_
      cases hf
      exact zr_iret dX11_gives_27
    · rw [if_neg hc] at hf
      refine zr_iload_n 4 dX11_gives_19 rfl ?_
      replace hf := zb1_s hf
      obtain ⟨v7, h6, hf⟩ := hf
      refine zr_callS [.int x3] (cX11_isMinute_ok h6) zvs_X11_isMinute zl_120 zl_587 rfl (Nat.le_of_ble_eq_true rfl) (Nat.le_of_ble_eq_true rfl) (Nat.le_of_ble_eq_true rfl) (Nat.le_of_ble_eq_true rfl) dX11_gives_20 rfl ?_
      refine zr_if_ne 28 dX11_gives_23 (by decide) (fun hc => ?_) (fun hc => ?_)
      · rw [if_neg hc] at hf
        refine zr_iload 5 dX11_gives_28 rfl ?_
        refine zr_iconst 1 dX11_gives_30 (by decide) ?_
        replace hf := zb1_s hf
        obtain ⟨s8, hg, hf⟩ := hf
        have hj9 : zz K cX11_gives (6, RX11, some .int, 2, 0, 0, some (.int r), μ) 0 0 53 [] [.int s8] μ := by
          cases hf
          exact zr_iret dX11_gives_53
        clear hf
        have hf := hg
        clear hg
        have hb12 : ∀ (_ : Unit), fX11_gives_b40 μ a3 x2 x3 x4 = some s8 → zz K cX11_gives (6, RX11, some .int, 2, 0, 0, some (.int r), μ) 0 0 40 [(2, .int x2), (3, .int x3), (4, .int x4), (5, .ref a3)] [] μ := by
          intro _ hf
          unfold fX11_gives_b40 at hf
          refine zr_aload 3 dX11_gives_40 rfl ?_
          refine zr_iload_n 0 dX11_gives_42 rfl ?_
          refine zr_iload_n 1 dX11_gives_43 rfl ?_
          refine zr_iload 2 dX11_gives_44 rfl ?_
          replace hf := zb1_s hf
          obtain ⟨v11, h10, hf⟩ := hf
          refine zr_callV (ci := 9) [.int x2, .int x3, .int x4] (cX9_wordBy_ok h10) zvs_X9_wordBy zl_128 zl_129 (fX9_wordBy_ck h10) rfl rfl zl_589 rfl (Nat.le_of_ble_eq_true rfl) (Nat.le_of_ble_eq_true rfl) (Nat.le_of_ble_eq_true rfl) (Nat.le_of_ble_eq_true rfl) dX11_gives_46 rfl ?_
          refine zr_goto 53 dX11_gives_49 (by decide) ?_
          cases hf
          exact zr_lv [] rfl hj9
        refine zr_icmp_eq 40 dX11_gives_31 (by decide) (fun hc => ?_) (fun hc => ?_)
        · rw [if_pos hc] at hf
          exact zr_lv [3, 4, 5, 0] rfl (hb12 () hf)
        · rw [if_neg hc] at hf
          refine zr_iload 5 dX11_gives_34 rfl ?_
          refine zr_iconst 2 dX11_gives_36 (by decide) ?_
          refine zr_icmp_ne 52 dX11_gives_37 (by decide) (fun hc => ?_) (fun hc => ?_)
          · rw [if_neg hc] at hf
            refine zr_iconst (-1) dX11_gives_52 (by decide) ?_
            cases hf
            exact zr_lv [] rfl hj9
          · rw [if_pos hc] at hf
            exact zr_lv [3, 4, 5, 0] rfl (hb12 () hf)
      · rw [if_pos hc] at hf
        refine zr_iconst (-1) dX11_gives_26 (by decide) ?_
        cases hf
        exact zr_iret dX11_gives_27
