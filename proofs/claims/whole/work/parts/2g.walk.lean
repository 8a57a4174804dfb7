theorem zl_459 : Cond.methodLink RX7 94 arraycopyName ∈ zt := zt_at 1330 (by decide +kernel)
theorem dX7_copyFrom_0 : decode cX7_copyFrom 0 = .ok (.aload_n 1, 1) := by decide +kernel
theorem dX7_copyFrom_1 : decode cX7_copyFrom 1 = .ok (.getfield 9, 3) := by decide +kernel
theorem dX7_copyFrom_4 : decode cX7_copyFrom 4 = .ok (.iconst 0, 1) := by decide +kernel
theorem dX7_copyFrom_5 : decode cX7_copyFrom 5 = .ok (.aload_n 0, 1) := by decide +kernel
theorem dX7_copyFrom_6 : decode cX7_copyFrom 6 = .ok (.getfield 9, 3) := by decide +kernel
theorem dX7_copyFrom_9 : decode cX7_copyFrom 9 = .ok (.iconst 0, 1) := by decide +kernel
theorem dX7_copyFrom_10 : decode cX7_copyFrom 10 = .ok (.sipush 600, 3) := by decide +kernel
theorem dX7_copyFrom_13 : decode cX7_copyFrom 13 = .ok (.invokestatic 94, 3) := by decide +kernel
theorem dX7_copyFrom_16 : decode cX7_copyFrom 16 = .ok (.aload_n 0, 1) := by decide +kernel
theorem dX7_copyFrom_17 : decode cX7_copyFrom 17 = .ok (.aload_n 1, 1) := by decide +kernel
theorem dX7_copyFrom_18 : decode cX7_copyFrom 18 = .ok (.getfield 15, 3) := by decide +kernel
theorem dX7_copyFrom_21 : decode cX7_copyFrom 21 = .ok (.putfield 15, 3) := by decide +kernel
theorem dX7_copyFrom_24 : decode cX7_copyFrom 24 = .ok (.aload_n 0, 1) := by decide +kernel
theorem dX7_copyFrom_25 : decode cX7_copyFrom 25 = .ok (.aload_n 1, 1) := by decide +kernel
theorem dX7_copyFrom_26 : decode cX7_copyFrom 26 = .ok (.getfield 19, 3) := by decide +kernel
theorem dX7_copyFrom_29 : decode cX7_copyFrom 29 = .ok (.putfield 19, 3) := by decide +kernel
theorem dX7_copyFrom_32 : decode cX7_copyFrom 32 = .ok (.aload_n 0, 1) := by decide +kernel
theorem dX7_copyFrom_33 : decode cX7_copyFrom 33 = .ok (.aload_n 1, 1) := by decide +kernel
theorem dX7_copyFrom_34 : decode cX7_copyFrom 34 = .ok (.getfield 22, 3) := by decide +kernel
theorem dX7_copyFrom_37 : decode cX7_copyFrom 37 = .ok (.putfield 22, 3) := by decide +kernel
theorem dX7_copyFrom_40 : decode cX7_copyFrom 40 = .ok (.aload_n 1, 1) := by decide +kernel
theorem dX7_copyFrom_41 : decode cX7_copyFrom 41 = .ok (.getfield 25, 3) := by decide +kernel
theorem dX7_copyFrom_44 : decode cX7_copyFrom 44 = .ok (.iconst 0, 1) := by decide +kernel
theorem dX7_copyFrom_45 : decode cX7_copyFrom 45 = .ok (.aload_n 0, 1) := by decide +kernel
theorem dX7_copyFrom_46 : decode cX7_copyFrom 46 = .ok (.getfield 25, 3) := by decide +kernel
theorem dX7_copyFrom_49 : decode cX7_copyFrom 49 = .ok (.iconst 0, 1) := by decide +kernel
theorem dX7_copyFrom_50 : decode cX7_copyFrom 50 = .ok (.iconst 4, 1) := by decide +kernel
theorem dX7_copyFrom_51 : decode cX7_copyFrom 51 = .ok (.invokestatic 94, 3) := by decide +kernel
theorem dX7_copyFrom_54 : decode cX7_copyFrom 54 = .ok (.iconst 0, 1) := by decide +kernel
theorem dX7_copyFrom_55 : decode cX7_copyFrom 55 = .ok (.istore_n 2, 1) := by decide +kernel
theorem dX7_copyFrom_56 : decode cX7_copyFrom 56 = .ok (.iload_n 2, 1) := by decide +kernel
theorem dX7_copyFrom_57 : decode cX7_copyFrom 57 = .ok (.iconst 2, 1) := by decide +kernel
theorem dX7_copyFrom_58 : decode cX7_copyFrom 58 = .ok (.if_icmp .ge 69, 3) := by decide +kernel
theorem dX7_copyFrom_61 : decode cX7_copyFrom 61 = .ok (.aload_n 0, 1) := by decide +kernel
theorem dX7_copyFrom_62 : decode cX7_copyFrom 62 = .ok (.getfield 32, 3) := by decide +kernel
theorem dX7_copyFrom_65 : decode cX7_copyFrom 65 = .ok (.iload_n 2, 1) := by decide +kernel
theorem dX7_copyFrom_66 : decode cX7_copyFrom 66 = .ok (.aaload, 1) := by decide +kernel
theorem dX7_copyFrom_67 : decode cX7_copyFrom 67 = .ok (.aload_n 1, 1) := by decide +kernel
theorem dX7_copyFrom_68 : decode cX7_copyFrom 68 = .ok (.getfield 32, 3) := by decide +kernel
theorem dX7_copyFrom_71 : decode cX7_copyFrom 71 = .ok (.iload_n 2, 1) := by decide +kernel
theorem dX7_copyFrom_72 : decode cX7_copyFrom 72 = .ok (.aaload, 1) := by decide +kernel
theorem dX7_copyFrom_73 : decode cX7_copyFrom 73 = .ok (.invokevirtual 63, 3) := by decide +kernel
theorem dX7_copyFrom_76 : decode cX7_copyFrom 76 = .ok (.aload_n 0, 1) := by decide +kernel
theorem dX7_copyFrom_77 : decode cX7_copyFrom 77 = .ok (.getfield 39, 3) := by decide +kernel
theorem dX7_copyFrom_80 : decode cX7_copyFrom 80 = .ok (.iload_n 2, 1) := by decide +kernel
theorem dX7_copyFrom_81 : decode cX7_copyFrom 81 = .ok (.aaload, 1) := by decide +kernel
theorem dX7_copyFrom_82 : decode cX7_copyFrom 82 = .ok (.aload_n 1, 1) := by decide +kernel
theorem dX7_copyFrom_83 : decode cX7_copyFrom 83 = .ok (.getfield 39, 3) := by decide +kernel
theorem dX7_copyFrom_86 : decode cX7_copyFrom 86 = .ok (.iload_n 2, 1) := by decide +kernel
theorem dX7_copyFrom_87 : decode cX7_copyFrom 87 = .ok (.aaload, 1) := by decide +kernel
theorem dX7_copyFrom_88 : decode cX7_copyFrom 88 = .ok (.invokevirtual 71, 3) := by decide +kernel
theorem dX7_copyFrom_91 : decode cX7_copyFrom 91 = .ok (.aload_n 0, 1) := by decide +kernel
theorem dX7_copyFrom_92 : decode cX7_copyFrom 92 = .ok (.getfield 46, 3) := by decide +kernel
theorem dX7_copyFrom_95 : decode cX7_copyFrom 95 = .ok (.iload_n 2, 1) := by decide +kernel
theorem dX7_copyFrom_96 : decode cX7_copyFrom 96 = .ok (.aaload, 1) := by decide +kernel
theorem dX7_copyFrom_97 : decode cX7_copyFrom 97 = .ok (.aload_n 1, 1) := by decide +kernel
theorem dX7_copyFrom_98 : decode cX7_copyFrom 98 = .ok (.getfield 46, 3) := by decide +kernel
theorem dX7_copyFrom_101 : decode cX7_copyFrom 101 = .ok (.iload_n 2, 1) := by decide +kernel
theorem dX7_copyFrom_102 : decode cX7_copyFrom 102 = .ok (.aaload, 1) := by decide +kernel
theorem dX7_copyFrom_103 : decode cX7_copyFrom 103 = .ok (.invokevirtual 78, 3) := by decide +kernel
theorem dX7_copyFrom_106 : decode cX7_copyFrom 106 = .ok (.aload_n 0, 1) := by decide +kernel
theorem dX7_copyFrom_107 : decode cX7_copyFrom 107 = .ok (.getfield 53, 3) := by decide +kernel
theorem dX7_copyFrom_110 : decode cX7_copyFrom 110 = .ok (.iload_n 2, 1) := by decide +kernel
theorem dX7_copyFrom_111 : decode cX7_copyFrom 111 = .ok (.aaload, 1) := by decide +kernel
theorem dX7_copyFrom_112 : decode cX7_copyFrom 112 = .ok (.aload_n 1, 1) := by decide +kernel
theorem dX7_copyFrom_113 : decode cX7_copyFrom 113 = .ok (.getfield 53, 3) := by decide +kernel
theorem dX7_copyFrom_116 : decode cX7_copyFrom 116 = .ok (.iload_n 2, 1) := by decide +kernel
theorem dX7_copyFrom_117 : decode cX7_copyFrom 117 = .ok (.aaload, 1) := by decide +kernel
theorem dX7_copyFrom_118 : decode cX7_copyFrom 118 = .ok (.invokevirtual 85, 3) := by decide +kernel
theorem dX7_copyFrom_121 : decode cX7_copyFrom 121 = .ok (.iinc 2 1, 3) := by decide +kernel
theorem dX7_copyFrom_124 : decode cX7_copyFrom 124 = .ok (.goto (-68), 3) := by decide +kernel
theorem dX7_copyFrom_127 : decode cX7_copyFrom 127 = .ok (.return_, 1) := by decide +kernel
def fX7_copyFrom_l56 (x0 : Nat) (x1 : Nat) (F27 : Int32 → zM → Option (zM)) (x2_25 : Int32) (m26 : zM) : Option (zM) :=
  if 2 ≤ x2_25 then (
  some m26)
  else (
  zb1 (zm_gR m26 7 x0 5) fun v31 =>
  zb1 (zm_aQ m26 4 v31 x2_25) fun v33 =>
  zb1 (zm_gR m26 7 x1 5) fun v35 =>
  zb1 (zm_aQ m26 4 v35 x2_25) fun v37 =>
  zb1 v37 fun a39 =>
  zb1 v33 fun a41 =>
  zb1 (fX9_copyFrom m26 a41 a39) fun m44 =>
  zb1 (zm_gR m44 7 x0 6) fun v45 =>
  zb1 (zm_aQ m44 5 v45 x2_25) fun v47 =>
  zb1 (zm_gR m44 7 x1 6) fun v49 =>
  zb1 (zm_aQ m44 5 v49 x2_25) fun v51 =>
  zb1 v51 fun a53 =>
  zb1 v47 fun a55 =>
  zb1 (fX2_copyFrom m44 a55 a53) fun m58 =>
  zb1 (zm_gR m58 7 x0 7) fun v59 =>
  zb1 (zm_aQ m58 6 v59 x2_25) fun v61 =>
  zb1 (zm_gR m58 7 x1 7) fun v63 =>
  zb1 (zm_aQ m58 6 v63 x2_25) fun v65 =>
  zb1 v65 fun a67 =>
  zb1 v61 fun a69 =>
  zb1 (fX3_copyFrom m58 a69 a67) fun m72 =>
  zb1 (zm_gR m72 7 x0 8) fun v73 =>
  zb1 (zm_aQ m72 7 v73 x2_25) fun v75 =>
  zb1 (zm_gR m72 7 x1 8) fun v77 =>
  zb1 (zm_aQ m72 7 v77 x2_25) fun v79 =>
  zb1 v79 fun a81 =>
  zb1 v75 fun a83 =>
  zb1 (fX6_copyFrom m72 a83 a81) fun m86 =>
  F27 (x2_25 + 1) m86)
def fX7_copyFrom (μ : zM) (x0 : Nat) (x1 : Nat) : Option (zM) := zgd (zm_ck μ 7 x0) <|
  zb1 (zm_gR μ 7 x1 0) fun v1 =>
  zb1 (zm_gR μ 7 x0 0) fun v3 =>
  zb1 (zm_cpy μ 1 v1 0 v3 0 600) fun m5 =>
  zb1 (zm_gI m5 7 x1 1) fun v7 =>
  zb1 (zm_p m5 7 x0 1 (.int v7)) fun m9 =>
  zb1 (zm_gI m9 7 x1 2) fun v11 =>
  zb1 (zm_p m9 7 x0 2 (.int v11)) fun m13 =>
  zb1 (zm_gI m13 7 x1 3) fun v15 =>
  zb1 (zm_p m13 7 x0 3 (.int v15)) fun m17 =>
  zb1 (zm_gR m17 7 x1 4) fun v19 =>
  zb1 (zm_gR m17 7 x0 4) fun v21 =>
  zb1 (zm_cpy m17 0 v19 0 v21 0 4) fun m23 =>
  zb1 (zf2 (fX7_copyFrom_l56 x0 x1) zfu 0 m23) fun m29 =>
  some m29
theorem fX7_copyFrom_ck {μ : zM} {x0 : Nat} {x1 : Nat} {z : zM} (h : fX7_copyFrom μ x0 x1 = some z) : zm_ck μ 7 x0 = true := (zgd_s h).1
set_option maxHeartbeats 4000000 in
set_option maxRecDepth 100000 in
theorem cX7_copyFrom_ok {μ : zM} {x0 : Nat} {x1 : Nat} {mo : zM} (hf : fX7_copyFrom μ x0 x1 = some mo) : zC yX7_copyFrom cX7_copyFrom 3 (none) 2 0 0 [.ref x0, .ref x1] μ (none) mo := by
  replace hf := (zgd_s hf).2
  refine zC.of (by decide) (Nat.le_of_ble_eq_true rfl) (fun K hin => ?_)
  clear hin
  show zz K cX7_copyFrom (3, RX7, none, 2, 0, 0, none, mo) 0 0 0 [(0, .ref x0), (1, .ref x1)] [] μ
  refine zr_aload_n 1 dX7_copyFrom_0 rfl ?_
  replace hf := zb1_s hf
  obtain ⟨v1, h2, hf⟩ := hf
  refine zr_get (zm_gR_g h2) zk7 (by decide) zl_420 dX7_copyFrom_1 ?_
  refine zr_iconst 0 dX7_copyFrom_4 (by decide) ?_
  refine zr_aload_n 0 dX7_copyFrom_5 rfl ?_
  replace hf := zb1_s hf
  obtain ⟨v3, h4, hf⟩ := hf
  refine zr_get (zm_gR_g h4) zk7 (by decide) zl_420 dX7_copyFrom_6 ?_
  refine zr_iconst 0 dX7_copyFrom_9 (by decide) ?_
  refine zr_sipush 600 dX7_copyFrom_10 (by decide) ?_
  replace hf := zb1_s hf
  obtain ⟨m5, h6, hf⟩ := hf
  refine zr_cpy h6 (by decide) zl_459 zl_99 zl_100 zl_101 (Nat.le_of_ble_eq_true rfl) (Nat.le_of_ble_eq_true rfl) dX7_copyFrom_13 ?_
  refine zr_aload_n 0 dX7_copyFrom_16 rfl ?_
  refine zr_aload_n 1 dX7_copyFrom_17 rfl ?_
  replace hf := zb1_s hf
  obtain ⟨v7, h8, hf⟩ := hf
  refine zr_get (zm_gI_g h8) zk7 (by decide) zl_421 dX7_copyFrom_18 ?_
  replace hf := zb1_s hf
  obtain ⟨m9, h10, hf⟩ := hf
  refine zr_put h10 zk7 (by decide) zl_421 rfl rfl rfl dX7_copyFrom_21 ?_
  refine zr_aload_n 0 dX7_copyFrom_24 rfl ?_
  refine zr_aload_n 1 dX7_copyFrom_25 rfl ?_
  replace hf := zb1_s hf
  obtain ⟨v11, h12, hf⟩ := hf
  refine zr_get (zm_gI_g h12) zk7 (by decide) zl_422 dX7_copyFrom_26 ?_
  replace hf := zb1_s hf
  obtain ⟨m13, h14, hf⟩ := hf
  refine zr_put h14 zk7 (by decide) zl_422 rfl rfl rfl dX7_copyFrom_29 ?_
  refine zr_aload_n 0 dX7_copyFrom_32 rfl ?_
  refine zr_aload_n 1 dX7_copyFrom_33 rfl ?_
  replace hf := zb1_s hf
  obtain ⟨v15, h16, hf⟩ := hf
  refine zr_get (zm_gI_g h16) zk7 (by decide) zl_423 dX7_copyFrom_34 ?_
  replace hf := zb1_s hf
  obtain ⟨m17, h18, hf⟩ := hf
  refine zr_put h18 zk7 (by decide) zl_423 rfl rfl rfl dX7_copyFrom_37 ?_
  refine zr_aload_n 1 dX7_copyFrom_40 rfl ?_
  replace hf := zb1_s hf
  obtain ⟨v19, h20, hf⟩ := hf
  refine zr_get (zm_gR_g h20) zk7 (by decide) zl_424 dX7_copyFrom_41 ?_
  refine zr_iconst 0 dX7_copyFrom_44 (by decide) ?_
  refine zr_aload_n 0 dX7_copyFrom_45 rfl ?_
  replace hf := zb1_s hf
  obtain ⟨v21, h22, hf⟩ := hf
  refine zr_get (zm_gR_g h22) zk7 (by decide) zl_424 dX7_copyFrom_46 ?_
  refine zr_iconst 0 dX7_copyFrom_49 (by decide) ?_
  refine zr_iconst 4 dX7_copyFrom_50 (by decide) ?_
  replace hf := zb1_s hf
  obtain ⟨m23, h24, hf⟩ := hf
  refine zr_cpy h24 (by decide) zl_459 zl_99 zl_100 zl_101 (Nat.le_of_ble_eq_true rfl) (Nat.le_of_ble_eq_true rfl) dX7_copyFrom_51 ?_
  refine zr_iconst 0 dX7_copyFrom_54 (by decide) ?_
  refine zr_istore_n [(2, .int 0), (0, .ref x0), (1, .ref x1)] dX7_copyFrom_55 (Nat.le_of_ble_eq_true rfl) rfl ?_
  replace hf := zb1_s hf
  obtain ⟨m29, hg, hf⟩ := hf
  have hj30 : zz K cX7_copyFrom (3, RX7, none, 2, 0, 0, none, mo) 0 0 127 [] [] m29 := by
    cases hf
    exact zr_vret dX7_copyFrom_127
  clear hf
  have hf := hg
  clear hg
  have hL87 : ∀ (n : Nat) (x2_25 : Int32) (m26 : zM), zf2 (fX7_copyFrom_l56 x0 x1) n x2_25 m26 = some m29 → zz K cX7_copyFrom (3, RX7, none, 2, 0, 0, none, mo) 0 0 56 [(0, .ref x0), (1, .ref x1), (2, .int x2_25)] [] m26 := by
    intro n
    induction n with
    | zero => intro x2_25 m26 hf; cases hf
    | succ n ih28 =>
      intro x2_25 m26 hf
      replace hf := zf2_s hf
      generalize zf2 (fX7_copyFrom_l56 x0 x1) n = F27 at hf ih28
      unfold fX7_copyFrom_l56 at hf
      refine zr_iload_n 2 dX7_copyFrom_56 rfl ?_
      refine zr_iconst 2 dX7_copyFrom_57 (by decide) ?_
      refine zr_icmp_ge 127 dX7_copyFrom_58 (by decide) (fun hc => ?_) (fun hc => ?_)
      · rw [if_pos hc] at hf
        cases hf
        exact zr_lv [] rfl hj30
      · rw [if_neg hc] at hf
        refine zr_aload_n 0 dX7_copyFrom_61 rfl ?_
        replace hf := zb1_s hf
        obtain ⟨v31, h32, hf⟩ := hf
        refine zr_get (zm_gR_g h32) zk7 (by decide) zl_427 dX7_copyFrom_62 ?_
        refine zr_iload_n 2 dX7_copyFrom_65 rfl ?_
        replace hf := zb1_s hf
        obtain ⟨v33, h34, hf⟩ := hf
        refine zr_aald h34 (by decide) rfl dX7_copyFrom_66 ?_
        refine zr_aload_n 1 dX7_copyFrom_67 rfl ?_
        replace hf := zb1_s hf
        obtain ⟨v35, h36, hf⟩ := hf
        refine zr_get (zm_gR_g h36) zk7 (by decide) zl_427 dX7_copyFrom_68 ?_
        refine zr_iload_n 2 dX7_copyFrom_71 rfl ?_
        replace hf := zb1_s hf
        obtain ⟨v37, h38, hf⟩ := hf
        refine zr_aald h38 (by decide) rfl dX7_copyFrom_72 ?_
        replace hf := zb1_s hf
        obtain ⟨a39, h40, hf⟩ := hf
        subst h40
        replace hf := zb1_s hf
        obtain ⟨a41, h42, hf⟩ := hf
        subst h42
        replace hf := zb1_s hf
        obtain ⟨m44, h43, hf⟩ := hf
        refine zr_callV (ci := 9) [.ref a39] (cX9_copyFrom_ok h43) zvs_X9_copyFrom zl_442 zl_443 (fX9_copyFrom_ck h43) rfl rfl zl_441 rfl (Nat.le_of_ble_eq_true rfl) (Nat.le_of_ble_eq_true rfl) (Nat.le_of_ble_eq_true rfl) (Nat.le_of_ble_eq_true rfl) dX7_copyFrom_73 rfl ?_
        refine zr_aload_n 0 dX7_copyFrom_76 rfl ?_
        replace hf := zb1_s hf
        obtain ⟨v45, h46, hf⟩ := hf
        refine zr_get (zm_gR_g h46) zk7 (by decide) zl_430 dX7_copyFrom_77 ?_
        refine zr_iload_n 2 dX7_copyFrom_80 rfl ?_
        replace hf := zb1_s hf
        obtain ⟨v47, h48, hf⟩ := hf
        refine zr_aald h48 (by decide) rfl dX7_copyFrom_81 ?_
        refine zr_aload_n 1 dX7_copyFrom_82 rfl ?_
        replace hf := zb1_s hf
        obtain ⟨v49, h50, hf⟩ := hf
        refine zr_get (zm_gR_g h50) zk7 (by decide) zl_430 dX7_copyFrom_83 ?_
        refine zr_iload_n 2 dX7_copyFrom_86 rfl ?_
        replace hf := zb1_s hf
        obtain ⟨v51, h52, hf⟩ := hf
        refine zr_aald h52 (by decide) rfl dX7_copyFrom_87 ?_
        replace hf := zb1_s hf
        obtain ⟨a53, h54, hf⟩ := hf
        subst h54
        replace hf := zb1_s hf
        obtain ⟨a55, h56, hf⟩ := hf
        subst h56
        replace hf := zb1_s hf
        obtain ⟨m58, h57, hf⟩ := hf
        refine zr_callV (ci := 2) [.ref a53] (cX2_copyFrom_ok h57) zvs_X2_copyFrom zl_447 zl_448 (fX2_copyFrom_ck h57) rfl rfl zl_446 rfl (Nat.le_of_ble_eq_true rfl) (Nat.le_of_ble_eq_true rfl) (Nat.le_of_ble_eq_true rfl) (Nat.le_of_ble_eq_true rfl) dX7_copyFrom_88 rfl ?_
        refine zr_aload_n 0 dX7_copyFrom_91 rfl ?_
        replace hf := zb1_s hf
        obtain ⟨v59, h60, hf⟩ := hf
        refine zr_get (zm_gR_g h60) zk7 (by decide) zl_433 dX7_copyFrom_92 ?_
        refine zr_iload_n 2 dX7_copyFrom_95 rfl ?_
        replace hf := zb1_s hf
        obtain ⟨v61, h62, hf⟩ := hf
        refine zr_aald h62 (by decide) rfl dX7_copyFrom_96 ?_
        refine zr_aload_n 1 dX7_copyFrom_97 rfl ?_
        replace hf := zb1_s hf
        obtain ⟨v63, h64, hf⟩ := hf
        refine zr_get (zm_gR_g h64) zk7 (by decide) zl_433 dX7_copyFrom_98 ?_
        refine zr_iload_n 2 dX7_copyFrom_101 rfl ?_
        replace hf := zb1_s hf
        obtain ⟨v65, h66, hf⟩ := hf
        refine zr_aald h66 (by decide) rfl dX7_copyFrom_102 ?_
        replace hf := zb1_s hf
        obtain ⟨a67, h68, hf⟩ := hf
        subst h68
        replace hf := zb1_s hf
        obtain ⟨a69, h70, hf⟩ := hf
        subst h70
        replace hf := zb1_s hf
        obtain ⟨m72, h71, hf⟩ := hf
        refine zr_callV (ci := 3) [.ref a67] (cX3_copyFrom_ok h71) zvs_X3_copyFrom zl_452 zl_453 (fX3_copyFrom_ck h71) rfl rfl zl_451 rfl (Nat.le_of_ble_eq_true rfl) (Nat.le_of_ble_eq_true rfl) (Nat.le_of_ble_eq_true rfl) (Nat.le_of_ble_eq_true rfl) dX7_copyFrom_103 rfl ?_
        refine zr_aload_n 0 dX7_copyFrom_106 rfl ?_
        replace hf := zb1_s hf
        obtain ⟨v73, h74, hf⟩ := hf
        refine zr_get (zm_gR_g h74) zk7 (by decide) zl_436 dX7_copyFrom_107 ?_
        refine zr_iload_n 2 dX7_copyFrom_110 rfl ?_
        replace hf := zb1_s hf
        obtain ⟨v75, h76, hf⟩ := hf
        refine zr_aald h76 (by decide) rfl dX7_copyFrom_111 ?_
        refine zr_aload_n 1 dX7_copyFrom_112 rfl ?_
        replace hf := zb1_s hf
        obtain ⟨v77, h78, hf⟩ := hf
        refine zr_get (zm_gR_g h78) zk7 (by decide) zl_436 dX7_copyFrom_113 ?_
        refine zr_iload_n 2 dX7_copyFrom_116 rfl ?_
        replace hf := zb1_s hf
        obtain ⟨v79, h80, hf⟩ := hf
        refine zr_aald h80 (by decide) rfl dX7_copyFrom_117 ?_
        replace hf := zb1_s hf
        obtain ⟨a81, h82, hf⟩ := hf
        subst h82
        replace hf := zb1_s hf
        obtain ⟨a83, h84, hf⟩ := hf
        subst h84
        replace hf := zb1_s hf
        obtain ⟨m86, h85, hf⟩ := hf
        refine zr_callV (ci := 6) [.ref a81] (cX6_copyFrom_ok h85) zvs_X6_copyFrom zl_457 zl_458 (fX6_copyFrom_ck h85) rfl rfl zl_456 rfl (Nat.le_of_ble_eq_true rfl) (Nat.le_of_ble_eq_true rfl) (Nat.le_of_ble_eq_true rfl) (Nat.le_of_ble_eq_true rfl) dX7_copyFrom_118 rfl ?_
        refine zr_iinc (j := 2) (x2_25 + 1) [(2, .int (x2_25 + 1)), (0, .ref x0), (1, .ref x1)] dX7_copyFrom_121 rfl rfl (Nat.le_of_ble_eq_true rfl) rfl ?_
        refine zr_goto 56 dX7_copyFrom_124 (by decide) ?_
        exact zr_lv [1, 2, 0] rfl (ih28 (x2_25 + 1) m86 hf)
  exact zr_lv [1, 2, 0] rfl (hL87 _ 0 m23 hf)
theorem zl_460 : Cond.methodLink RX8 3 Lib.objectInit ∈ zt := zt_at 459 (by decide +kernel)
theorem zl_461 : Cond.fieldLink RX8 9 "TwoEchoes$Trade" "bestOfSeller" "[I" ∈ zt := zt_at 460 (by decide +kernel)
theorem zl_462 : Cond.fieldLink RX8 15 "TwoEchoes$Trade" "bestOfBuyer" "[I" ∈ zt := zt_at 461 (by decide +kernel)
theorem dX8_init_0 : decode cX8_init 0 = .ok (.aload_n 0, 1) := by decide +kernel
theorem dX8_init_1 : decode cX8_init 1 = .ok (.invokespecial 3, 3) := by decide +kernel
theorem dX8_init_4 : decode cX8_init 4 = .ok (.aload_n 0, 1) := by decide +kernel
theorem dX8_init_5 : decode cX8_init 5 = .ok (.bipush 100, 2) := by decide +kernel
theorem dX8_init_7 : decode cX8_init 7 = .ok (.newarray .int, 2) := by decide +kernel
theorem dX8_init_9 : decode cX8_init 9 = .ok (.putfield 9, 3) := by decide +kernel
theorem dX8_init_12 : decode cX8_init 12 = .ok (.aload_n 0, 1) := by decide +kernel
theorem dX8_init_13 : decode cX8_init 13 = .ok (.bipush 100, 2) := by decide +kernel
theorem dX8_init_15 : decode cX8_init 15 = .ok (.newarray .int, 2) := by decide +kernel
theorem dX8_init_17 : decode cX8_init 17 = .ok (.putfield 15, 3) := by decide +kernel
theorem dX8_init_20 : decode cX8_init 20 = .ok (.return_, 1) := by decide +kernel
def fX8_init (μ : zM) (x0 : Nat) : Option (zM) :=
  zb1 (some (zm_nw μ (.inl (0, 100, .inl (fun _ => 0))))) fun m1 =>
  zb1 (zm_p m1 8 x0 0 (.ref μ.2.1)) fun m3 =>
  zb1 (some (zm_nw m3 (.inl (0, 100, .inl (fun _ => 0))))) fun m5 =>
  zb1 (zm_p m5 8 x0 1 (.ref m3.2.1)) fun m7 =>
  some m7
set_option maxHeartbeats 4000000 in
set_option maxRecDepth 100000 in
theorem cX8_init_ok {μ : zM} {x0 : Nat} {mo : zM} (hf : fX8_init μ x0 = some mo) : zC yX8_init cX8_init 1 (none) 1 2 200 [.ref x0] μ (none) mo := by
  unfold fX8_init at hf
  refine zC.of (by decide) (Nat.le_of_ble_eq_true rfl) (fun K hin => ?_)
  replace hin := hin rfl
  show zz K cX8_init (1, RX8, none, 1, 2, 200, none, mo) 0 0 0 [(0, .ref x0)] [] μ
  refine zr_aload_n 0 dX8_init_0 rfl ?_
  refine zr_objInit zl_460 zl_1 zl_2 (Nat.le_of_ble_eq_true rfl) (Nat.le_of_ble_eq_true rfl) dX8_init_1 ?_
  refine zr_aload_n 0 dX8_init_4 rfl ?_
  refine zr_bipush 100 dX8_init_5 (by decide) ?_
  refine zr_newa (t := 0) (N := 100) (atype := .int) (by decide) rfl zl_3 (by decide) (by decide) (by decide) (Nat.le_of_ble_eq_true rfl) (Nat.le_of_ble_eq_true rfl) dX8_init_7 ?_
  replace hf := zb1_s hf
  obtain ⟨m1, h2, hf⟩ := hf
  obtain rfl := Option.some.inj h2
  replace hf := zb1_s hf
  obtain ⟨m3, h4, hf⟩ := hf
  refine zr_putF h4 hin rfl zk8 (by decide) zl_461 rfl rfl rfl dX8_init_9 ?_
  refine zr_aload_n 0 dX8_init_12 rfl ?_
  refine zr_bipush 100 dX8_init_13 (by decide) ?_
  refine zr_newa (t := 0) (N := 100) (atype := .int) (by decide) rfl zl_3 (by decide) (by decide) (by decide) (Nat.le_of_ble_eq_true rfl) (Nat.le_of_ble_eq_true rfl) dX8_init_15 ?_
  replace hf := zb1_s hf
  obtain ⟨m5, h6, hf⟩ := hf
  obtain rfl := Option.some.inj h6
  replace hf := zb1_s hf
  obtain ⟨m7, h8, hf⟩ := hf
  refine zr_putF h8 hin rfl zk8 (by decide) zl_462 rfl rfl rfl dX8_init_17 ?_
  cases hf
  exact zr_vret dX8_init_20
theorem zl_463 : Cond.methodLink RX9 64 yX9_hasPerson ∈ zt := zt_at 778 (by decide +kernel)
theorem dX9_isOfKind_0 : decode cX9_isOfKind 0 = .ok (.aload_n 0, 1) := by decide +kernel
theorem dX9_isOfKind_1 : decode cX9_isOfKind 1 = .ok (.iload_n 1, 1) := by decide +kernel
theorem dX9_isOfKind_2 : decode cX9_isOfKind 2 = .ok (.invokevirtual 64, 3) := by decide +kernel
theorem dX9_isOfKind_5 : decode cX9_isOfKind 5 = .ok (.ifCond .eq 17, 3) := by decide +kernel
theorem dX9_isOfKind_8 : decode cX9_isOfKind 8 = .ok (.aload_n 0, 1) := by decide +kernel
theorem dX9_isOfKind_9 : decode cX9_isOfKind 9 = .ok (.getfield 21, 3) := by decide +kernel
theorem dX9_isOfKind_12 : decode cX9_isOfKind 12 = .ok (.iload_n 1, 1) := by decide +kernel
theorem dX9_isOfKind_13 : decode cX9_isOfKind 13 = .ok (.iaload, 1) := by decide +kernel
theorem dX9_isOfKind_14 : decode cX9_isOfKind 14 = .ok (.iload_n 2, 1) := by decide +kernel
theorem dX9_isOfKind_15 : decode cX9_isOfKind 15 = .ok (.if_icmp .ne 7, 3) := by decide +kernel
theorem dX9_isOfKind_18 : decode cX9_isOfKind 18 = .ok (.iconst 1, 1) := by decide +kernel
theorem dX9_isOfKind_19 : decode cX9_isOfKind 19 = .ok (.goto 4, 3) := by decide +kernel
theorem dX9_isOfKind_22 : decode cX9_isOfKind 22 = .ok (.iconst 0, 1) := by decide +kernel
theorem dX9_isOfKind_23 : decode cX9_isOfKind 23 = .ok (.ireturn, 1) := by decide +kernel
def fX9_isOfKind (μ : zM) (x0 : Nat) (x1 : Int32) (x2 : Int32) : Option (Int32) := zgd (zm_ck μ 9 x0) <|
  zb1 (fX9_hasPerson μ x0 x1) fun v2 =>
  zb1 (if v2 = 0 then (
  some 0)
  else (
  zb1 (zm_gR μ 9 x0 5) fun v7 =>
  zb1 (zm_aI μ 0 v7 x1) fun v9 =>
  if v9 = x2 then (
  some 1)
  else (
  some 0))) fun s3 =>
  zb1 (zbz s3) fun v5 =>
  some v5
theorem fX9_isOfKind_ck {μ : zM} {x0 : Nat} {x1 : Int32} {x2 : Int32} {z : Int32} (h : fX9_isOfKind μ x0 x1 x2 = some z) : zm_ck μ 9 x0 = true := (zgd_s h).1
set_option maxHeartbeats 4000000 in
set_option maxRecDepth 100000 in
theorem cX9_isOfKind_ok {μ : zM} {x0 : Nat} {x1 : Int32} {x2 : Int32} {r : Int32} (hf : fX9_isOfKind μ x0 x1 x2 = some r) : zC yX9_isOfKind cX9_isOfKind 3 (some .boolean) 1 0 0 [.ref x0, .int x1, .int x2] μ (some (.int r)) μ := by
  replace hf := (zgd_s hf).2
  refine zC.of (by decide) (Nat.le_of_ble_eq_true rfl) (fun K hin => ?_)
  clear hin
  show zz K cX9_isOfKind (3, RX9, some .boolean, 1, 0, 0, some (.int r), μ) 0 0 0 [(0, .ref x0), (1, .int x1), (2, .int x2)] [] μ
  refine zr_aload_n 0 dX9_isOfKind_0 rfl ?_
  refine zr_iload_n 1 dX9_isOfKind_1 rfl ?_
  replace hf := zb1_s hf
  obtain ⟨v2, h1, hf⟩ := hf
  refine zr_callV (ci := 9) [.int x1] (cX9_hasPerson_ok h1) zvs_X9_hasPerson zl_136 zl_137 (fX9_hasPerson_ck h1) rfl rfl zl_463 rfl (Nat.le_of_ble_eq_true rfl) (Nat.le_of_ble_eq_true rfl) (Nat.le_of_ble_eq_true rfl) (Nat.le_of_ble_eq_true rfl) dX9_isOfKind_2 rfl ?_
  replace hf := zb1_s hf
  obtain ⟨s3, hg, hf⟩ := hf
  have hj4 : zz K cX9_isOfKind (3, RX9, some .boolean, 1, 0, 0, some (.int r), μ) 0 0 23 [] [.int s3] μ := by
    replace hf := zb1_s hf
    obtain ⟨v5, hn6, hf⟩ := hf
    obtain ⟨hn6, rfl⟩ := zbz_s hn6
    cases hf
    exact zr_zret hn6 dX9_isOfKind_23
  clear hf
  have hf := hg
  clear hg
  refine zr_if_eq 22 dX9_isOfKind_5 (by decide) (fun hc => ?_) (fun hc => ?_)
  · rw [if_pos hc] at hf
    refine zr_iconst 0 dX9_isOfKind_22 (by decide) ?_
    cases hf
    exact zr_lv [] rfl hj4
  · rw [if_neg hc] at hf
    refine zr_aload_n 0 dX9_isOfKind_8 rfl ?_
    replace hf := zb1_s hf
    obtain ⟨v7, h8, hf⟩ := hf
    refine zr_get (zm_gR_g h8) zk9 (by decide) zl_229 dX9_isOfKind_9 ?_
    refine zr_iload_n 1 dX9_isOfKind_12 rfl ?_
    replace hf := zb1_s hf
    obtain ⟨v9, h10, hf⟩ := hf
    refine zr_iald h10 dX9_isOfKind_13 ?_
    refine zr_iload_n 2 dX9_isOfKind_14 rfl ?_
    refine zr_icmp_ne 22 dX9_isOfKind_15 (by decide) (fun hc => ?_) (fun hc => ?_)
    · rw [if_neg hc] at hf
      refine zr_iconst 0 dX9_isOfKind_22 (by decide) ?_
      cases hf
      exact zr_lv [] rfl hj4
    · rw [if_pos hc] at hf
      refine zr_iconst 1 dX9_isOfKind_18 (by decide) ?_
      refine zr_goto 23 dX9_isOfKind_19 (by decide) ?_
      cases hf
      exact zr_lv [] rfl hj4
theorem dX8_isKeener_0 : decode cX8_isKeener 0 = .ok (.iload_n 0, 1) := by decide +kernel
theorem dX8_isKeener_1 : decode cX8_isKeener 1 = .ok (.ifCond .ne 16, 3) := by decide +kernel
theorem dX8_isKeener_4 : decode cX8_isKeener 4 = .ok (.iload_n 1, 1) := by decide +kernel
theorem dX8_isKeener_5 : decode cX8_isKeener 5 = .ok (.iload_n 2, 1) := by decide +kernel
theorem dX8_isKeener_6 : decode cX8_isKeener 6 = .ok (.if_icmp .ge 7, 3) := by decide +kernel
theorem dX8_isKeener_9 : decode cX8_isKeener 9 = .ok (.iconst 1, 1) := by decide +kernel
theorem dX8_isKeener_10 : decode cX8_isKeener 10 = .ok (.goto 17, 3) := by decide +kernel
theorem dX8_isKeener_13 : decode cX8_isKeener 13 = .ok (.iconst 0, 1) := by decide +kernel
theorem dX8_isKeener_14 : decode cX8_isKeener 14 = .ok (.goto 13, 3) := by decide +kernel
theorem dX8_isKeener_17 : decode cX8_isKeener 17 = .ok (.iload_n 1, 1) := by decide +kernel
theorem dX8_isKeener_18 : decode cX8_isKeener 18 = .ok (.iload_n 2, 1) := by decide +kernel
theorem dX8_isKeener_19 : decode cX8_isKeener 19 = .ok (.if_icmp .le 7, 3) := by decide +kernel
theorem dX8_isKeener_22 : decode cX8_isKeener 22 = .ok (.iconst 1, 1) := by decide +kernel
theorem dX8_isKeener_23 : decode cX8_isKeener 23 = .ok (.goto 4, 3) := by decide +kernel
theorem dX8_isKeener_26 : decode cX8_isKeener 26 = .ok (.iconst 0, 1) := by decide +kernel
theorem dX8_isKeener_27 : decode cX8_isKeener 27 = .ok (.ireturn, 1) := by decide +kernel
def fX8_isKeener (μ : zM) (x0 : Int32) (x1 : Int32) (x2 : Int32) : Option (Int32) :=
  zb1 (if x0 = 0 then (
  if x2 ≤ x1 then (
  some 0)
  else (
  some 1))
  else (
  if x1 ≤ x2 then (
  some 0)
  else (
  some 1))) fun s1 =>
  zb1 (zbz s1) fun v3 =>
  some v3
set_option maxHeartbeats 4000000 in
set_option maxRecDepth 100000 in
theorem cX8_isKeener_ok {μ : zM} {x0 : Int32} {x1 : Int32} {x2 : Int32} {r : Int32} (hf : fX8_isKeener μ x0 x1 x2 = some r) : zC yX8_isKeener cX8_isKeener 3 (some .boolean) 0 0 0 [.int x0, .int x1, .int x2] μ (some (.int r)) μ := by
  unfold fX8_isKeener at hf
  refine zC.of (by decide) (Nat.le_of_ble_eq_true rfl) (fun K hin => ?_)
  clear hin
  show zz K cX8_isKeener (3, RX8, some .boolean, 0, 0, 0, some (.int r), μ) 0 0 0 [(0, .int x0), (1, .int x1), (2, .int x2)] [] μ
  refine zr_iload_n 0 dX8_isKeener_0 rfl ?_
  replace hf := zb1_s hf
  obtain ⟨s1, hg, hf⟩ := hf
  have hj2 : zz K cX8_isKeener (3, RX8, some .boolean, 0, 0, 0, some (.int r), μ) 0 0 27 [] [.int s1] μ := by
    replace hf := zb1_s hf
    obtain ⟨v3, hn4, hf⟩ := hf
    obtain ⟨hn4, rfl⟩ := zbz_s hn4
    cases hf
    exact zr_zret hn4 dX8_isKeener_27
  clear hf
  have hf := hg
  clear hg
  refine zr_if_ne 17 dX8_isKeener_1 (by decide) (fun hc => ?_) (fun hc => ?_)
  · rw [if_neg hc] at hf
    refine zr_iload_n 1 dX8_isKeener_17 rfl ?_
    refine zr_iload_n 2 dX8_isKeener_18 rfl ?_
    refine zr_icmp_le 26 dX8_isKeener_19 (by decide) (fun hc => ?_) (fun hc => ?_)
    · rw [if_pos hc] at hf
      refine zr_iconst 0 dX8_isKeener_26 (by decide) ?_
      cases hf
      exact zr_lv [] rfl hj2
    · rw [if_neg hc] at hf
      refine zr_iconst 1 dX8_isKeener_22 (by decide) ?_
      refine zr_goto 27 dX8_isKeener_23 (by decide) ?_
      cases hf
      exact zr_lv [] rfl hj2
  · rw [if_pos hc] at hf
    refine zr_iload_n 1 dX8_isKeener_4 rfl ?_
    refine zr_iload_n 2 dX8_isKeener_5 rfl ?_
    refine zr_icmp_ge 13 dX8_isKeener_6 (by decide) (fun hc => ?_) (fun hc => ?_)
    · rw [if_pos hc] at hf
      refine zr_iconst 0 dX8_isKeener_13 (by decide) ?_
      refine zr_goto 27 dX8_isKeener_14 (by decide) ?_
      cases hf
      exact zr_lv [] rfl hj2
    · rw [if_neg hc] at hf
      refine zr_iconst 1 dX8_isKeener_9 (by decide) ?_
      refine zr_goto 27 dX8_isKeener_10 (by decide) ?_
      cases hf
      exact zr_lv [] rfl hj2
theorem zl_464 : Cond.fieldLink RX8 27 "TwoEchoes$Valley" "people" "I" ∈ zt := zt_at 189 (by decide +kernel)
theorem zl_465 : Cond.code yX9_isOfKind cX9_isOfKind 3 (some .boolean) ∈ zt := zt_at 985 (by decide +kernel)
theorem zvs_X9_isOfKind : zvS yX9_isOfKind cX9_isOfKind 3 (some .boolean) 2 := ⟨zl_465, zl_14, ⟨by decide +kernel, by decide +kernel, by decide +kernel⟩, by decide⟩
theorem zl_466 : Cond.methodLink RX8 31 yX9_isOfKind ∈ zt := zt_at 982 (by decide +kernel)
theorem zl_467 : Cond.instanceMethod yX9_isOfKind ∈ zt := zt_at 983 (by decide +kernel)
theorem zl_468 : Cond.selects RX9 yX9_isOfKind yX9_isOfKind ∈ zt := zt_at 984 (by decide +kernel)
theorem zl_469 : Cond.fieldLink RX8 22 "TwoEchoes$Valley" "wish" "[I" ∈ zt := zt_at 200 (by decide +kernel)
theorem zl_470 : Cond.code yX8_isKeener cX8_isKeener 3 (some .boolean) ∈ zt := zt_at 988 (by decide +kernel)
theorem zl_471 : Cond.initialized RX8 ∈ zt := zt_at 138 (by decide +kernel)
theorem zvs_X8_isKeener : zvS yX8_isKeener cX8_isKeener 3 (some .boolean) 3 := ⟨zl_470, zl_471, ⟨by decide +kernel, by decide +kernel, by decide +kernel⟩, by decide⟩
theorem zl_472 : Cond.methodLink RX8 35 yX8_isKeener ∈ zt := zt_at 986 (by decide +kernel)
theorem zl_473 : Cond.static yX8_isKeener ∈ zt := zt_at 987 (by decide +kernel)
theorem dX8_bestLeft_0 : decode cX8_bestLeft 0 = .ok (.iconst (-1), 1) := by decide +kernel
theorem dX8_bestLeft_1 : decode cX8_bestLeft 1 = .ok (.istore_n 3, 1) := by decide +kernel
theorem dX8_bestLeft_2 : decode cX8_bestLeft 2 = .ok (.iconst 0, 1) := by decide +kernel
theorem dX8_bestLeft_3 : decode cX8_bestLeft 3 = .ok (.istore 4, 2) := by decide +kernel
theorem dX8_bestLeft_5 : decode cX8_bestLeft 5 = .ok (.iload 4, 2) := by decide +kernel
theorem dX8_bestLeft_7 : decode cX8_bestLeft 7 = .ok (.aload_n 0, 1) := by decide +kernel
theorem dX8_bestLeft_8 : decode cX8_bestLeft 8 = .ok (.getfield 27, 3) := by decide +kernel
theorem dX8_bestLeft_11 : decode cX8_bestLeft 11 = .ok (.if_icmp .ge 59, 3) := by decide +kernel
theorem dX8_bestLeft_14 : decode cX8_bestLeft 14 = .ok (.aload_n 0, 1) := by decide +kernel
theorem dX8_bestLeft_15 : decode cX8_bestLeft 15 = .ok (.iload 4, 2) := by decide +kernel
theorem dX8_bestLeft_17 : decode cX8_bestLeft 17 = .ok (.iload_n 1, 1) := by decide +kernel
theorem dX8_bestLeft_18 : decode cX8_bestLeft 18 = .ok (.invokevirtual 31, 3) := by decide +kernel
theorem dX8_bestLeft_21 : decode cX8_bestLeft 21 = .ok (.ifCond .eq 43, 3) := by decide +kernel
theorem dX8_bestLeft_24 : decode cX8_bestLeft 24 = .ok (.iload_n 2, 1) := by decide +kernel
theorem dX8_bestLeft_25 : decode cX8_bestLeft 25 = .ok (.iload 4, 2) := by decide +kernel
theorem dX8_bestLeft_27 : decode cX8_bestLeft 27 = .ok (.ishr, 1) := by decide +kernel
theorem dX8_bestLeft_28 : decode cX8_bestLeft 28 = .ok (.iconst 1, 1) := by decide +kernel
theorem dX8_bestLeft_29 : decode cX8_bestLeft 29 = .ok (.iand, 1) := by decide +kernel
theorem dX8_bestLeft_30 : decode cX8_bestLeft 30 = .ok (.ifCond .eq 6, 3) := by decide +kernel
theorem dX8_bestLeft_33 : decode cX8_bestLeft 33 = .ok (.goto 31, 3) := by decide +kernel
theorem dX8_bestLeft_36 : decode cX8_bestLeft 36 = .ok (.iload_n 3, 1) := by decide +kernel
theorem dX8_bestLeft_37 : decode cX8_bestLeft 37 = .ok (.iconst (-1), 1) := by decide +kernel
theorem dX8_bestLeft_38 : decode cX8_bestLeft 38 = .ok (.if_icmp .eq 23, 3) := by decide +kernel
theorem dX8_bestLeft_41 : decode cX8_bestLeft 41 = .ok (.iload_n 1, 1) := by decide +kernel
theorem dX8_bestLeft_42 : decode cX8_bestLeft 42 = .ok (.aload_n 0, 1) := by decide +kernel
theorem dX8_bestLeft_43 : decode cX8_bestLeft 43 = .ok (.getfield 22, 3) := by decide +kernel
theorem dX8_bestLeft_46 : decode cX8_bestLeft 46 = .ok (.iload 4, 2) := by decide +kernel
theorem dX8_bestLeft_48 : decode cX8_bestLeft 48 = .ok (.iaload, 1) := by decide +kernel
theorem dX8_bestLeft_49 : decode cX8_bestLeft 49 = .ok (.aload_n 0, 1) := by decide +kernel
theorem dX8_bestLeft_50 : decode cX8_bestLeft 50 = .ok (.getfield 22, 3) := by decide +kernel
theorem dX8_bestLeft_53 : decode cX8_bestLeft 53 = .ok (.iload_n 3, 1) := by decide +kernel
theorem dX8_bestLeft_54 : decode cX8_bestLeft 54 = .ok (.iaload, 1) := by decide +kernel
theorem dX8_bestLeft_55 : decode cX8_bestLeft 55 = .ok (.invokestatic 35, 3) := by decide +kernel
theorem dX8_bestLeft_58 : decode cX8_bestLeft 58 = .ok (.ifCond .eq 6, 3) := by decide +kernel
theorem dX8_bestLeft_61 : decode cX8_bestLeft 61 = .ok (.iload 4, 2) := by decide +kernel
theorem dX8_bestLeft_63 : decode cX8_bestLeft 63 = .ok (.istore_n 3, 1) := by decide +kernel
theorem dX8_bestLeft_64 : decode cX8_bestLeft 64 = .ok (.iinc 4 1, 3) := by decide +kernel
theorem dX8_bestLeft_67 : decode cX8_bestLeft 67 = .ok (.goto (-62), 3) := by decide +kernel
theorem dX8_bestLeft_70 : decode cX8_bestLeft 70 = .ok (.iload_n 3, 1) := by decide +kernel
theorem dX8_bestLeft_71 : decode cX8_bestLeft 71 = .ok (.ireturn, 1) := by decide +kernel
def fX8_bestLeft_l5 (μ : zM) (x0 : Nat) (x1 : Int32) (x2 : Int32) (F3 : Int32 → Int32 → Option (Int32)) (x3_1 : Int32) (x4_2 : Int32) : Option (Int32) :=
  zb1 (zm_gI μ 9 x0 4) fun v7 =>
  if v7 ≤ x4_2 then (
  some x3_1)
  else (
  zb1 (fX9_isOfKind μ x0 x4_2 x1) fun v10 =>
  zb1 (if v10 = 0 then (
  some x3_1)
  else (
  if ((x2 >>> (x4_2 &&& 31)) &&& 1) = 0 then (
  if x3_1 = (-1) then (
  some x4_2)
  else (
  zb1 (zm_gR μ 9 x0 7) fun v13 =>
  zb1 (zm_aI μ 0 v13 x4_2) fun v15 =>
  zb1 (zm_gR μ 9 x0 7) fun v17 =>
  zb1 (zm_aI μ 0 v17 x3_1) fun v19 =>
  zb1 (fX8_isKeener μ x1 v15 v19) fun v22 =>
  if v22 = 0 then (
  some x3_1)
  else (
  some x4_2)))
  else (
  some x3_1))) fun x3_11 =>
  F3 x3_11 (x4_2 + 1))
def fX8_bestLeft (μ : zM) (x0 : Nat) (x1 : Int32) (x2 : Int32) : Option (Int32) :=
  zb1 (zf2 (fX8_bestLeft_l5 μ x0 x1 x2) zfu (-1) 0) fun x3_5 =>
  some x3_5
set_option maxHeartbeats 4000000 in
set_option maxRecDepth 100000 in
theorem cX8_bestLeft_ok {μ : zM} {x0 : Nat} {x1 : Int32} {x2 : Int32} {r : Int32} (hf : fX8_bestLeft μ x0 x1 x2 = some r) : zC yX8_bestLeft cX8_bestLeft 5 (some .int) 2 0 0 [.ref x0, .int x1, .int x2] μ (some (.int r)) μ := by
  unfold fX8_bestLeft at hf
  refine zC.of (by decide) (Nat.le_of_ble_eq_true rfl) (fun K hin => ?_)
  clear hin
  show zz K cX8_bestLeft (5, RX8, some .int, 2, 0, 0, some (.int r), μ) 0 0 0 [(0, .ref x0), (1, .int x1), (2, .int x2)] [] μ
  refine zr_iconst (-1) dX8_bestLeft_0 (by decide) ?_
  refine zr_istore_n [(3, .int (-1)), (0, .ref x0), (1, .int x1), (2, .int x2)] dX8_bestLeft_1 (Nat.le_of_ble_eq_true rfl) rfl ?_
  refine zr_iconst 0 dX8_bestLeft_2 (by decide) ?_
  refine zr_istore [(4, .int 0), (3, .int (-1)), (0, .ref x0), (1, .int x1), (2, .int x2)] dX8_bestLeft_3 (Nat.le_of_ble_eq_true rfl) rfl ?_
  replace hf := zb1_s hf
  obtain ⟨x3_5, hg, hf⟩ := hf
  have hj6 : zz K cX8_bestLeft (5, RX8, some .int, 2, 0, 0, some (.int r), μ) 0 0 70 [(3, .int x3_5)] [] μ := by
    refine zr_iload_n 0 dX8_bestLeft_70 rfl ?_
    cases hf
    exact zr_iret dX8_bestLeft_71
  clear hf
  have hf := hg
  clear hg
  have hL23 : ∀ (n : Nat) (x3_1 : Int32) (x4_2 : Int32), zf2 (fX8_bestLeft_l5 μ x0 x1 x2) n x3_1 x4_2 = some x3_5 → zz K cX8_bestLeft (5, RX8, some .int, 2, 0, 0, some (.int r), μ) 0 0 5 [(0, .ref x0), (1, .int x1), (2, .int x2), (3, .int x3_1), (4, .int x4_2)] [] μ := by
    intro n
    induction n with
    | zero => intro x3_1 x4_2 hf; cases hf
    | succ n ih4 =>
      intro x3_1 x4_2 hf
      replace hf := zf2_s hf
      generalize zf2 (fX8_bestLeft_l5 μ x0 x1 x2) n = F3 at hf ih4
      unfold fX8_bestLeft_l5 at hf
      refine zr_iload 4 dX8_bestLeft_5 rfl ?_
      refine zr_aload_n 0 dX8_bestLeft_7 rfl ?_
      replace hf := zb1_s hf
      obtain ⟨v7, h8, hf⟩ := hf
      refine zr_get (zm_gI_g h8) zk9 (by decide) zl_464 dX8_bestLeft_8 ?_
      refine zr_icmp_ge 70 dX8_bestLeft_11 (by decide) (fun hc => ?_) (fun hc => ?_)
      · rw [if_pos hc] at hf
        cases hf
        exact zr_lv [3] rfl hj6
      · rw [if_neg hc] at hf
        refine zr_aload_n 0 dX8_bestLeft_14 rfl ?_
        refine zr_iload 4 dX8_bestLeft_15 rfl ?_
        refine zr_iload_n 1 dX8_bestLeft_17 rfl ?_
        replace hf := zb1_s hf
        obtain ⟨v10, h9, hf⟩ := hf
        refine zr_callV (ci := 9) [.int x4_2, .int x1] (cX9_isOfKind_ok h9) zvs_X9_isOfKind zl_467 zl_468 (fX9_isOfKind_ck h9) rfl rfl zl_466 rfl (Nat.le_of_ble_eq_true rfl) (Nat.le_of_ble_eq_true rfl) (Nat.le_of_ble_eq_true rfl) (Nat.le_of_ble_eq_true rfl) dX8_bestLeft_18 rfl ?_
        replace hf := zb1_s hf
        obtain ⟨x3_11, hg, hf⟩ := hf
        have hj12 : zz K cX8_bestLeft (5, RX8, some .int, 2, 0, 0, some (.int r), μ) 0 0 64 [(0, .ref x0), (1, .int x1), (2, .int x2), (3, .int x3_11), (4, .int x4_2)] [] μ := by
          refine zr_iinc (j := 4) (x4_2 + 1) [(4, .int (x4_2 + 1)), (0, .ref x0), (1, .int x1), (2, .int x2), (3, .int x3_11)] dX8_bestLeft_64 rfl rfl (Nat.le_of_ble_eq_true rfl) rfl ?_
          refine zr_goto 5 dX8_bestLeft_67 (by decide) ?_
          exact zr_lv [1, 2, 3, 4, 0] rfl (ih4 x3_11 (x4_2 + 1) hf)
        clear hf
        have hf := hg
        clear hg
        refine zr_if_eq 64 dX8_bestLeft_21 (by decide) (fun hc => ?_) (fun hc => ?_)
        · rw [if_pos hc] at hf
          cases hf
          exact zr_lv [0, 1, 2, 3, 4] rfl hj12
        · rw [if_neg hc] at hf
          refine zr_iload_n 2 dX8_bestLeft_24 rfl ?_
          refine zr_iload 4 dX8_bestLeft_25 rfl ?_
          refine zr_ishr dX8_bestLeft_27 ?_
          refine zr_iconst 1 dX8_bestLeft_28 (by decide) ?_
          refine zr_iand dX8_bestLeft_29 ?_
          refine zr_if_eq 36 dX8_bestLeft_30 (by decide) (fun hc => ?_) (fun hc => ?_)
          · rw [if_pos hc] at hf
            refine zr_iload_n 3 dX8_bestLeft_36 rfl ?_
            refine zr_iconst (-1) dX8_bestLeft_37 (by decide) ?_
            refine zr_icmp_eq 61 dX8_bestLeft_38 (by decide) (fun hc => ?_) (fun hc => ?_)
            · rw [if_pos hc] at hf
              refine zr_iload 4 dX8_bestLeft_61 rfl ?_
              refine zr_istore_n [(3, .int x4_2), (0, .ref x0), (1, .int x1), (2, .int x2), (4, .int x4_2)] dX8_bestLeft_63 (Nat.le_of_ble_eq_true rfl) rfl ?_
              cases hf
              exact zr_lv [1, 2, 3, 0, 4] rfl hj12
            · rw [if_neg hc] at hf
              refine zr_iload_n 1 dX8_bestLeft_41 rfl ?_
              refine zr_aload_n 0 dX8_bestLeft_42 rfl ?_
              replace hf := zb1_s hf
              obtain ⟨v13, h14, hf⟩ := hf
              refine zr_get (zm_gR_g h14) zk9 (by decide) zl_469 dX8_bestLeft_43 ?_
              refine zr_iload 4 dX8_bestLeft_46 rfl ?_
              replace hf := zb1_s hf
              obtain ⟨v15, h16, hf⟩ := hf
              refine zr_iald h16 dX8_bestLeft_48 ?_
              refine zr_aload_n 0 dX8_bestLeft_49 rfl ?_
              replace hf := zb1_s hf
              obtain ⟨v17, h18, hf⟩ := hf
              refine zr_get (zm_gR_g h18) zk9 (by decide) zl_469 dX8_bestLeft_50 ?_
              refine zr_iload_n 3 dX8_bestLeft_53 rfl ?_
              replace hf := zb1_s hf
              obtain ⟨v19, h20, hf⟩ := hf
              refine zr_iald h20 dX8_bestLeft_54 ?_
              replace hf := zb1_s hf
              obtain ⟨v22, h21, hf⟩ := hf
              refine zr_callS [.int x1, .int v15, .int v19] (cX8_isKeener_ok h21) zvs_X8_isKeener zl_473 zl_472 rfl (Nat.le_of_ble_eq_true rfl) (Nat.le_of_ble_eq_true rfl) (Nat.le_of_ble_eq_true rfl) (Nat.le_of_ble_eq_true rfl) dX8_bestLeft_55 rfl ?_
              refine zr_if_eq 64 dX8_bestLeft_58 (by decide) (fun hc => ?_) (fun hc => ?_)
              · rw [if_pos hc] at hf
                cases hf
                exact zr_lv [0, 1, 2, 3, 4] rfl hj12
              · rw [if_neg hc] at hf
                refine zr_iload 4 dX8_bestLeft_61 rfl ?_
                refine zr_istore_n [(3, .int x4_2), (0, .ref x0), (1, .int x1), (2, .int x2), (4, .int x4_2)] dX8_bestLeft_63 (Nat.le_of_ble_eq_true rfl) rfl ?_
                cases hf
                exact zr_lv [1, 2, 3, 0, 4] rfl hj12
          · rw [if_neg hc] at hf
            refine zr_goto 64 dX8_bestLeft_33 (by decide) ?_
            cases hf
            exact zr_lv [0, 1, 2, 3, 4] rfl hj12
  exact zr_lv [2, 3, 4, 1, 0] rfl (hL23 _ (-1) 0 hf)
theorem zl_474 : Cond.code yX8_bestLeft cX8_bestLeft 5 (some .int) ∈ zt := zt_at 981 (by decide +kernel)
theorem zvs_X8_bestLeft : zvS yX8_bestLeft cX8_bestLeft 5 (some .int) 3 := ⟨zl_474, zl_471, ⟨by decide +kernel, by decide +kernel, by decide +kernel⟩, by decide⟩
theorem zl_475 : Cond.methodLink RX8 18 yX8_bestLeft ∈ zt := zt_at 979 (by decide +kernel)
theorem zl_476 : Cond.static yX8_bestLeft ∈ zt := zt_at 980 (by decide +kernel)
theorem dX8_gainOfCouple_0 : decode cX8_gainOfCouple 0 = .ok (.iconst 0, 1) := by decide +kernel
theorem dX8_gainOfCouple_1 : decode cX8_gainOfCouple 1 = .ok (.istore_n 2, 1) := by decide +kernel
theorem dX8_gainOfCouple_2 : decode cX8_gainOfCouple 2 = .ok (.iconst 0, 1) := by decide +kernel
theorem dX8_gainOfCouple_3 : decode cX8_gainOfCouple 3 = .ok (.istore_n 3, 1) := by decide +kernel
theorem dX8_gainOfCouple_4 : decode cX8_gainOfCouple 4 = .ok (.iconst (-1), 1) := by decide +kernel
theorem dX8_gainOfCouple_5 : decode cX8_gainOfCouple 5 = .ok (.istore 4, 2) := by decide +kernel
theorem dX8_gainOfCouple_7 : decode cX8_gainOfCouple 7 = .ok (.iconst (-1), 1) := by decide +kernel
theorem dX8_gainOfCouple_8 : decode cX8_gainOfCouple 8 = .ok (.istore 5, 2) := by decide +kernel
theorem dX8_gainOfCouple_10 : decode cX8_gainOfCouple 10 = .ok (.iconst 0, 1) := by decide +kernel
theorem dX8_gainOfCouple_11 : decode cX8_gainOfCouple 11 = .ok (.istore 6, 2) := by decide +kernel
theorem dX8_gainOfCouple_13 : decode cX8_gainOfCouple 13 = .ok (.iload 6, 2) := by decide +kernel
theorem dX8_gainOfCouple_15 : decode cX8_gainOfCouple 15 = .ok (.iload_n 1, 1) := by decide +kernel
theorem dX8_gainOfCouple_16 : decode cX8_gainOfCouple 16 = .ok (.if_icmp .gt 53, 3) := by decide +kernel
theorem dX8_gainOfCouple_19 : decode cX8_gainOfCouple 19 = .ok (.aload_n 0, 1) := by decide +kernel
theorem dX8_gainOfCouple_20 : decode cX8_gainOfCouple 20 = .ok (.iconst 0, 1) := by decide +kernel
theorem dX8_gainOfCouple_21 : decode cX8_gainOfCouple 21 = .ok (.iload_n 2, 1) := by decide +kernel
theorem dX8_gainOfCouple_22 : decode cX8_gainOfCouple 22 = .ok (.invokestatic 18, 3) := by decide +kernel
theorem dX8_gainOfCouple_25 : decode cX8_gainOfCouple 25 = .ok (.istore 4, 2) := by decide +kernel
theorem dX8_gainOfCouple_27 : decode cX8_gainOfCouple 27 = .ok (.aload_n 0, 1) := by decide +kernel
theorem dX8_gainOfCouple_28 : decode cX8_gainOfCouple 28 = .ok (.iconst 1, 1) := by decide +kernel
theorem dX8_gainOfCouple_29 : decode cX8_gainOfCouple 29 = .ok (.iload_n 3, 1) := by decide +kernel
theorem dX8_gainOfCouple_30 : decode cX8_gainOfCouple 30 = .ok (.invokestatic 18, 3) := by decide +kernel
theorem dX8_gainOfCouple_33 : decode cX8_gainOfCouple 33 = .ok (.istore 5, 2) := by decide +kernel
theorem dX8_gainOfCouple_35 : decode cX8_gainOfCouple 35 = .ok (.iload 4, 2) := by decide +kernel
theorem dX8_gainOfCouple_37 : decode cX8_gainOfCouple 37 = .ok (.iconst (-1), 1) := by decide +kernel
theorem dX8_gainOfCouple_38 : decode cX8_gainOfCouple 38 = .ok (.if_icmp .eq 9, 3) := by decide +kernel
theorem dX8_gainOfCouple_41 : decode cX8_gainOfCouple 41 = .ok (.iload 5, 2) := by decide +kernel
theorem dX8_gainOfCouple_43 : decode cX8_gainOfCouple 43 = .ok (.iconst (-1), 1) := by decide +kernel
theorem dX8_gainOfCouple_44 : decode cX8_gainOfCouple 44 = .ok (.if_icmp .ne 5, 3) := by decide +kernel
theorem dX8_gainOfCouple_47 : decode cX8_gainOfCouple 47 = .ok (.iconst (-1), 1) := by decide +kernel
theorem dX8_gainOfCouple_48 : decode cX8_gainOfCouple 48 = .ok (.ireturn, 1) := by decide +kernel
theorem dX8_gainOfCouple_49 : decode cX8_gainOfCouple 49 = .ok (.iload_n 2, 1) := by decide +kernel
theorem dX8_gainOfCouple_50 : decode cX8_gainOfCouple 50 = .ok (.iconst 1, 1) := by decide +kernel
theorem dX8_gainOfCouple_51 : decode cX8_gainOfCouple 51 = .ok (.iload 4, 2) := by decide +kernel
theorem dX8_gainOfCouple_53 : decode cX8_gainOfCouple 53 = .ok (.ishl, 1) := by decide +kernel
theorem dX8_gainOfCouple_54 : decode cX8_gainOfCouple 54 = .ok (.ior, 1) := by decide +kernel
theorem dX8_gainOfCouple_55 : decode cX8_gainOfCouple 55 = .ok (.istore_n 2, 1) := by decide +kernel
theorem dX8_gainOfCouple_56 : decode cX8_gainOfCouple 56 = .ok (.iload_n 3, 1) := by decide +kernel
theorem dX8_gainOfCouple_57 : decode cX8_gainOfCouple 57 = .ok (.iconst 1, 1) := by decide +kernel
theorem dX8_gainOfCouple_58 : decode cX8_gainOfCouple 58 = .ok (.iload 5, 2) := by decide +kernel
theorem dX8_gainOfCouple_60 : decode cX8_gainOfCouple 60 = .ok (.ishl, 1) := by decide +kernel
theorem dX8_gainOfCouple_61 : decode cX8_gainOfCouple 61 = .ok (.ior, 1) := by decide +kernel
theorem dX8_gainOfCouple_62 : decode cX8_gainOfCouple 62 = .ok (.istore_n 3, 1) := by decide +kernel
theorem dX8_gainOfCouple_63 : decode cX8_gainOfCouple 63 = .ok (.iinc 6 1, 3) := by decide +kernel
theorem dX8_gainOfCouple_66 : decode cX8_gainOfCouple 66 = .ok (.goto (-53), 3) := by decide +kernel
theorem dX8_gainOfCouple_69 : decode cX8_gainOfCouple 69 = .ok (.iload 4, 2) := by decide +kernel
theorem dX8_gainOfCouple_71 : decode cX8_gainOfCouple 71 = .ok (.iconst (-1), 1) := by decide +kernel
theorem dX8_gainOfCouple_72 : decode cX8_gainOfCouple 72 = .ok (.if_icmp .eq 26, 3) := by decide +kernel
theorem dX8_gainOfCouple_75 : decode cX8_gainOfCouple 75 = .ok (.iload 5, 2) := by decide +kernel
theorem dX8_gainOfCouple_77 : decode cX8_gainOfCouple 77 = .ok (.iconst (-1), 1) := by decide +kernel
theorem dX8_gainOfCouple_78 : decode cX8_gainOfCouple 78 = .ok (.if_icmp .eq 20, 3) := by decide +kernel
theorem dX8_gainOfCouple_81 : decode cX8_gainOfCouple 81 = .ok (.aload_n 0, 1) := by decide +kernel
theorem dX8_gainOfCouple_82 : decode cX8_gainOfCouple 82 = .ok (.getfield 22, 3) := by decide +kernel
theorem dX8_gainOfCouple_85 : decode cX8_gainOfCouple 85 = .ok (.iload 5, 2) := by decide +kernel
theorem dX8_gainOfCouple_87 : decode cX8_gainOfCouple 87 = .ok (.iaload, 1) := by decide +kernel
theorem dX8_gainOfCouple_88 : decode cX8_gainOfCouple 88 = .ok (.aload_n 0, 1) := by decide +kernel
theorem dX8_gainOfCouple_89 : decode cX8_gainOfCouple 89 = .ok (.getfield 22, 3) := by decide +kernel
theorem dX8_gainOfCouple_92 : decode cX8_gainOfCouple 92 = .ok (.iload 4, 2) := by decide +kernel
theorem dX8_gainOfCouple_94 : decode cX8_gainOfCouple 94 = .ok (.iaload, 1) := by decide +kernel
theorem dX8_gainOfCouple_95 : decode cX8_gainOfCouple 95 = .ok (.if_icmp .ge 5, 3) := by decide +kernel
theorem dX8_gainOfCouple_98 : decode cX8_gainOfCouple 98 = .ok (.iconst (-1), 1) := by decide +kernel
theorem dX8_gainOfCouple_99 : decode cX8_gainOfCouple 99 = .ok (.ireturn, 1) := by decide +kernel
theorem dX8_gainOfCouple_100 : decode cX8_gainOfCouple 100 = .ok (.aload_n 0, 1) := by decide +kernel
theorem dX8_gainOfCouple_101 : decode cX8_gainOfCouple 101 = .ok (.getfield 22, 3) := by decide +kernel
theorem dX8_gainOfCouple_104 : decode cX8_gainOfCouple 104 = .ok (.iload 5, 2) := by decide +kernel
theorem dX8_gainOfCouple_106 : decode cX8_gainOfCouple 106 = .ok (.iaload, 1) := by decide +kernel
theorem dX8_gainOfCouple_107 : decode cX8_gainOfCouple 107 = .ok (.aload_n 0, 1) := by decide +kernel
theorem dX8_gainOfCouple_108 : decode cX8_gainOfCouple 108 = .ok (.getfield 22, 3) := by decide +kernel
theorem dX8_gainOfCouple_111 : decode cX8_gainOfCouple 111 = .ok (.iload 4, 2) := by decide +kernel
theorem dX8_gainOfCouple_113 : decode cX8_gainOfCouple 113 = .ok (.iaload, 1) := by decide +kernel
theorem dX8_gainOfCouple_114 : decode cX8_gainOfCouple 114 = .ok (.isub, 1) := by decide +kernel
theorem dX8_gainOfCouple_115 : decode cX8_gainOfCouple 115 = .ok (.ireturn, 1) := by decide +kernel
def fX8_gainOfCouple_l13 (x1 : Int32) (μ : zM) (x0 : Nat) (F6 : Int32 → Int32 → Int32 → Int32 → Int32 → Option (Int32)) (x2_1 : Int32) (x3_2 : Int32) (x4_3 : Int32) (x5_4 : Int32) (x6_5 : Int32) : Option (Int32) :=
  if x1 < x6_5 then (
  if x4_3 = (-1) then (
  some (-1))
  else (
  if x5_4 = (-1) then (
  some (-1))
  else (
  zb1 (zm_gR μ 9 x0 7) fun v8 =>
  zb1 (zm_aI μ 0 v8 x5_4) fun v10 =>
  zb1 (zm_gR μ 9 x0 7) fun v12 =>
  zb1 (zm_aI μ 0 v12 x4_3) fun v14 =>
  if v14 ≤ v10 then (
  zb1 (zm_gR μ 9 x0 7) fun v16 =>
  zb1 (zm_aI μ 0 v16 x5_4) fun v18 =>
  zb1 (zm_gR μ 9 x0 7) fun v20 =>
  zb1 (zm_aI μ 0 v20 x4_3) fun v22 =>
  some (v18 - v22))
  else (
  some (-1)))))
  else (
  zb1 (fX8_bestLeft μ x0 0 x2_1) fun v25 =>
  zb1 (fX8_bestLeft μ x0 1 x3_2) fun v27 =>
  if v25 = (-1) then (
  some (-1))
  else (
  if v27 = (-1) then (
  some (-1))
  else (
  F6 (x2_1 ||| (1 <<< (v25 &&& 31))) (x3_2 ||| (1 <<< (v27 &&& 31))) v25 v27 (x6_5 + 1))))
def fX8_gainOfCouple (μ : zM) (x0 : Nat) (x1 : Int32) : Option (Int32) :=
  zf5 (fX8_gainOfCouple_l13 x1 μ x0) zfu 0 0 (-1) (-1) 0
set_option maxHeartbeats 4000000 in
set_option maxRecDepth 100000 in
theorem cX8_gainOfCouple_ok {μ : zM} {x0 : Nat} {x1 : Int32} {r : Int32} (hf : fX8_gainOfCouple μ x0 x1 = some r) : zC yX8_gainOfCouple cX8_gainOfCouple 7 (some .int) 3 0 0 [.ref x0, .int x1] μ (some (.int r)) μ := by
  unfold fX8_gainOfCouple at hf
  refine zC.of (by decide) (Nat.le_of_ble_eq_true rfl) (fun K hin => ?_)
  clear hin
  show zz K cX8_gainOfCouple (7, RX8, some .int, 3, 0, 0, some (.int r), μ) 0 0 0 [(0, .ref x0), (1, .int x1)] [] μ
  refine zr_iconst 0 dX8_gainOfCouple_0 (by decide) ?_
  refine zr_istore_n [(2, .int 0), (0, .ref x0), (1, .int x1)] dX8_gainOfCouple_1 (Nat.le_of_ble_eq_true rfl) rfl ?_
  refine zr_iconst 0 dX8_gainOfCouple_2 (by decide) ?_
  refine zr_istore_n [(3, .int 0), (2, .int 0), (0, .ref x0), (1, .int x1)] dX8_gainOfCouple_3 (Nat.le_of_ble_eq_true rfl) rfl ?_
  refine zr_iconst (-1) dX8_gainOfCouple_4 (by decide) ?_
  refine zr_istore [(4, .int (-1)), (3, .int 0), (2, .int 0), (0, .ref x0), (1, .int x1)] dX8_gainOfCouple_5 (Nat.le_of_ble_eq_true rfl) rfl ?_
  refine zr_iconst (-1) dX8_gainOfCouple_7 (by decide) ?_
  refine zr_istore [(5, .int (-1)), (4, .int (-1)), (3, .int 0), (2, .int 0), (0, .ref x0), (1, .int x1)] dX8_gainOfCouple_8 (Nat.le_of_ble_eq_true rfl) rfl ?_
  refine zr_iconst 0 dX8_gainOfCouple_10 (by decide) ?_
  refine zr_istore [(6, .int 0), (5, .int (-1)), (4, .int (-1)), (3, .int 0), (2, .int 0), (0, .ref x0), (1, .int x1)] dX8_gainOfCouple_11 (Nat.le_of_ble_eq_true rfl) rfl ?_
  have hL28 : ∀ (n : Nat) (x2_1 : Int32) (x3_2 : Int32) (x4_3 : Int32) (x5_4 : Int32) (x6_5 : Int32), zf5 (fX8_gainOfCouple_l13 x1 μ x0) n x2_1 x3_2 x4_3 x5_4 x6_5 = some r → zz K cX8_gainOfCouple (7, RX8, some .int, 3, 0, 0, some (.int r), μ) 0 0 13 [(0, .ref x0), (1, .int x1), (2, .int x2_1), (3, .int x3_2), (4, .int x4_3), (5, .int x5_4), (6, .int x6_5)] [] μ := by
    intro n
    induction n with
    | zero => intro x2_1 x3_2 x4_3 x5_4 x6_5 hf; cases hf
    | succ n ih7 =>
      intro x2_1 x3_2 x4_3 x5_4 x6_5 hf
      replace hf := zf5_s hf
      generalize zf5 (fX8_gainOfCouple_l13 x1 μ x0) n = F6 at hf ih7
      unfold fX8_gainOfCouple_l13 at hf
      refine zr_iload 6 dX8_gainOfCouple_13 rfl ?_
      refine zr_iload_n 1 dX8_gainOfCouple_15 rfl ?_
      refine zr_icmp_gt 69 dX8_gainOfCouple_16 (by decide) (fun hc => ?_) (fun hc => ?_)
      · rw [if_pos hc] at hf
        refine zr_iload 4 dX8_gainOfCouple_69 rfl ?_
        refine zr_iconst (-1) dX8_gainOfCouple_71 (by decide) ?_
        refine zr_icmp_eq 98 dX8_gainOfCouple_72 (by decide) (fun hc => ?_) (fun hc => ?_)
        · rw [if_pos hc] at hf
          refine zr_iconst (-1) dX8_gainOfCouple_98 (by decide) ?_
          cases hf
          exact zr_iret dX8_gainOfCouple_99
        · rw [if_neg hc] at hf
          refine zr_iload 5 dX8_gainOfCouple_75 rfl ?_
          refine zr_iconst (-1) dX8_gainOfCouple_77 (by decide) ?_
          refine zr_icmp_eq 98 dX8_gainOfCouple_78 (by decide) (fun hc => ?_) (fun hc => ?_)
          · rw [if_pos hc] at hf
            refine zr_iconst (-1) dX8_gainOfCouple_98 (by decide) ?_
            cases hf
            exact zr_iret dX8_gainOfCouple_99
          · rw [if_neg hc] at hf
            refine zr_aload_n 0 dX8_gainOfCouple_81 rfl ?_
            replace hf := zb1_s hf
            obtain ⟨v8, h9, hf⟩ := hf
            refine zr_get (zm_gR_g h9) zk9 (by decide) zl_469 dX8_gainOfCouple_82 ?_
            refine zr_iload 5 dX8_gainOfCouple_85 rfl ?_
            replace hf := zb1_s hf
            obtain ⟨v10, h11, hf⟩ := hf
            refine zr_iald h11 dX8_gainOfCouple_87 ?_
            refine zr_aload_n 0 dX8_gainOfCouple_88 rfl ?_
            replace hf := zb1_s hf
            obtain ⟨v12, h13, hf⟩ := hf
            refine zr_get (zm_gR_g h13) zk9 (by decide) zl_469 dX8_gainOfCouple_89 ?_
            refine zr_iload 4 dX8_gainOfCouple_92 rfl ?_
            replace hf := zb1_s hf
            obtain ⟨v14, h15, hf⟩ := hf
            refine zr_iald h15 dX8_gainOfCouple_94 ?_
            refine zr_icmp_ge 100 dX8_gainOfCouple_95 (by decide) (fun hc => ?_) (fun hc => ?_)
            · rw [if_pos hc] at hf
              refine zr_aload_n 0 dX8_gainOfCouple_100 rfl ?_
              replace hf := zb1_s hf
              obtain ⟨v16, h17, hf⟩ := hf
              refine zr_get (zm_gR_g h17) zk9 (by decide) zl_469 dX8_gainOfCouple_101 ?_
              refine zr_iload 5 dX8_gainOfCouple_104 rfl ?_
              replace hf := zb1_s hf
              obtain ⟨v18, h19, hf⟩ := hf
              refine zr_iald h19 dX8_gainOfCouple_106 ?_
              refine zr_aload_n 0 dX8_gainOfCouple_107 rfl ?_
              replace hf := zb1_s hf
              obtain ⟨v20, h21, hf⟩ := hf
              refine zr_get (zm_gR_g h21) zk9 (by decide) zl_469 dX8_gainOfCouple_108 ?_
              refine zr_iload 4 dX8_gainOfCouple_111 rfl ?_
              replace hf := zb1_s hf
              obtain ⟨v22, h23, hf⟩ := hf
              refine zr_iald h23 dX8_gainOfCouple_113 ?_
              refine zr_isub dX8_gainOfCouple_114 ?_
              cases hf
              exact zr_iret dX8_gainOfCouple_115
            · rw [if_neg hc] at hf
              refine zr_iconst (-1) dX8_gainOfCouple_98 (by decide) ?_
              cases hf
              exact zr_iret dX8_gainOfCouple_99
      · rw [if_neg hc] at hf
        refine zr_aload_n 0 dX8_gainOfCouple_19 rfl ?_
        refine zr_iconst 0 dX8_gainOfCouple_20 (by decide) ?_
        refine zr_iload_n 2 dX8_gainOfCouple_21 rfl ?_
        replace hf := zb1_s hf
        obtain ⟨v25, h24, hf⟩ := hf
        refine zr_callS [.ref x0, .int 0, .int x2_1] (cX8_bestLeft_ok h24) zvs_X8_bestLeft zl_476 zl_475 rfl (Nat.le_of_ble_eq_true rfl) (Nat.le_of_ble_eq_true rfl) (Nat.le_of_ble_eq_true rfl) (Nat.le_of_ble_eq_true rfl) dX8_gainOfCouple_22 rfl ?_
        refine zr_istore [(4, .int v25), (0, .ref x0), (1, .int x1), (2, .int x2_1), (3, .int x3_2), (5, .int x5_4), (6, .int x6_5)] dX8_gainOfCouple_25 (Nat.le_of_ble_eq_true rfl) rfl ?_
        refine zr_aload_n 1 dX8_gainOfCouple_27 rfl ?_
        refine zr_iconst 1 dX8_gainOfCouple_28 (by decide) ?_
        refine zr_iload_n 4 dX8_gainOfCouple_29 rfl ?_
        replace hf := zb1_s hf
        obtain ⟨v27, h26, hf⟩ := hf
        refine zr_callS [.ref x0, .int 1, .int x3_2] (cX8_bestLeft_ok h26) zvs_X8_bestLeft zl_476 zl_475 rfl (Nat.le_of_ble_eq_true rfl) (Nat.le_of_ble_eq_true rfl) (Nat.le_of_ble_eq_true rfl) (Nat.le_of_ble_eq_true rfl) dX8_gainOfCouple_30 rfl ?_
        refine zr_istore [(5, .int v27), (4, .int v25), (0, .ref x0), (1, .int x1), (2, .int x2_1), (3, .int x3_2), (6, .int x6_5)] dX8_gainOfCouple_33 (Nat.le_of_ble_eq_true rfl) rfl ?_
        refine zr_iload 1 dX8_gainOfCouple_35 rfl ?_
        refine zr_iconst (-1) dX8_gainOfCouple_37 (by decide) ?_
        refine zr_icmp_eq 47 dX8_gainOfCouple_38 (by decide) (fun hc => ?_) (fun hc => ?_)
        · rw [if_pos hc] at hf
          refine zr_iconst (-1) dX8_gainOfCouple_47 (by decide) ?_
          cases hf
          exact zr_iret dX8_gainOfCouple_48
        · rw [if_neg hc] at hf
          refine zr_iload 0 dX8_gainOfCouple_41 rfl ?_
          refine zr_iconst (-1) dX8_gainOfCouple_43 (by decide) ?_
          refine zr_icmp_ne 49 dX8_gainOfCouple_44 (by decide) (fun hc => ?_) (fun hc => ?_)
          · rw [if_neg hc] at hf
            refine zr_iload_n 4 dX8_gainOfCouple_49 rfl ?_
            refine zr_iconst 1 dX8_gainOfCouple_50 (by decide) ?_
            refine zr_iload 1 dX8_gainOfCouple_51 rfl ?_
            refine zr_ishl dX8_gainOfCouple_53 ?_
            refine zr_ior dX8_gainOfCouple_54 ?_
            refine zr_istore_n [(2, .int (x2_1 ||| (1 <<< (v25 &&& 31)))), (5, .int v27), (4, .int v25), (0, .ref x0), (1, .int x1), (3, .int x3_2), (6, .int x6_5)] dX8_gainOfCouple_55 (Nat.le_of_ble_eq_true rfl) rfl ?_
            refine zr_iload_n 5 dX8_gainOfCouple_56 rfl ?_
            refine zr_iconst 1 dX8_gainOfCouple_57 (by decide) ?_
            refine zr_iload 1 dX8_gainOfCouple_58 rfl ?_
            refine zr_ishl dX8_gainOfCouple_60 ?_
            refine zr_ior dX8_gainOfCouple_61 ?_
            refine zr_istore_n [(3, .int (x3_2 ||| (1 <<< (v27 &&& 31)))), (2, .int (x2_1 ||| (1 <<< (v25 &&& 31)))), (5, .int v27), (4, .int v25), (0, .ref x0), (1, .int x1), (6, .int x6_5)] dX8_gainOfCouple_62 (Nat.le_of_ble_eq_true rfl) rfl ?_
            refine zr_iinc (j := 6) (x6_5 + 1) [(6, .int (x6_5 + 1)), (3, .int (x3_2 ||| (1 <<< (v27 &&& 31)))), (2, .int (x2_1 ||| (1 <<< (v25 &&& 31)))), (5, .int v27), (4, .int v25), (0, .ref x0), (1, .int x1)] dX8_gainOfCouple_63 rfl rfl (Nat.le_of_ble_eq_true rfl) rfl ?_
            refine zr_goto 13 dX8_gainOfCouple_66 (by decide) ?_
            exact zr_lv [5, 6, 2, 1, 4, 3, 0] rfl (ih7 (x2_1 ||| (1 <<< (v25 &&& 31))) (x3_2 ||| (1 <<< (v27 &&& 31))) v25 v27 (x6_5 + 1) hf)
          · rw [if_pos hc] at hf
            refine zr_iconst (-1) dX8_gainOfCouple_47 (by decide) ?_
            cases hf
            exact zr_iret dX8_gainOfCouple_48
  exact zr_lv [5, 6, 4, 3, 2, 1, 0] rfl (hL28 _ 0 0 (-1) (-1) 0 hf)
theorem zl_477 : Cond.code yX8_gainOfCouple cX8_gainOfCouple 7 (some .int) ∈ zt := zt_at 978 (by decide +kernel)
theorem zvs_X8_gainOfCouple : zvS yX8_gainOfCouple cX8_gainOfCouple 7 (some .int) 2 := ⟨zl_477, zl_471, ⟨by decide +kernel, by decide +kernel, by decide +kernel⟩, by decide⟩
theorem zl_478 : Cond.methodLink RX8 43 yX8_gainOfCouple ∈ zt := zt_at 976 (by decide +kernel)
theorem zl_479 : Cond.static yX8_gainOfCouple ∈ zt := zt_at 977 (by decide +kernel)
theorem dX8_couples_0 : decode cX8_couples 0 = .ok (.iconst 0, 1) := by decide +kernel
theorem dX8_couples_1 : decode cX8_couples 1 = .ok (.istore_n 1, 1) := by decide +kernel
theorem dX8_couples_2 : decode cX8_couples 2 = .ok (.iload_n 1, 1) := by decide +kernel
theorem dX8_couples_3 : decode cX8_couples 3 = .ok (.bipush 6, 2) := by decide +kernel
theorem dX8_couples_5 : decode cX8_couples 5 = .ok (.if_icmp .ge 18, 3) := by decide +kernel
theorem dX8_couples_8 : decode cX8_couples 8 = .ok (.aload_n 0, 1) := by decide +kernel
theorem dX8_couples_9 : decode cX8_couples 9 = .ok (.iload_n 1, 1) := by decide +kernel
theorem dX8_couples_10 : decode cX8_couples 10 = .ok (.invokestatic 43, 3) := by decide +kernel
theorem dX8_couples_13 : decode cX8_couples 13 = .ok (.iconst (-1), 1) := by decide +kernel
theorem dX8_couples_14 : decode cX8_couples 14 = .ok (.if_icmp .eq 9, 3) := by decide +kernel
theorem dX8_couples_17 : decode cX8_couples 17 = .ok (.iinc 1 1, 3) := by decide +kernel
theorem dX8_couples_20 : decode cX8_couples 20 = .ok (.goto (-18), 3) := by decide +kernel
theorem dX8_couples_23 : decode cX8_couples 23 = .ok (.iload_n 1, 1) := by decide +kernel
theorem dX8_couples_24 : decode cX8_couples 24 = .ok (.ireturn, 1) := by decide +kernel
def fX8_couples_l2 (μ : zM) (x0 : Nat) (F2 : Int32 → Option (Int32)) (x1_1 : Int32) : Option (Int32) :=
  if 6 ≤ x1_1 then (
  some x1_1)
  else (
  zb1 (fX8_gainOfCouple μ x0 x1_1) fun v7 =>
  if v7 = (-1) then (
  some x1_1)
  else (
  F2 (x1_1 + 1)))
def fX8_couples (μ : zM) (x0 : Nat) : Option (Int32) :=
  zb1 (zf1 (fX8_couples_l2 μ x0) zfu 0) fun x1_4 =>
  some x1_4
set_option maxHeartbeats 4000000 in
set_option maxRecDepth 100000 in
theorem cX8_couples_ok {μ : zM} {x0 : Nat} {r : Int32} (hf : fX8_couples μ x0 = some r) : zC yX8_couples cX8_couples 2 (some .int) 4 0 0 [.ref x0] μ (some (.int r)) μ := by
  unfold fX8_couples at hf
  refine zC.of (by decide) (Nat.le_of_ble_eq_true rfl) (fun K hin => ?_)
  clear hin
  show zz K cX8_couples (2, RX8, some .int, 4, 0, 0, some (.int r), μ) 0 0 0 [(0, .ref x0)] [] μ
  refine zr_iconst 0 dX8_couples_0 (by decide) ?_
  refine zr_istore_n [(1, .int 0), (0, .ref x0)] dX8_couples_1 (Nat.le_of_ble_eq_true rfl) rfl ?_
  replace hf := zb1_s hf
  obtain ⟨x1_4, hg, hf⟩ := hf
  have hj5 : zz K cX8_couples (2, RX8, some .int, 4, 0, 0, some (.int r), μ) 0 0 23 [(1, .int x1_4)] [] μ := by
    refine zr_iload_n 0 dX8_couples_23 rfl ?_
    cases hf
    exact zr_iret dX8_couples_24
  clear hf
  have hf := hg
  clear hg
  have hL8 : ∀ (n : Nat) (x1_1 : Int32), zf1 (fX8_couples_l2 μ x0) n x1_1 = some x1_4 → zz K cX8_couples (2, RX8, some .int, 4, 0, 0, some (.int r), μ) 0 0 2 [(0, .ref x0), (1, .int x1_1)] [] μ := by
    intro n
    induction n with
    | zero => intro x1_1 hf; cases hf
    | succ n ih3 =>
      intro x1_1 hf
      replace hf := zf1_s hf
      generalize zf1 (fX8_couples_l2 μ x0) n = F2 at hf ih3
      unfold fX8_couples_l2 at hf
      refine zr_iload_n 1 dX8_couples_2 rfl ?_
      refine zr_bipush 6 dX8_couples_3 (by decide) ?_
      refine zr_icmp_ge 23 dX8_couples_5 (by decide) (fun hc => ?_) (fun hc => ?_)
      · rw [if_pos hc] at hf
        cases hf
        exact zr_lv [1] rfl hj5
      · rw [if_neg hc] at hf
        refine zr_aload_n 0 dX8_couples_8 rfl ?_
        refine zr_iload_n 1 dX8_couples_9 rfl ?_
        replace hf := zb1_s hf
        obtain ⟨v7, h6, hf⟩ := hf
        refine zr_callS [.ref x0, .int x1_1] (cX8_gainOfCouple_ok h6) zvs_X8_gainOfCouple zl_479 zl_478 rfl (Nat.le_of_ble_eq_true rfl) (Nat.le_of_ble_eq_true rfl) (Nat.le_of_ble_eq_true rfl) (Nat.le_of_ble_eq_true rfl) dX8_couples_10 rfl ?_
        refine zr_iconst (-1) dX8_couples_13 (by decide) ?_
        refine zr_icmp_eq 23 dX8_couples_14 (by decide) (fun hc => ?_) (fun hc => ?_)
        · rw [if_pos hc] at hf
          cases hf
          exact zr_lv [1] rfl hj5
        · rw [if_neg hc] at hf
          refine zr_iinc (j := 1) (x1_1 + 1) [(1, .int (x1_1 + 1)), (0, .ref x0)] dX8_couples_17 rfl rfl (Nat.le_of_ble_eq_true rfl) rfl ?_
          refine zr_goto 2 dX8_couples_20 (by decide) ?_
          exact zr_lv [1, 0] rfl (ih3 (x1_1 + 1) hf)
  exact zr_lv [1, 0] rfl (hL8 _ 0 hf)
theorem zl_480 : Cond.code yX8_couples cX8_couples 2 (some .int) ∈ zt := zt_at 975 (by decide +kernel)
theorem zvs_X8_couples : zvS yX8_couples cX8_couples 2 (some .int) 1 := ⟨zl_480, zl_471, ⟨by decide +kernel, by decide +kernel, by decide +kernel⟩, by decide⟩
theorem zl_481 : Cond.methodLink RX8 39 yX8_couples ∈ zt := zt_at 973 (by decide +kernel)
theorem zl_482 : Cond.static yX8_couples ∈ zt := zt_at 974 (by decide +kernel)
theorem dX8_gain_0 : decode cX8_gain 0 = .ok (.iconst 0, 1) := by decide +kernel
theorem dX8_gain_1 : decode cX8_gain 1 = .ok (.istore_n 1, 1) := by decide +kernel
theorem dX8_gain_2 : decode cX8_gain 2 = .ok (.aload_n 0, 1) := by decide +kernel
theorem dX8_gain_3 : decode cX8_gain 3 = .ok (.invokestatic 39, 3) := by decide +kernel
theorem dX8_gain_6 : decode cX8_gain 6 = .ok (.istore_n 2, 1) := by decide +kernel
theorem dX8_gain_7 : decode cX8_gain 7 = .ok (.iconst 0, 1) := by decide +kernel
theorem dX8_gain_8 : decode cX8_gain 8 = .ok (.istore_n 3, 1) := by decide +kernel
theorem dX8_gain_9 : decode cX8_gain 9 = .ok (.iload_n 3, 1) := by decide +kernel
theorem dX8_gain_10 : decode cX8_gain 10 = .ok (.iload_n 2, 1) := by decide +kernel
theorem dX8_gain_11 : decode cX8_gain 11 = .ok (.if_icmp .ge 17, 3) := by decide +kernel
theorem dX8_gain_14 : decode cX8_gain 14 = .ok (.iload_n 1, 1) := by decide +kernel
theorem dX8_gain_15 : decode cX8_gain 15 = .ok (.aload_n 0, 1) := by decide +kernel
theorem dX8_gain_16 : decode cX8_gain 16 = .ok (.iload_n 3, 1) := by decide +kernel
theorem dX8_gain_17 : decode cX8_gain 17 = .ok (.invokestatic 43, 3) := by decide +kernel
theorem dX8_gain_20 : decode cX8_gain 20 = .ok (.iadd, 1) := by decide +kernel
theorem dX8_gain_21 : decode cX8_gain 21 = .ok (.istore_n 1, 1) := by decide +kernel
theorem dX8_gain_22 : decode cX8_gain 22 = .ok (.iinc 3 1, 3) := by decide +kernel
theorem dX8_gain_25 : decode cX8_gain 25 = .ok (.goto (-16), 3) := by decide +kernel
theorem dX8_gain_28 : decode cX8_gain 28 = .ok (.iload_n 1, 1) := by decide +kernel
theorem dX8_gain_29 : decode cX8_gain 29 = .ok (.ireturn, 1) := by decide +kernel
def fX8_gain_l9 (v2 : Int32) (μ : zM) (x0 : Nat) (F5 : Int32 → Int32 → Option (Int32)) (x1_3 : Int32) (x3_4 : Int32) : Option (Int32) :=
  if v2 ≤ x3_4 then (
  some x1_3)
  else (
  zb1 (fX8_gainOfCouple μ x0 x3_4) fun v10 =>
  F5 (x1_3 + v10) (x3_4 + 1))
def fX8_gain (μ : zM) (x0 : Nat) : Option (Int32) :=
  zb1 (fX8_couples μ x0) fun v2 =>
  zb1 (zf2 (fX8_gain_l9 v2 μ x0) zfu 0 0) fun x1_7 =>
  some x1_7
set_option maxHeartbeats 4000000 in
set_option maxRecDepth 100000 in
theorem cX8_gain_ok {μ : zM} {x0 : Nat} {r : Int32} (hf : fX8_gain μ x0 = some r) : zC yX8_gain cX8_gain 4 (some .int) 5 0 0 [.ref x0] μ (some (.int r)) μ := by
  unfold fX8_gain at hf
  refine zC.of (by decide) (Nat.le_of_ble_eq_true rfl) (fun K hin => ?_)
  clear hin
  show zz K cX8_gain (4, RX8, some .int, 5, 0, 0, some (.int r), μ) 0 0 0 [(0, .ref x0)] [] μ
  refine zr_iconst 0 dX8_gain_0 (by decide) ?_
  refine zr_istore_n [(1, .int 0), (0, .ref x0)] dX8_gain_1 (Nat.le_of_ble_eq_true rfl) rfl ?_
  refine zr_aload_n 1 dX8_gain_2 rfl ?_
  replace hf := zb1_s hf
  obtain ⟨v2, h1, hf⟩ := hf
  refine zr_callS [.ref x0] (cX8_couples_ok h1) zvs_X8_couples zl_482 zl_481 rfl (Nat.le_of_ble_eq_true rfl) (Nat.le_of_ble_eq_true rfl) (Nat.le_of_ble_eq_true rfl) (Nat.le_of_ble_eq_true rfl) dX8_gain_3 rfl ?_
  refine zr_istore_n [(2, .int v2), (1, .int 0), (0, .ref x0)] dX8_gain_6 (Nat.le_of_ble_eq_true rfl) rfl ?_
  refine zr_iconst 0 dX8_gain_7 (by decide) ?_
  refine zr_istore_n [(3, .int 0), (2, .int v2), (1, .int 0), (0, .ref x0)] dX8_gain_8 (Nat.le_of_ble_eq_true rfl) rfl ?_
  replace hf := zb1_s hf
  obtain ⟨x1_7, hg, hf⟩ := hf
  have hj8 : zz K cX8_gain (4, RX8, some .int, 5, 0, 0, some (.int r), μ) 0 0 28 [(1, .int x1_7)] [] μ := by
    refine zr_iload_n 0 dX8_gain_28 rfl ?_
    cases hf
    exact zr_iret dX8_gain_29
  clear hf
  have hf := hg
  clear hg
  have hL11 : ∀ (n : Nat) (x1_3 : Int32) (x3_4 : Int32), zf2 (fX8_gain_l9 v2 μ x0) n x1_3 x3_4 = some x1_7 → zz K cX8_gain (4, RX8, some .int, 5, 0, 0, some (.int r), μ) 0 0 9 [(0, .ref x0), (1, .int x1_3), (2, .int v2), (3, .int x3_4)] [] μ := by
    intro n
    induction n with
    | zero => intro x1_3 x3_4 hf; cases hf
    | succ n ih6 =>
      intro x1_3 x3_4 hf
      replace hf := zf2_s hf
      generalize zf2 (fX8_gain_l9 v2 μ x0) n = F5 at hf ih6
      unfold fX8_gain_l9 at hf
      refine zr_iload_n 3 dX8_gain_9 rfl ?_
      refine zr_iload_n 2 dX8_gain_10 rfl ?_
      refine zr_icmp_ge 28 dX8_gain_11 (by decide) (fun hc => ?_) (fun hc => ?_)
      · rw [if_pos hc] at hf
        cases hf
        exact zr_lv [1] rfl hj8
      · rw [if_neg hc] at hf
        refine zr_iload_n 1 dX8_gain_14 rfl ?_
        refine zr_aload_n 0 dX8_gain_15 rfl ?_
        refine zr_iload_n 3 dX8_gain_16 rfl ?_
        replace hf := zb1_s hf
        obtain ⟨v10, h9, hf⟩ := hf
        refine zr_callS [.ref x0, .int x3_4] (cX8_gainOfCouple_ok h9) zvs_X8_gainOfCouple zl_479 zl_478 rfl (Nat.le_of_ble_eq_true rfl) (Nat.le_of_ble_eq_true rfl) (Nat.le_of_ble_eq_true rfl) (Nat.le_of_ble_eq_true rfl) dX8_gain_17 rfl ?_
        refine zr_iadd dX8_gain_20 ?_
        refine zr_istore_n [(1, .int (x1_3 + v10)), (0, .ref x0), (2, .int v2), (3, .int x3_4)] dX8_gain_21 (Nat.le_of_ble_eq_true rfl) rfl ?_
        refine zr_iinc (j := 3) (x3_4 + 1) [(3, .int (x3_4 + 1)), (1, .int (x1_3 + v10)), (0, .ref x0), (2, .int v2)] dX8_gain_22 rfl rfl (Nat.le_of_ble_eq_true rfl) rfl ?_
        refine zr_goto 9 dX8_gain_25 (by decide) ?_
        exact zr_lv [2, 1, 3, 0] rfl (ih6 (x1_3 + v10) (x3_4 + 1) hf)
  exact zr_lv [3, 2, 1, 0] rfl (hL11 _ 0 0 hf)
theorem zl_483 : Cond.fieldLink RX8 51 "TwoEchoes$Valley" "kind" "[I" ∈ zt := zt_at 194 (by decide +kernel)
theorem dX8_isFair_0 : decode cX8_isFair 0 = .ok (.iconst 0, 1) := by decide +kernel
theorem dX8_isFair_1 : decode cX8_isFair 1 = .ok (.istore_n 2, 1) := by decide +kernel
theorem dX8_isFair_2 : decode cX8_isFair 2 = .ok (.iconst 0, 1) := by decide +kernel
theorem dX8_isFair_3 : decode cX8_isFair 3 = .ok (.istore_n 3, 1) := by decide +kernel
theorem dX8_isFair_4 : decode cX8_isFair 4 = .ok (.iconst 0, 1) := by decide +kernel
theorem dX8_isFair_5 : decode cX8_isFair 5 = .ok (.istore 4, 2) := by decide +kernel
theorem dX8_isFair_7 : decode cX8_isFair 7 = .ok (.iconst 0, 1) := by decide +kernel
theorem dX8_isFair_8 : decode cX8_isFair 8 = .ok (.istore 5, 2) := by decide +kernel
theorem dX8_isFair_10 : decode cX8_isFair 10 = .ok (.iconst 0, 1) := by decide +kernel
theorem dX8_isFair_11 : decode cX8_isFair 11 = .ok (.istore 6, 2) := by decide +kernel
theorem dX8_isFair_13 : decode cX8_isFair 13 = .ok (.iload 6, 2) := by decide +kernel
theorem dX8_isFair_15 : decode cX8_isFair 15 = .ok (.aload_n 0, 1) := by decide +kernel
theorem dX8_isFair_16 : decode cX8_isFair 16 = .ok (.getfield 27, 3) := by decide +kernel
theorem dX8_isFair_19 : decode cX8_isFair 19 = .ok (.if_icmp .ge 102, 3) := by decide +kernel
theorem dX8_isFair_22 : decode cX8_isFair 22 = .ok (.aload_n 0, 1) := by decide +kernel
theorem dX8_isFair_23 : decode cX8_isFair 23 = .ok (.getfield 22, 3) := by decide +kernel
theorem dX8_isFair_26 : decode cX8_isFair 26 = .ok (.iload 6, 2) := by decide +kernel
theorem dX8_isFair_28 : decode cX8_isFair 28 = .ok (.iaload, 1) := by decide +kernel
theorem dX8_isFair_29 : decode cX8_isFair 29 = .ok (.istore 7, 2) := by decide +kernel
theorem dX8_isFair_31 : decode cX8_isFair 31 = .ok (.aload_n 0, 1) := by decide +kernel
theorem dX8_isFair_32 : decode cX8_isFair 32 = .ok (.getfield 51, 3) := by decide +kernel
theorem dX8_isFair_35 : decode cX8_isFair 35 = .ok (.iload 6, 2) := by decide +kernel
theorem dX8_isFair_37 : decode cX8_isFair 37 = .ok (.iaload, 1) := by decide +kernel
theorem dX8_isFair_38 : decode cX8_isFair 38 = .ok (.ifCond .ne 34, 3) := by decide +kernel
theorem dX8_isFair_41 : decode cX8_isFair 41 = .ok (.iload_n 2, 1) := by decide +kernel
theorem dX8_isFair_42 : decode cX8_isFair 42 = .ok (.iload 7, 2) := by decide +kernel
theorem dX8_isFair_44 : decode cX8_isFair 44 = .ok (.iload_n 1, 1) := by decide +kernel
theorem dX8_isFair_45 : decode cX8_isFair 45 = .ok (.if_icmp .ge 7, 3) := by decide +kernel
theorem dX8_isFair_48 : decode cX8_isFair 48 = .ok (.iconst 1, 1) := by decide +kernel
theorem dX8_isFair_49 : decode cX8_isFair 49 = .ok (.goto 4, 3) := by decide +kernel
theorem dX8_isFair_52 : decode cX8_isFair 52 = .ok (.iconst 0, 1) := by decide +kernel
theorem dX8_isFair_53 : decode cX8_isFair 53 = .ok (.iadd, 1) := by decide +kernel
theorem dX8_isFair_54 : decode cX8_isFair 54 = .ok (.istore_n 2, 1) := by decide +kernel
theorem dX8_isFair_55 : decode cX8_isFair 55 = .ok (.iload_n 3, 1) := by decide +kernel
theorem dX8_isFair_56 : decode cX8_isFair 56 = .ok (.iload 7, 2) := by decide +kernel
theorem dX8_isFair_58 : decode cX8_isFair 58 = .ok (.iload_n 1, 1) := by decide +kernel
theorem dX8_isFair_59 : decode cX8_isFair 59 = .ok (.if_icmp .gt 7, 3) := by decide +kernel
theorem dX8_isFair_62 : decode cX8_isFair 62 = .ok (.iconst 1, 1) := by decide +kernel
theorem dX8_isFair_63 : decode cX8_isFair 63 = .ok (.goto 4, 3) := by decide +kernel
theorem dX8_isFair_66 : decode cX8_isFair 66 = .ok (.iconst 0, 1) := by decide +kernel
theorem dX8_isFair_67 : decode cX8_isFair 67 = .ok (.iadd, 1) := by decide +kernel
theorem dX8_isFair_68 : decode cX8_isFair 68 = .ok (.istore_n 3, 1) := by decide +kernel
theorem dX8_isFair_69 : decode cX8_isFair 69 = .ok (.goto 46, 3) := by decide +kernel
theorem dX8_isFair_72 : decode cX8_isFair 72 = .ok (.aload_n 0, 1) := by decide +kernel
theorem dX8_isFair_73 : decode cX8_isFair 73 = .ok (.getfield 51, 3) := by decide +kernel
theorem dX8_isFair_76 : decode cX8_isFair 76 = .ok (.iload 6, 2) := by decide +kernel
theorem dX8_isFair_78 : decode cX8_isFair 78 = .ok (.iaload, 1) := by decide +kernel
theorem dX8_isFair_79 : decode cX8_isFair 79 = .ok (.iconst 1, 1) := by decide +kernel
theorem dX8_isFair_80 : decode cX8_isFair 80 = .ok (.if_icmp .ne 35, 3) := by decide +kernel
theorem dX8_isFair_83 : decode cX8_isFair 83 = .ok (.iload 4, 2) := by decide +kernel
theorem dX8_isFair_85 : decode cX8_isFair 85 = .ok (.iload 7, 2) := by decide +kernel
theorem dX8_isFair_87 : decode cX8_isFair 87 = .ok (.iload_n 1, 1) := by decide +kernel
theorem dX8_isFair_88 : decode cX8_isFair 88 = .ok (.if_icmp .le 7, 3) := by decide +kernel
theorem dX8_isFair_91 : decode cX8_isFair 91 = .ok (.iconst 1, 1) := by decide +kernel
theorem dX8_isFair_92 : decode cX8_isFair 92 = .ok (.goto 4, 3) := by decide +kernel
theorem dX8_isFair_95 : decode cX8_isFair 95 = .ok (.iconst 0, 1) := by decide +kernel
theorem dX8_isFair_96 : decode cX8_isFair 96 = .ok (.iadd, 1) := by decide +kernel
theorem dX8_isFair_97 : decode cX8_isFair 97 = .ok (.istore 4, 2) := by decide +kernel
theorem dX8_isFair_99 : decode cX8_isFair 99 = .ok (.iload 5, 2) := by decide +kernel
theorem dX8_isFair_101 : decode cX8_isFair 101 = .ok (.iload 7, 2) := by decide +kernel
theorem dX8_isFair_103 : decode cX8_isFair 103 = .ok (.iload_n 1, 1) := by decide +kernel
theorem dX8_isFair_104 : decode cX8_isFair 104 = .ok (.if_icmp .lt 7, 3) := by decide +kernel
theorem dX8_isFair_107 : decode cX8_isFair 107 = .ok (.iconst 1, 1) := by decide +kernel
theorem dX8_isFair_108 : decode cX8_isFair 108 = .ok (.goto 4, 3) := by decide +kernel
theorem dX8_isFair_111 : decode cX8_isFair 111 = .ok (.iconst 0, 1) := by decide +kernel
theorem dX8_isFair_112 : decode cX8_isFair 112 = .ok (.iadd, 1) := by decide +kernel
theorem dX8_isFair_113 : decode cX8_isFair 113 = .ok (.istore 5, 2) := by decide +kernel
theorem dX8_isFair_115 : decode cX8_isFair 115 = .ok (.iinc 6 1, 3) := by decide +kernel
theorem dX8_isFair_118 : decode cX8_isFair 118 = .ok (.goto (-105), 3) := by decide +kernel
theorem dX8_isFair_121 : decode cX8_isFair 121 = .ok (.iload_n 2, 1) := by decide +kernel
theorem dX8_isFair_122 : decode cX8_isFair 122 = .ok (.iload 5, 2) := by decide +kernel
theorem dX8_isFair_124 : decode cX8_isFair 124 = .ok (.if_icmp .gt 13, 3) := by decide +kernel
theorem dX8_isFair_127 : decode cX8_isFair 127 = .ok (.iload 4, 2) := by decide +kernel
theorem dX8_isFair_129 : decode cX8_isFair 129 = .ok (.iload_n 3, 1) := by decide +kernel
theorem dX8_isFair_130 : decode cX8_isFair 130 = .ok (.if_icmp .gt 7, 3) := by decide +kernel
theorem dX8_isFair_133 : decode cX8_isFair 133 = .ok (.iconst 1, 1) := by decide +kernel
theorem dX8_isFair_134 : decode cX8_isFair 134 = .ok (.goto 4, 3) := by decide +kernel
theorem dX8_isFair_137 : decode cX8_isFair 137 = .ok (.iconst 0, 1) := by decide +kernel
theorem dX8_isFair_138 : decode cX8_isFair 138 = .ok (.ireturn, 1) := by decide +kernel
def fX8_isFair_l13 (μ : zM) (x0 : Nat) (x1 : Int32) (F6 : Int32 → Int32 → Int32 → Int32 → Int32 → Option (Int32 × Int32 × Int32 × Int32)) (x2_1 : Int32) (x3_2 : Int32) (x4_3 : Int32) (x5_4 : Int32) (x6_5 : Int32) : Option (Int32 × Int32 × Int32 × Int32) :=
  zb1 (zm_gI μ 9 x0 4) fun v13 =>
  if v13 ≤ x6_5 then (
  some (x2_1, x3_2, x4_3, x5_4))
  else (
  zb1 (zm_gR μ 9 x0 7) fun v15 =>
  zb1 (zm_aI μ 0 v15 x6_5) fun v17 =>
  zb1 (zm_gR μ 9 x0 5) fun v19 =>
  zb1 (zm_aI μ 0 v19 x6_5) fun v21 =>
  zb4 (if v21 = 0 then (
  zb1 (if x1 ≤ v17 then (
  some 0)
  else (
  some 1)) fun s36 =>
  zb1 (if x1 < v17 then (
  some 0)
  else (
  some 1)) fun s38 =>
  some ((x2_1 + s36), (x3_2 + s38), x4_3, x5_4))
  else (
  zb1 (zm_gR μ 9 x0 5) fun v28 =>
  zb1 (zm_aI μ 0 v28 x6_5) fun v30 =>
  if v30 = 1 then (
  zb1 (if v17 ≤ x1 then (
  some 0)
  else (
  some 1)) fun s32 =>
  zb1 (if v17 < x1 then (
  some 0)
  else (
  some 1)) fun s34 =>
  some (x2_1, x3_2, (x4_3 + s32), (x5_4 + s34)))
  else (
  some (x2_1, x3_2, x4_3, x5_4)))) fun x2_23 x3_24 x4_25 x5_26 =>
  F6 x2_23 x3_24 x4_25 x5_26 (x6_5 + 1))
def fX8_isFair (μ : zM) (x0 : Nat) (x1 : Int32) : Option (Int32) :=
  zb4 (zf5 (fX8_isFair_l13 μ x0 x1) zfu 0 0 0 0 0) fun x2_8 x3_9 x4_10 x5_11 =>
  zb1 (if x5_11 < x2_8 then (
  some 0)
  else (
  if x3_9 < x4_10 then (
  some 0)
  else (
  some 1))) fun s41 =>
  zb1 (zbz s41) fun v43 =>
  some v43
set_option maxHeartbeats 4000000 in
set_option maxRecDepth 100000 in
theorem cX8_isFair_ok {μ : zM} {x0 : Nat} {x1 : Int32} {r : Int32} (hf : fX8_isFair μ x0 x1 = some r) : zC yX8_isFair cX8_isFair 8 (some .boolean) 0 0 0 [.ref x0, .int x1] μ (some (.int r)) μ := by
  unfold fX8_isFair at hf
  refine zC.of (by decide) (Nat.le_of_ble_eq_true rfl) (fun K hin => ?_)
  clear hin
  show zz K cX8_isFair (8, RX8, some .boolean, 0, 0, 0, some (.int r), μ) 0 0 0 [(0, .ref x0), (1, .int x1)] [] μ
  refine zr_iconst 0 dX8_isFair_0 (by decide) ?_
  refine zr_istore_n [(2, .int 0), (0, .ref x0), (1, .int x1)] dX8_isFair_1 (Nat.le_of_ble_eq_true rfl) rfl ?_
  refine zr_iconst 0 dX8_isFair_2 (by decide) ?_
  refine zr_istore_n [(3, .int 0), (2, .int 0), (0, .ref x0), (1, .int x1)] dX8_isFair_3 (Nat.le_of_ble_eq_true rfl) rfl ?_
  refine zr_iconst 0 dX8_isFair_4 (by decide) ?_
  refine zr_istore [(4, .int 0), (3, .int 0), (2, .int 0), (0, .ref x0), (1, .int x1)] dX8_isFair_5 (Nat.le_of_ble_eq_true rfl) rfl ?_
  refine zr_iconst 0 dX8_isFair_7 (by decide) ?_
  refine zr_istore [(5, .int 0), (4, .int 0), (3, .int 0), (2, .int 0), (0, .ref x0), (1, .int x1)] dX8_isFair_8 (Nat.le_of_ble_eq_true rfl) rfl ?_
  refine zr_iconst 0 dX8_isFair_10 (by decide) ?_
  refine zr_istore [(6, .int 0), (5, .int 0), (4, .int 0), (3, .int 0), (2, .int 0), (0, .ref x0), (1, .int x1)] dX8_isFair_11 (Nat.le_of_ble_eq_true rfl) rfl ?_
  replace hf := zb4_s hf
  obtain ⟨x2_8, x3_9, x4_10, x5_11, hg, hf⟩ := hf
  have hj12 : zz K cX8_isFair (8, RX8, some .boolean, 0, 0, 0, some (.int r), μ) 0 0 121 [(2, .int x2_8), (3, .int x3_9), (4, .int x4_10), (5, .int x5_11)] [] μ := by
    refine zr_iload_n 0 dX8_isFair_121 rfl ?_
    refine zr_iload 3 dX8_isFair_122 rfl ?_
    replace hf := zb1_s hf
    obtain ⟨s41, hg, hf⟩ := hf
    have hj42 : zz K cX8_isFair (8, RX8, some .boolean, 0, 0, 0, some (.int r), μ) 0 0 138 [] [.int s41] μ := by
      replace hf := zb1_s hf
      obtain ⟨v43, hn44, hf⟩ := hf
      obtain ⟨hn44, rfl⟩ := zbz_s hn44
      cases hf
      exact zr_zret hn44 dX8_isFair_138
    clear hf
    have hf := hg
    clear hg
    refine zr_icmp_gt 137 dX8_isFair_124 (by decide) (fun hc => ?_) (fun hc => ?_)
    · rw [if_pos hc] at hf
      refine zr_iconst 0 dX8_isFair_137 (by decide) ?_
      cases hf
      exact zr_lv [] rfl hj42
    · rw [if_neg hc] at hf
      refine zr_iload 2 dX8_isFair_127 rfl ?_
      refine zr_iload_n 1 dX8_isFair_129 rfl ?_
      refine zr_icmp_gt 137 dX8_isFair_130 (by decide) (fun hc => ?_) (fun hc => ?_)
      · rw [if_pos hc] at hf
        refine zr_iconst 0 dX8_isFair_137 (by decide) ?_
        cases hf
        exact zr_lv [] rfl hj42
      · rw [if_neg hc] at hf
        refine zr_iconst 1 dX8_isFair_133 (by decide) ?_
        refine zr_goto 138 dX8_isFair_134 (by decide) ?_
        cases hf
        exact zr_lv [] rfl hj42
  clear hf
  have hf := hg
  clear hg
  have hL40 : ∀ (n : Nat) (x2_1 : Int32) (x3_2 : Int32) (x4_3 : Int32) (x5_4 : Int32) (x6_5 : Int32), zf5 (fX8_isFair_l13 μ x0 x1) n x2_1 x3_2 x4_3 x5_4 x6_5 = some (x2_8, x3_9, x4_10, x5_11) → zz K cX8_isFair (8, RX8, some .boolean, 0, 0, 0, some (.int r), μ) 0 0 13 [(0, .ref x0), (1, .int x1), (2, .int x2_1), (3, .int x3_2), (4, .int x4_3), (5, .int x5_4), (6, .int x6_5)] [] μ := by
    intro n
    induction n with
    | zero => intro x2_1 x3_2 x4_3 x5_4 x6_5 hf; cases hf
    | succ n ih7 =>
      intro x2_1 x3_2 x4_3 x5_4 x6_5 hf
      replace hf := zf5_s hf
      generalize zf5 (fX8_isFair_l13 μ x0 x1) n = F6 at hf ih7
      unfold fX8_isFair_l13 at hf
      refine zr_iload 6 dX8_isFair_13 rfl ?_
      refine zr_aload_n 0 dX8_isFair_15 rfl ?_
      replace hf := zb1_s hf
      obtain ⟨v13, h14, hf⟩ := hf
      refine zr_get (zm_gI_g h14) zk9 (by decide) zl_464 dX8_isFair_16 ?_
      refine zr_icmp_ge 121 dX8_isFair_19 (by decide) (fun hc => ?_) (fun hc => ?_)
      · rw [if_pos hc] at hf
        cases hf
        exact zr_lv [2, 3, 4, 5] rfl hj12
      · rw [if_neg hc] at hf
        refine zr_aload_n 0 dX8_isFair_22 rfl ?_
        replace hf := zb1_s hf
        obtain ⟨v15, h16, hf⟩ := hf
        refine zr_get (zm_gR_g h16) zk9 (by decide) zl_469 dX8_isFair_23 ?_
        refine zr_iload 6 dX8_isFair_26 rfl ?_
        replace hf := zb1_s hf
        obtain ⟨v17, h18, hf⟩ := hf
        refine zr_iald h18 dX8_isFair_28 ?_
        refine zr_istore [(7, .int v17), (0, .ref x0), (1, .int x1), (2, .int x2_1), (3, .int x3_2), (4, .int x4_3), (5, .int x5_4), (6, .int x6_5)] dX8_isFair_29 (Nat.le_of_ble_eq_true rfl) rfl ?_
        refine zr_aload_n 1 dX8_isFair_31 rfl ?_
        replace hf := zb1_s hf
        obtain ⟨v19, h20, hf⟩ := hf
        refine zr_get (zm_gR_g h20) zk9 (by decide) zl_483 dX8_isFair_32 ?_
        refine zr_iload 7 dX8_isFair_35 rfl ?_
        replace hf := zb1_s hf
        obtain ⟨v21, h22, hf⟩ := hf
        refine zr_iald h22 dX8_isFair_37 ?_
        replace hf := zb4_s hf
        obtain ⟨x2_23, x3_24, x4_25, x5_26, hg, hf⟩ := hf
        have hj27 : zz K cX8_isFair (8, RX8, some .boolean, 0, 0, 0, some (.int r), μ) 0 0 115 [(0, .ref x0), (1, .int x1), (2, .int x2_23), (3, .int x3_24), (4, .int x4_25), (5, .int x5_26), (6, .int x6_5)] [] μ := by
          refine zr_iinc (j := 6) (x6_5 + 1) [(6, .int (x6_5 + 1)), (0, .ref x0), (1, .int x1), (2, .int x2_23), (3, .int x3_24), (4, .int x4_25), (5, .int x5_26)] dX8_isFair_115 rfl rfl (Nat.le_of_ble_eq_true rfl) rfl ?_
          refine zr_goto 13 dX8_isFair_118 (by decide) ?_
          exact zr_lv [1, 2, 3, 4, 5, 6, 0] rfl (ih7 x2_23 x3_24 x4_25 x5_26 (x6_5 + 1) hf)
        clear hf
        have hf := hg
        clear hg
        refine zr_if_ne 72 dX8_isFair_38 (by decide) (fun hc => ?_) (fun hc => ?_)
        · rw [if_neg hc] at hf
          refine zr_aload_n 1 dX8_isFair_72 rfl ?_
          replace hf := zb1_s hf
          obtain ⟨v28, h29, hf⟩ := hf
          refine zr_get (zm_gR_g h29) zk9 (by decide) zl_483 dX8_isFair_73 ?_
          refine zr_iload 7 dX8_isFair_76 rfl ?_
          replace hf := zb1_s hf
          obtain ⟨v30, h31, hf⟩ := hf
          refine zr_iald h31 dX8_isFair_78 ?_
          refine zr_iconst 1 dX8_isFair_79 (by decide) ?_
          refine zr_icmp_ne 115 dX8_isFair_80 (by decide) (fun hc => ?_) (fun hc => ?_)
          · rw [if_neg hc] at hf
            cases hf
            exact zr_lv [1, 2, 3, 4, 5, 6, 7] rfl hj27
          · rw [if_pos hc] at hf
            refine zr_iload 5 dX8_isFair_83 rfl ?_
            refine zr_iload 0 dX8_isFair_85 rfl ?_
            refine zr_iload_n 2 dX8_isFair_87 rfl ?_
            replace hf := zb1_s hf
            obtain ⟨s32, hg, hf⟩ := hf
            have hj33 : zz K cX8_isFair (8, RX8, some .boolean, 0, 0, 0, some (.int r), μ) 0 0 96 [(0, .ref x0), (1, .int x1), (2, .int x2_1), (3, .int x3_2), (5, .int x5_4), (6, .int x6_5), (7, .int v17)] [.int s32, .int x4_3] μ := by
              refine zr_iadd dX8_isFair_96 ?_
              refine zr_istore [(4, .int (x4_3 + s32)), (0, .ref x0), (1, .int x1), (2, .int x2_1), (3, .int x3_2), (5, .int x5_4), (6, .int x6_5), (7, .int v17)] dX8_isFair_97 (Nat.le_of_ble_eq_true rfl) rfl ?_
              refine zr_iload 5 dX8_isFair_99 rfl ?_
              refine zr_iload 7 dX8_isFair_101 rfl ?_
              refine zr_iload_n 2 dX8_isFair_103 rfl ?_
              replace hf := zb1_s hf
              obtain ⟨s34, hg, hf⟩ := hf
              have hj35 : zz K cX8_isFair (8, RX8, some .boolean, 0, 0, 0, some (.int r), μ) 0 0 112 [(0, .ref x0), (1, .int x1), (2, .int x2_1), (3, .int x3_2), (4, .int (x4_3 + s32)), (6, .int x6_5)] [.int s34, .int x5_4] μ := by
                refine zr_iadd dX8_isFair_112 ?_
                refine zr_istore [(5, .int (x5_4 + s34)), (0, .ref x0), (1, .int x1), (2, .int x2_1), (3, .int x3_2), (4, .int (x4_3 + s32)), (6, .int x6_5)] dX8_isFair_113 (Nat.le_of_ble_eq_true rfl) rfl ?_
                cases hf
                exact zr_lv [1, 2, 3, 4, 5, 0, 6] rfl hj27
              clear hf
              have hf := hg
              clear hg
              refine zr_icmp_lt 111 dX8_isFair_104 (by decide) (fun hc => ?_) (fun hc => ?_)
              · rw [if_pos hc] at hf
                refine zr_iconst 0 dX8_isFair_111 (by decide) ?_
                cases hf
                exact zr_lv [1, 2, 3, 4, 0, 6] rfl hj35
              · rw [if_neg hc] at hf
                refine zr_iconst 1 dX8_isFair_107 (by decide) ?_
                refine zr_goto 112 dX8_isFair_108 (by decide) ?_
                cases hf
                exact zr_lv [1, 2, 3, 4, 0, 6] rfl hj35
            clear hf
            have hf := hg
            clear hg
            refine zr_icmp_le 95 dX8_isFair_88 (by decide) (fun hc => ?_) (fun hc => ?_)
            · rw [if_pos hc] at hf
              refine zr_iconst 0 dX8_isFair_95 (by decide) ?_
              cases hf
              exact zr_lv [1, 2, 3, 4, 6, 7, 0] rfl hj33
            · rw [if_neg hc] at hf
              refine zr_iconst 1 dX8_isFair_91 (by decide) ?_
              refine zr_goto 96 dX8_isFair_92 (by decide) ?_
              cases hf
              exact zr_lv [1, 2, 3, 4, 6, 7, 0] rfl hj33
        · rw [if_pos hc] at hf
          refine zr_iload_n 3 dX8_isFair_41 rfl ?_
          refine zr_iload 0 dX8_isFair_42 rfl ?_
          refine zr_iload_n 2 dX8_isFair_44 rfl ?_
          replace hf := zb1_s hf
          obtain ⟨s36, hg, hf⟩ := hf
          have hj37 : zz K cX8_isFair (8, RX8, some .boolean, 0, 0, 0, some (.int r), μ) 0 0 53 [(0, .ref x0), (1, .int x1), (3, .int x3_2), (4, .int x4_3), (5, .int x5_4), (6, .int x6_5), (7, .int v17)] [.int s36, .int x2_1] μ := by
            refine zr_iadd dX8_isFair_53 ?_
            refine zr_istore_n [(2, .int (x2_1 + s36)), (0, .ref x0), (1, .int x1), (3, .int x3_2), (4, .int x4_3), (5, .int x5_4), (6, .int x6_5), (7, .int v17)] dX8_isFair_54 (Nat.le_of_ble_eq_true rfl) rfl ?_
            refine zr_iload_n 3 dX8_isFair_55 rfl ?_
            refine zr_iload 7 dX8_isFair_56 rfl ?_
            refine zr_iload_n 2 dX8_isFair_58 rfl ?_
            replace hf := zb1_s hf
            obtain ⟨s38, hg, hf⟩ := hf
            have hj39 : zz K cX8_isFair (8, RX8, some .boolean, 0, 0, 0, some (.int r), μ) 0 0 67 [(0, .ref x0), (1, .int x1), (2, .int (x2_1 + s36)), (4, .int x4_3), (5, .int x5_4), (6, .int x6_5)] [.int s38, .int x3_2] μ := by
              refine zr_iadd dX8_isFair_67 ?_
              refine zr_istore_n [(3, .int (x3_2 + s38)), (0, .ref x0), (1, .int x1), (2, .int (x2_1 + s36)), (4, .int x4_3), (5, .int x5_4), (6, .int x6_5)] dX8_isFair_68 (Nat.le_of_ble_eq_true rfl) rfl ?_
              refine zr_goto 115 dX8_isFair_69 (by decide) ?_
              cases hf
              exact zr_lv [1, 2, 3, 0, 4, 5, 6] rfl hj27
            clear hf
            have hf := hg
            clear hg
            refine zr_icmp_gt 66 dX8_isFair_59 (by decide) (fun hc => ?_) (fun hc => ?_)
            · rw [if_pos hc] at hf
              refine zr_iconst 0 dX8_isFair_66 (by decide) ?_
              cases hf
              exact zr_lv [1, 2, 0, 4, 5, 6] rfl hj39
            · rw [if_neg hc] at hf
              refine zr_iconst 1 dX8_isFair_62 (by decide) ?_
              refine zr_goto 67 dX8_isFair_63 (by decide) ?_
              cases hf
              exact zr_lv [1, 2, 0, 4, 5, 6] rfl hj39
          clear hf
          have hf := hg
          clear hg
          refine zr_icmp_ge 52 dX8_isFair_45 (by decide) (fun hc => ?_) (fun hc => ?_)
          · rw [if_pos hc] at hf
            refine zr_iconst 0 dX8_isFair_52 (by decide) ?_
            cases hf
            exact zr_lv [1, 2, 4, 5, 6, 7, 0] rfl hj37
          · rw [if_neg hc] at hf
            refine zr_iconst 1 dX8_isFair_48 (by decide) ?_
            refine zr_goto 53 dX8_isFair_49 (by decide) ?_
            cases hf
            exact zr_lv [1, 2, 4, 5, 6, 7, 0] rfl hj37
  exact zr_lv [5, 6, 4, 3, 2, 1, 0] rfl (hL40 _ 0 0 0 0 0 hf)
theorem zl_484 : Cond.code yX8_isFair cX8_isFair 8 (some .boolean) ∈ zt := zt_at 995 (by decide +kernel)
theorem zvs_X8_isFair : zvS yX8_isFair cX8_isFair 8 (some .boolean) 2 := ⟨zl_484, zl_471, ⟨by decide +kernel, by decide +kernel, by decide +kernel⟩, by decide⟩
theorem zl_485 : Cond.methodLink RX8 47 yX8_isFair ∈ zt := zt_at 993 (by decide +kernel)
theorem zl_486 : Cond.static yX8_isFair ∈ zt := zt_at 994 (by decide +kernel)
theorem dX8_leastPrice_0 : decode cX8_leastPrice 0 = .ok (.iconst 0, 1) := by decide +kernel
theorem dX8_leastPrice_1 : decode cX8_leastPrice 1 = .ok (.istore_n 1, 1) := by decide +kernel
theorem dX8_leastPrice_2 : decode cX8_leastPrice 2 = .ok (.iload_n 1, 1) := by decide +kernel
theorem dX8_leastPrice_3 : decode cX8_leastPrice 3 = .ok (.bipush 100, 2) := by decide +kernel
theorem dX8_leastPrice_5 : decode cX8_leastPrice 5 = .ok (.if_icmp .ge 19, 3) := by decide +kernel
theorem dX8_leastPrice_8 : decode cX8_leastPrice 8 = .ok (.aload_n 0, 1) := by decide +kernel
theorem dX8_leastPrice_9 : decode cX8_leastPrice 9 = .ok (.iload_n 1, 1) := by decide +kernel
theorem dX8_leastPrice_10 : decode cX8_leastPrice 10 = .ok (.invokestatic 47, 3) := by decide +kernel
theorem dX8_leastPrice_13 : decode cX8_leastPrice 13 = .ok (.ifCond .eq 5, 3) := by decide +kernel
theorem dX8_leastPrice_16 : decode cX8_leastPrice 16 = .ok (.iload_n 1, 1) := by decide +kernel
theorem dX8_leastPrice_17 : decode cX8_leastPrice 17 = .ok (.ireturn, 1) := by decide +kernel
theorem dX8_leastPrice_18 : decode cX8_leastPrice 18 = .ok (.iinc 1 1, 3) := by decide +kernel
theorem dX8_leastPrice_21 : decode cX8_leastPrice 21 = .ok (.goto (-19), 3) := by decide +kernel
theorem dX8_leastPrice_24 : decode cX8_leastPrice 24 = .ok (.iconst (-1), 1) := by decide +kernel
theorem dX8_leastPrice_25 : decode cX8_leastPrice 25 = .ok (.ireturn, 1) := by decide +kernel
def fX8_leastPrice_l2 (μ : zM) (x0 : Nat) (F2 : Int32 → Option (Int32)) (x1_1 : Int32) : Option (Int32) :=
  if 100 ≤ x1_1 then (
  some (-1))
  else (
  zb1 (fX8_isFair μ x0 x1_1) fun v5 =>
  if v5 = 0 then (
  F2 (x1_1 + 1))
  else (
  some x1_1))
def fX8_leastPrice (μ : zM) (x0 : Nat) : Option (Int32) :=
  zf1 (fX8_leastPrice_l2 μ x0) zfu 0
set_option maxHeartbeats 4000000 in
set_option maxRecDepth 100000 in
theorem cX8_leastPrice_ok {μ : zM} {x0 : Nat} {r : Int32} (hf : fX8_leastPrice μ x0 = some r) : zC yX8_leastPrice cX8_leastPrice 2 (some .int) 1 0 0 [.ref x0] μ (some (.int r)) μ := by
  unfold fX8_leastPrice at hf
  refine zC.of (by decide) (Nat.le_of_ble_eq_true rfl) (fun K hin => ?_)
  clear hin
  show zz K cX8_leastPrice (2, RX8, some .int, 1, 0, 0, some (.int r), μ) 0 0 0 [(0, .ref x0)] [] μ
  refine zr_iconst 0 dX8_leastPrice_0 (by decide) ?_
  refine zr_istore_n [(1, .int 0), (0, .ref x0)] dX8_leastPrice_1 (Nat.le_of_ble_eq_true rfl) rfl ?_
  have hL6 : ∀ (n : Nat) (x1_1 : Int32), zf1 (fX8_leastPrice_l2 μ x0) n x1_1 = some r → zz K cX8_leastPrice (2, RX8, some .int, 1, 0, 0, some (.int r), μ) 0 0 2 [(0, .ref x0), (1, .int x1_1)] [] μ := by
    intro n
    induction n with
    | zero => intro x1_1 hf; cases hf
    | succ n ih3 =>
      intro x1_1 hf
      replace hf := zf1_s hf
      generalize zf1 (fX8_leastPrice_l2 μ x0) n = F2 at hf ih3
      unfold fX8_leastPrice_l2 at hf
      refine zr_iload_n 1 dX8_leastPrice_2 rfl ?_
      refine zr_bipush 100 dX8_leastPrice_3 (by decide) ?_
      refine zr_icmp_ge 24 dX8_leastPrice_5 (by decide) (fun hc => ?_) (fun hc => ?_)
      · rw [if_pos hc] at hf
        refine zr_iconst (-1) dX8_leastPrice_24 (by decide) ?_
        cases hf
        exact zr_iret dX8_leastPrice_25
      · rw [if_neg hc] at hf
        refine zr_aload_n 0 dX8_leastPrice_8 rfl ?_
        refine zr_iload_n 1 dX8_leastPrice_9 rfl ?_
        replace hf := zb1_s hf
        obtain ⟨v5, h4, hf⟩ := hf
        refine zr_callS [.ref x0, .int x1_1] (cX8_isFair_ok h4) zvs_X8_isFair zl_486 zl_485 rfl (Nat.le_of_ble_eq_true rfl) (Nat.le_of_ble_eq_true rfl) (Nat.le_of_ble_eq_true rfl) (Nat.le_of_ble_eq_true rfl) dX8_leastPrice_10 rfl ?_
        refine zr_if_eq 18 dX8_leastPrice_13 (by decide) (fun hc => ?_) (fun hc => ?_)
        · rw [if_pos hc] at hf
          refine zr_iinc (j := 1) (x1_1 + 1) [(1, .int (x1_1 + 1)), (0, .ref x0)] dX8_leastPrice_18 rfl rfl (Nat.le_of_ble_eq_true rfl) rfl ?_
          refine zr_goto 2 dX8_leastPrice_21 (by decide) ?_
          exact zr_lv [1, 0] rfl (ih3 (x1_1 + 1) hf)
        · rw [if_neg hc] at hf
          refine zr_iload_n 1 dX8_leastPrice_16 rfl ?_
          cases hf
          exact zr_iret dX8_leastPrice_17
  exact zr_lv [1, 0] rfl (hL6 _ 0 hf)
theorem dX8_greatestPrice_0 : decode cX8_greatestPrice 0 = .ok (.bipush 99, 2) := by decide +kernel
theorem dX8_greatestPrice_2 : decode cX8_greatestPrice 2 = .ok (.istore_n 1, 1) := by decide +kernel
theorem dX8_greatestPrice_3 : decode cX8_greatestPrice 3 = .ok (.iload_n 1, 1) := by decide +kernel
theorem dX8_greatestPrice_4 : decode cX8_greatestPrice 4 = .ok (.ifCond .lt 19, 3) := by decide +kernel
theorem dX8_greatestPrice_7 : decode cX8_greatestPrice 7 = .ok (.aload_n 0, 1) := by decide +kernel
theorem dX8_greatestPrice_8 : decode cX8_greatestPrice 8 = .ok (.iload_n 1, 1) := by decide +kernel
theorem dX8_greatestPrice_9 : decode cX8_greatestPrice 9 = .ok (.invokestatic 47, 3) := by decide +kernel
theorem dX8_greatestPrice_12 : decode cX8_greatestPrice 12 = .ok (.ifCond .eq 5, 3) := by decide +kernel
theorem dX8_greatestPrice_15 : decode cX8_greatestPrice 15 = .ok (.iload_n 1, 1) := by decide +kernel
theorem dX8_greatestPrice_16 : decode cX8_greatestPrice 16 = .ok (.ireturn, 1) := by decide +kernel
theorem dX8_greatestPrice_17 : decode cX8_greatestPrice 17 = .ok (.iinc 1 (-1), 3) := by decide +kernel
theorem dX8_greatestPrice_20 : decode cX8_greatestPrice 20 = .ok (.goto (-17), 3) := by decide +kernel
theorem dX8_greatestPrice_23 : decode cX8_greatestPrice 23 = .ok (.iconst (-1), 1) := by decide +kernel
theorem dX8_greatestPrice_24 : decode cX8_greatestPrice 24 = .ok (.ireturn, 1) := by decide +kernel
def fX8_greatestPrice_l3 (μ : zM) (x0 : Nat) (F2 : Int32 → Option (Int32)) (x1_1 : Int32) : Option (Int32) :=
  if x1_1 < 0 then (
  some (-1))
  else (
  zb1 (fX8_isFair μ x0 x1_1) fun v5 =>
  if v5 = 0 then (
  F2 (x1_1 + (-1)))
  else (
  some x1_1))
def fX8_greatestPrice (μ : zM) (x0 : Nat) : Option (Int32) :=
  zf1 (fX8_greatestPrice_l3 μ x0) zfu 99
set_option maxHeartbeats 4000000 in
set_option maxRecDepth 100000 in
theorem cX8_greatestPrice_ok {μ : zM} {x0 : Nat} {r : Int32} (hf : fX8_greatestPrice μ x0 = some r) : zC yX8_greatestPrice cX8_greatestPrice 2 (some .int) 1 0 0 [.ref x0] μ (some (.int r)) μ := by
  unfold fX8_greatestPrice at hf
  refine zC.of (by decide) (Nat.le_of_ble_eq_true rfl) (fun K hin => ?_)
  clear hin
  show zz K cX8_greatestPrice (2, RX8, some .int, 1, 0, 0, some (.int r), μ) 0 0 0 [(0, .ref x0)] [] μ
  refine zr_bipush 99 dX8_greatestPrice_0 (by decide) ?_
  refine zr_istore_n [(1, .int 99), (0, .ref x0)] dX8_greatestPrice_2 (Nat.le_of_ble_eq_true rfl) rfl ?_
  have hL6 : ∀ (n : Nat) (x1_1 : Int32), zf1 (fX8_greatestPrice_l3 μ x0) n x1_1 = some r → zz K cX8_greatestPrice (2, RX8, some .int, 1, 0, 0, some (.int r), μ) 0 0 3 [(0, .ref x0), (1, .int x1_1)] [] μ := by
    intro n
    induction n with
    | zero => intro x1_1 hf; cases hf
    | succ n ih3 =>
      intro x1_1 hf
      replace hf := zf1_s hf
      generalize zf1 (fX8_greatestPrice_l3 μ x0) n = F2 at hf ih3
      unfold fX8_greatestPrice_l3 at hf
      refine zr_iload_n 1 dX8_greatestPrice_3 rfl ?_
      refine zr_if_lt 23 dX8_greatestPrice_4 (by decide) (fun hc => ?_) (fun hc => ?_)
      · rw [if_pos hc] at hf
        refine zr_iconst (-1) dX8_greatestPrice_23 (by decide) ?_
        cases hf
        exact zr_iret dX8_greatestPrice_24
      · rw [if_neg hc] at hf
        refine zr_aload_n 0 dX8_greatestPrice_7 rfl ?_
        refine zr_iload_n 1 dX8_greatestPrice_8 rfl ?_
        replace hf := zb1_s hf
        obtain ⟨v5, h4, hf⟩ := hf
        refine zr_callS [.ref x0, .int x1_1] (cX8_isFair_ok h4) zvs_X8_isFair zl_486 zl_485 rfl (Nat.le_of_ble_eq_true rfl) (Nat.le_of_ble_eq_true rfl) (Nat.le_of_ble_eq_true rfl) (Nat.le_of_ble_eq_true rfl) dX8_greatestPrice_9 rfl ?_
        refine zr_if_eq 17 dX8_greatestPrice_12 (by decide) (fun hc => ?_) (fun hc => ?_)
        · rw [if_pos hc] at hf
          refine zr_iinc (j := 1) (x1_1 + (-1)) [(1, .int (x1_1 + (-1))), (0, .ref x0)] dX8_greatestPrice_17 rfl rfl (Nat.le_of_ble_eq_true rfl) rfl ?_
          refine zr_goto 3 dX8_greatestPrice_20 (by decide) ?_
          exact zr_lv [1, 0] rfl (ih3 (x1_1 + (-1)) hf)
        · rw [if_neg hc] at hf
          refine zr_iload_n 1 dX8_greatestPrice_15 rfl ?_
          cases hf
          exact zr_iret dX8_greatestPrice_16
  exact zr_lv [1, 0] rfl (hL6 _ 99 hf)
theorem dX8_sellerGain_0 : decode cX8_sellerGain 0 = .ok (.iload_n 1, 1) := by decide +kernel
theorem dX8_sellerGain_1 : decode cX8_sellerGain 1 = .ok (.iload_n 0, 1) := by decide +kernel
theorem dX8_sellerGain_2 : decode cX8_sellerGain 2 = .ok (.if_icmp .lt 13, 3) := by decide +kernel
theorem dX8_sellerGain_5 : decode cX8_sellerGain 5 = .ok (.iload_n 0, 1) := by decide +kernel
theorem dX8_sellerGain_6 : decode cX8_sellerGain 6 = .ok (.iload_n 1, 1) := by decide +kernel
theorem dX8_sellerGain_7 : decode cX8_sellerGain 7 = .ok (.iadd, 1) := by decide +kernel
theorem dX8_sellerGain_8 : decode cX8_sellerGain 8 = .ok (.iconst 2, 1) := by decide +kernel
theorem dX8_sellerGain_9 : decode cX8_sellerGain 9 = .ok (.idiv, 1) := by decide +kernel
theorem dX8_sellerGain_10 : decode cX8_sellerGain 10 = .ok (.iload_n 2, 1) := by decide +kernel
theorem dX8_sellerGain_11 : decode cX8_sellerGain 11 = .ok (.isub, 1) := by decide +kernel
theorem dX8_sellerGain_12 : decode cX8_sellerGain 12 = .ok (.goto 4, 3) := by decide +kernel
theorem dX8_sellerGain_15 : decode cX8_sellerGain 15 = .ok (.iconst 0, 1) := by decide +kernel
theorem dX8_sellerGain_16 : decode cX8_sellerGain 16 = .ok (.ireturn, 1) := by decide +kernel
def fX8_sellerGain (μ : zM) (x0 : Int32) (x1 : Int32) (x2 : Int32) : Option (Int32) :=
  zb1 (if x1 < x0 then (
  some 0)
  else (
  some (((x0 + x1) / 2) - x2))) fun s1 =>
  some s1
set_option maxHeartbeats 4000000 in
set_option maxRecDepth 100000 in
theorem cX8_sellerGain_ok {μ : zM} {x0 : Int32} {x1 : Int32} {x2 : Int32} {r : Int32} (hf : fX8_sellerGain μ x0 x1 x2 = some r) : zC yX8_sellerGain cX8_sellerGain 3 (some .int) 0 0 0 [.int x0, .int x1, .int x2] μ (some (.int r)) μ := by
  unfold fX8_sellerGain at hf
  refine zC.of (by decide) (Nat.le_of_ble_eq_true rfl) (fun K hin => ?_)
  clear hin
  show zz K cX8_sellerGain (3, RX8, some .int, 0, 0, 0, some (.int r), μ) 0 0 0 [(0, .int x0), (1, .int x1), (2, .int x2)] [] μ
  refine zr_iload_n 1 dX8_sellerGain_0 rfl ?_
  refine zr_iload_n 0 dX8_sellerGain_1 rfl ?_
  replace hf := zb1_s hf
  obtain ⟨s1, hg, hf⟩ := hf
  have hj2 : zz K cX8_sellerGain (3, RX8, some .int, 0, 0, 0, some (.int r), μ) 0 0 16 [] [.int s1] μ := by
    cases hf
    exact zr_iret dX8_sellerGain_16
  clear hf
  have hf := hg
  clear hg
  refine zr_icmp_lt 15 dX8_sellerGain_2 (by decide) (fun hc => ?_) (fun hc => ?_)
  · rw [if_pos hc] at hf
    refine zr_iconst 0 dX8_sellerGain_15 (by decide) ?_
    cases hf
    exact zr_lv [] rfl hj2
  · rw [if_neg hc] at hf
    refine zr_iload_n 0 dX8_sellerGain_5 rfl ?_
    refine zr_iload_n 1 dX8_sellerGain_6 rfl ?_
    refine zr_iadd dX8_sellerGain_7 ?_
    refine zr_iconst 2 dX8_sellerGain_8 (by decide) ?_
    refine zr_idiv dX8_sellerGain_9 (by decide) ?_
    refine zr_iload_n 2 dX8_sellerGain_10 rfl ?_
    refine zr_isub dX8_sellerGain_11 ?_
    refine zr_goto 16 dX8_sellerGain_12 (by decide) ?_
    cases hf
    exact zr_lv [] rfl hj2
theorem dX8_buyerGain_0 : decode cX8_buyerGain 0 = .ok (.iload_n 1, 1) := by decide +kernel
theorem dX8_buyerGain_1 : decode cX8_buyerGain 1 = .ok (.iload_n 0, 1) := by decide +kernel
theorem dX8_buyerGain_2 : decode cX8_buyerGain 2 = .ok (.if_icmp .lt 13, 3) := by decide +kernel
theorem dX8_buyerGain_5 : decode cX8_buyerGain 5 = .ok (.iload_n 2, 1) := by decide +kernel
theorem dX8_buyerGain_6 : decode cX8_buyerGain 6 = .ok (.iload_n 0, 1) := by decide +kernel
theorem dX8_buyerGain_7 : decode cX8_buyerGain 7 = .ok (.iload_n 1, 1) := by decide +kernel
theorem dX8_buyerGain_8 : decode cX8_buyerGain 8 = .ok (.iadd, 1) := by decide +kernel
theorem dX8_buyerGain_9 : decode cX8_buyerGain 9 = .ok (.iconst 2, 1) := by decide +kernel
theorem dX8_buyerGain_10 : decode cX8_buyerGain 10 = .ok (.idiv, 1) := by decide +kernel
theorem dX8_buyerGain_11 : decode cX8_buyerGain 11 = .ok (.isub, 1) := by decide +kernel
theorem dX8_buyerGain_12 : decode cX8_buyerGain 12 = .ok (.goto 4, 3) := by decide +kernel
theorem dX8_buyerGain_15 : decode cX8_buyerGain 15 = .ok (.iconst 0, 1) := by decide +kernel
theorem dX8_buyerGain_16 : decode cX8_buyerGain 16 = .ok (.ireturn, 1) := by decide +kernel
def fX8_buyerGain (μ : zM) (x0 : Int32) (x1 : Int32) (x2 : Int32) : Option (Int32) :=
  zb1 (if x1 < x0 then (
  some 0)
  else (
  some (x2 - ((x0 + x1) / 2)))) fun s1 =>
  some s1
set_option maxHeartbeats 4000000 in
set_option maxRecDepth 100000 in
theorem cX8_buyerGain_ok {μ : zM} {x0 : Int32} {x1 : Int32} {x2 : Int32} {r : Int32} (hf : fX8_buyerGain μ x0 x1 x2 = some r) : zC yX8_buyerGain cX8_buyerGain 3 (some .int) 0 0 0 [.int x0, .int x1, .int x2] μ (some (.int r)) μ := by
  unfold fX8_buyerGain at hf
  refine zC.of (by decide) (Nat.le_of_ble_eq_true rfl) (fun K hin => ?_)
  clear hin
  show zz K cX8_buyerGain (3, RX8, some .int, 0, 0, 0, some (.int r), μ) 0 0 0 [(0, .int x0), (1, .int x1), (2, .int x2)] [] μ
  refine zr_iload_n 1 dX8_buyerGain_0 rfl ?_
  refine zr_iload_n 0 dX8_buyerGain_1 rfl ?_
  replace hf := zb1_s hf
  obtain ⟨s1, hg, hf⟩ := hf
  have hj2 : zz K cX8_buyerGain (3, RX8, some .int, 0, 0, 0, some (.int r), μ) 0 0 16 [] [.int s1] μ := by
    cases hf
    exact zr_iret dX8_buyerGain_16
  clear hf
  have hf := hg
  clear hg
  refine zr_icmp_lt 15 dX8_buyerGain_2 (by decide) (fun hc => ?_) (fun hc => ?_)
  · rw [if_pos hc] at hf
    refine zr_iconst 0 dX8_buyerGain_15 (by decide) ?_
    cases hf
    exact zr_lv [] rfl hj2
  · rw [if_neg hc] at hf
    refine zr_iload_n 2 dX8_buyerGain_5 rfl ?_
    refine zr_iload_n 0 dX8_buyerGain_6 rfl ?_
    refine zr_iload_n 1 dX8_buyerGain_7 rfl ?_
    refine zr_iadd dX8_buyerGain_8 ?_
    refine zr_iconst 2 dX8_buyerGain_9 (by decide) ?_
    refine zr_idiv dX8_buyerGain_10 (by decide) ?_
    refine zr_isub dX8_buyerGain_11 ?_
    refine zr_goto 16 dX8_buyerGain_12 (by decide) ?_
    cases hf
    exact zr_lv [] rfl hj2
theorem zl_487 : Cond.code yX8_sellerGain cX8_sellerGain 3 (some .int) ∈ zt := zt_at 1014 (by decide +kernel)
theorem zvs_X8_sellerGain : zvS yX8_sellerGain cX8_sellerGain 3 (some .int) 3 := ⟨zl_487, zl_471, ⟨by decide +kernel, by decide +kernel, by decide +kernel⟩, by decide⟩
theorem zl_488 : Cond.methodLink RX8 58 yX8_sellerGain ∈ zt := zt_at 1012 (by decide +kernel)
theorem zl_489 : Cond.static yX8_sellerGain ∈ zt := zt_at 1013 (by decide +kernel)
theorem zl_490 : Cond.code yX8_buyerGain cX8_buyerGain 3 (some .int) ∈ zt := zt_at 1017 (by decide +kernel)
theorem zvs_X8_buyerGain : zvS yX8_buyerGain cX8_buyerGain 3 (some .int) 3 := ⟨zl_490, zl_471, ⟨by decide +kernel, by decide +kernel, by decide +kernel⟩, by decide⟩
theorem zl_491 : Cond.methodLink RX8 62 yX8_buyerGain ∈ zt := zt_at 1015 (by decide +kernel)
theorem zl_492 : Cond.static yX8_buyerGain ∈ zt := zt_at 1016 (by decide +kernel)
theorem zl_493 : Cond.methodLink RX8 65 Lib.Math.max.name ∈ zt := zt_at 1018 (by decide +kernel)
theorem dX8_findBest_0 : decode cX8_findBest 0 = .ok (.iconst 0, 1) := by decide +kernel
theorem dX8_findBest_1 : decode cX8_findBest 1 = .ok (.istore_n 3, 1) := by decide +kernel
theorem dX8_findBest_2 : decode cX8_findBest 2 = .ok (.iload_n 3, 1) := by decide +kernel
theorem dX8_findBest_3 : decode cX8_findBest 3 = .ok (.bipush 100, 2) := by decide +kernel
theorem dX8_findBest_5 : decode cX8_findBest 5 = .ok (.if_icmp .ge 85, 3) := by decide +kernel
theorem dX8_findBest_8 : decode cX8_findBest 8 = .ok (.iconst 0, 1) := by decide +kernel
theorem dX8_findBest_9 : decode cX8_findBest 9 = .ok (.iload_n 3, 1) := by decide +kernel
theorem dX8_findBest_10 : decode cX8_findBest 10 = .ok (.iload_n 1, 1) := by decide +kernel
theorem dX8_findBest_11 : decode cX8_findBest 11 = .ok (.invokestatic 58, 3) := by decide +kernel
theorem dX8_findBest_14 : decode cX8_findBest 14 = .ok (.istore 4, 2) := by decide +kernel
theorem dX8_findBest_16 : decode cX8_findBest 16 = .ok (.iload_n 3, 1) := by decide +kernel
theorem dX8_findBest_17 : decode cX8_findBest 17 = .ok (.iconst 0, 1) := by decide +kernel
theorem dX8_findBest_18 : decode cX8_findBest 18 = .ok (.iload_n 2, 1) := by decide +kernel
theorem dX8_findBest_19 : decode cX8_findBest 19 = .ok (.invokestatic 62, 3) := by decide +kernel
theorem dX8_findBest_22 : decode cX8_findBest 22 = .ok (.istore 5, 2) := by decide +kernel
theorem dX8_findBest_24 : decode cX8_findBest 24 = .ok (.iconst 1, 1) := by decide +kernel
theorem dX8_findBest_25 : decode cX8_findBest 25 = .ok (.istore 6, 2) := by decide +kernel
theorem dX8_findBest_27 : decode cX8_findBest 27 = .ok (.iload 6, 2) := by decide +kernel
theorem dX8_findBest_29 : decode cX8_findBest 29 = .ok (.bipush 100, 2) := by decide +kernel
theorem dX8_findBest_31 : decode cX8_findBest 31 = .ok (.if_icmp .ge 37, 3) := by decide +kernel
theorem dX8_findBest_34 : decode cX8_findBest 34 = .ok (.iload 4, 2) := by decide +kernel
theorem dX8_findBest_36 : decode cX8_findBest 36 = .ok (.iload 6, 2) := by decide +kernel
theorem dX8_findBest_38 : decode cX8_findBest 38 = .ok (.iload_n 3, 1) := by decide +kernel
theorem dX8_findBest_39 : decode cX8_findBest 39 = .ok (.iload_n 1, 1) := by decide +kernel
theorem dX8_findBest_40 : decode cX8_findBest 40 = .ok (.invokestatic 58, 3) := by decide +kernel
theorem dX8_findBest_43 : decode cX8_findBest 43 = .ok (.invokestatic 65, 3) := by decide +kernel
theorem dX8_findBest_46 : decode cX8_findBest 46 = .ok (.istore 4, 2) := by decide +kernel
theorem dX8_findBest_48 : decode cX8_findBest 48 = .ok (.iload 5, 2) := by decide +kernel
theorem dX8_findBest_50 : decode cX8_findBest 50 = .ok (.iload_n 3, 1) := by decide +kernel
theorem dX8_findBest_51 : decode cX8_findBest 51 = .ok (.iload 6, 2) := by decide +kernel
theorem dX8_findBest_53 : decode cX8_findBest 53 = .ok (.iload_n 2, 1) := by decide +kernel
theorem dX8_findBest_54 : decode cX8_findBest 54 = .ok (.invokestatic 62, 3) := by decide +kernel
theorem dX8_findBest_57 : decode cX8_findBest 57 = .ok (.invokestatic 65, 3) := by decide +kernel
theorem dX8_findBest_60 : decode cX8_findBest 60 = .ok (.istore 5, 2) := by decide +kernel
theorem dX8_findBest_62 : decode cX8_findBest 62 = .ok (.iinc 6 1, 3) := by decide +kernel
theorem dX8_findBest_65 : decode cX8_findBest 65 = .ok (.goto (-38), 3) := by decide +kernel
theorem dX8_findBest_68 : decode cX8_findBest 68 = .ok (.aload_n 0, 1) := by decide +kernel
theorem dX8_findBest_69 : decode cX8_findBest 69 = .ok (.getfield 9, 3) := by decide +kernel
theorem dX8_findBest_72 : decode cX8_findBest 72 = .ok (.iload_n 3, 1) := by decide +kernel
theorem dX8_findBest_73 : decode cX8_findBest 73 = .ok (.iload 4, 2) := by decide +kernel
theorem dX8_findBest_75 : decode cX8_findBest 75 = .ok (.iastore, 1) := by decide +kernel
theorem dX8_findBest_76 : decode cX8_findBest 76 = .ok (.aload_n 0, 1) := by decide +kernel
theorem dX8_findBest_77 : decode cX8_findBest 77 = .ok (.getfield 15, 3) := by decide +kernel
theorem dX8_findBest_80 : decode cX8_findBest 80 = .ok (.iload_n 3, 1) := by decide +kernel
theorem dX8_findBest_81 : decode cX8_findBest 81 = .ok (.iload 5, 2) := by decide +kernel
theorem dX8_findBest_83 : decode cX8_findBest 83 = .ok (.iastore, 1) := by decide +kernel
theorem dX8_findBest_84 : decode cX8_findBest 84 = .ok (.iinc 3 1, 3) := by decide +kernel
theorem dX8_findBest_87 : decode cX8_findBest 87 = .ok (.goto (-85), 3) := by decide +kernel
theorem dX8_findBest_90 : decode cX8_findBest 90 = .ok (.return_, 1) := by decide +kernel
def fX8_findBest_l27x (m2 : zM) (x3_1 : Int32) (x1 : Int32) (x2 : Int32) (F14 : Int32 → Int32 → Int32 → Option (Int32 × Int32)) (x4_11 : Int32) (x5_12 : Int32) (x6_13 : Int32) : Option (Int32 × Int32) :=
  if 100 ≤ x6_13 then (
  some (x4_11, x5_12))
  else (
  zb1 (fX8_sellerGain m2 x6_13 x3_1 x1) fun v20 =>
  zb1 (fX8_buyerGain m2 x3_1 x6_13 x2) fun v22 =>
  F14 (if x4_11 < v20 then v20 else x4_11 : Int32) (if x5_12 < v22 then v22 else x5_12 : Int32) (x6_13 + 1))
def fX8_findBest_l2 (x1 : Int32) (x2 : Int32) (x0 : Nat) (F3 : Int32 → zM → Option (zM)) (x3_1 : Int32) (m2 : zM) : Option (zM) :=
  if 100 ≤ x3_1 then (
  some m2)
  else (
  zb1 (fX8_sellerGain m2 0 x3_1 x1) fun v8 =>
  zb1 (fX8_buyerGain m2 x3_1 0 x2) fun v10 =>
  zb2 (zf3 (fX8_findBest_l27x m2 x3_1 x1 x2) zfu v8 v10 1) fun x4_16 x5_17 =>
  zb1 (zm_gR m2 8 x0 0) fun v24 =>
  zb1 (zm_sI m2 0 v24 x3_1 x4_16) fun m26 =>
  zb1 (zm_gR m26 8 x0 1) fun v28 =>
  zb1 (zm_sI m26 0 v28 x3_1 x5_17) fun m30 =>
  F3 (x3_1 + 1) m30)
def fX8_findBest (μ : zM) (x0 : Nat) (x1 : Int32) (x2 : Int32) : Option (zM) := zgd (zm_ck μ 8 x0) <|
  zb1 (zf2 (fX8_findBest_l2 x1 x2 x0) zfu 0 μ) fun m5 =>
  some m5
theorem fX8_findBest_ck {μ : zM} {x0 : Nat} {x1 : Int32} {x2 : Int32} {z : zM} (h : fX8_findBest μ x0 x1 x2 = some z) : zm_ck μ 8 x0 = true := (zgd_s h).1
set_option maxHeartbeats 4000000 in
set_option maxRecDepth 100000 in
theorem cX8_findBest_ok {μ : zM} {x0 : Nat} {x1 : Int32} {x2 : Int32} {mo : zM} (hf : fX8_findBest μ x0 x1 x2 = some mo) : zC yX8_findBest cX8_findBest 7 (none) 1 0 0 [.ref x0, .int x1, .int x2] μ (none) mo := by
  replace hf := (zgd_s hf).2
  refine zC.of (by decide) (Nat.le_of_ble_eq_true rfl) (fun K hin => ?_)
  clear hin
  show zz K cX8_findBest (7, RX8, none, 1, 0, 0, none, mo) 0 0 0 [(0, .ref x0), (1, .int x1), (2, .int x2)] [] μ
  refine zr_iconst 0 dX8_findBest_0 (by decide) ?_
  refine zr_istore_n [(3, .int 0), (0, .ref x0), (1, .int x1), (2, .int x2)] dX8_findBest_1 (Nat.le_of_ble_eq_true rfl) rfl ?_
  replace hf := zb1_s hf
  obtain ⟨m5, hg, hf⟩ := hf
  have hj6 : zz K cX8_findBest (7, RX8, none, 1, 0, 0, none, mo) 0 0 90 [] [] m5 := by
    cases hf
    exact zr_vret dX8_findBest_90
  clear hf
  have hf := hg
  clear hg
  have hL32 : ∀ (n : Nat) (x3_1 : Int32) (m2 : zM), zf2 (fX8_findBest_l2 x1 x2 x0) n x3_1 m2 = some m5 → zz K cX8_findBest (7, RX8, none, 1, 0, 0, none, mo) 0 0 2 [(0, .ref x0), (1, .int x1), (2, .int x2), (3, .int x3_1)] [] m2 := by
    intro n
    induction n with
    | zero => intro x3_1 m2 hf; cases hf
    | succ n ih4 =>
      intro x3_1 m2 hf
      replace hf := zf2_s hf
      generalize zf2 (fX8_findBest_l2 x1 x2 x0) n = F3 at hf ih4
      unfold fX8_findBest_l2 at hf
      refine zr_iload_n 3 dX8_findBest_2 rfl ?_
      refine zr_bipush 100 dX8_findBest_3 (by decide) ?_
      refine zr_icmp_ge 90 dX8_findBest_5 (by decide) (fun hc => ?_) (fun hc => ?_)
      · rw [if_pos hc] at hf
        cases hf
        exact zr_lv [] rfl hj6
      · rw [if_neg hc] at hf
        refine zr_iconst 0 dX8_findBest_8 (by decide) ?_
        refine zr_iload_n 3 dX8_findBest_9 rfl ?_
        refine zr_iload_n 1 dX8_findBest_10 rfl ?_
        replace hf := zb1_s hf
        obtain ⟨v8, h7, hf⟩ := hf
        refine zr_callS [.int 0, .int x3_1, .int x1] (cX8_sellerGain_ok h7) zvs_X8_sellerGain zl_489 zl_488 rfl (Nat.le_of_ble_eq_true rfl) (Nat.le_of_ble_eq_true rfl) (Nat.le_of_ble_eq_true rfl) (Nat.le_of_ble_eq_true rfl) dX8_findBest_11 rfl ?_
        refine zr_istore [(4, .int v8), (0, .ref x0), (1, .int x1), (2, .int x2), (3, .int x3_1)] dX8_findBest_14 (Nat.le_of_ble_eq_true rfl) rfl ?_
        refine zr_iload_n 4 dX8_findBest_16 rfl ?_
        refine zr_iconst 0 dX8_findBest_17 (by decide) ?_
        refine zr_iload_n 3 dX8_findBest_18 rfl ?_
        replace hf := zb1_s hf
        obtain ⟨v10, h9, hf⟩ := hf
        refine zr_callS [.int x3_1, .int 0, .int x2] (cX8_buyerGain_ok h9) zvs_X8_buyerGain zl_492 zl_491 rfl (Nat.le_of_ble_eq_true rfl) (Nat.le_of_ble_eq_true rfl) (Nat.le_of_ble_eq_true rfl) (Nat.le_of_ble_eq_true rfl) dX8_findBest_19 rfl ?_
        refine zr_istore [(5, .int v10), (4, .int v8), (0, .ref x0), (1, .int x1), (2, .int x2), (3, .int x3_1)] dX8_findBest_22 (Nat.le_of_ble_eq_true rfl) rfl ?_
        refine zr_iconst 1 dX8_findBest_24 (by decide) ?_
        refine zr_istore [(6, .int 1), (5, .int v10), (4, .int v8), (0, .ref x0), (1, .int x1), (2, .int x2), (3, .int x3_1)] dX8_findBest_25 (Nat.le_of_ble_eq_true rfl) rfl ?_
        replace hf := zb2_s hf
        obtain ⟨x4_16, x5_17, hg, hf⟩ := hf
        have hj18 : zz K cX8_findBest (7, RX8, none, 1, 0, 0, none, mo) 0 0 68 [(0, .ref x0), (1, .int x1), (2, .int x2), (3, .int x3_1), (4, .int x4_16), (5, .int x5_17)] [] m2 := by
          refine zr_aload_n 0 dX8_findBest_68 rfl ?_
          replace hf := zb1_s hf
          obtain ⟨v24, h25, hf⟩ := hf
          refine zr_get (zm_gR_g h25) zk8 (by decide) zl_461 dX8_findBest_69 ?_
          refine zr_iload_n 3 dX8_findBest_72 rfl ?_
          refine zr_iload 4 dX8_findBest_73 rfl ?_
          replace hf := zb1_s hf
          obtain ⟨m26, h27, hf⟩ := hf
          refine zr_iast h27 dX8_findBest_75 ?_
          refine zr_aload_n 0 dX8_findBest_76 rfl ?_
          replace hf := zb1_s hf
          obtain ⟨v28, h29, hf⟩ := hf
          refine zr_get (zm_gR_g h29) zk8 (by decide) zl_462 dX8_findBest_77 ?_
          refine zr_iload_n 3 dX8_findBest_80 rfl ?_
          refine zr_iload 5 dX8_findBest_81 rfl ?_
          replace hf := zb1_s hf
          obtain ⟨m30, h31, hf⟩ := hf
          refine zr_iast h31 dX8_findBest_83 ?_
          refine zr_iinc (j := 3) (x3_1 + 1) [(3, .int (x3_1 + 1)), (0, .ref x0), (1, .int x1), (2, .int x2), (4, .int x4_16), (5, .int x5_17)] dX8_findBest_84 rfl rfl (Nat.le_of_ble_eq_true rfl) rfl ?_
          refine zr_goto 2 dX8_findBest_87 (by decide) ?_
          exact zr_lv [1, 2, 3, 0] rfl (ih4 (x3_1 + 1) m30 hf)
        clear hf
        have hf := hg
        clear hg
        have hL23 : ∀ (n : Nat) (x4_11 : Int32) (x5_12 : Int32) (x6_13 : Int32), zf3 (fX8_findBest_l27x m2 x3_1 x1 x2) n x4_11 x5_12 x6_13 = some (x4_16, x5_17) → zz K cX8_findBest (7, RX8, none, 1, 0, 0, none, mo) 0 0 27 [(0, .ref x0), (1, .int x1), (2, .int x2), (3, .int x3_1), (4, .int x4_11), (5, .int x5_12), (6, .int x6_13)] [] m2 := by
          intro n
          induction n with
          | zero => intro x4_11 x5_12 x6_13 hf; cases hf
          | succ n ih15 =>
            intro x4_11 x5_12 x6_13 hf
            replace hf := zf3_s hf
            generalize zf3 (fX8_findBest_l27x m2 x3_1 x1 x2) n = F14 at hf ih15
            unfold fX8_findBest_l27x at hf
            refine zr_iload 6 dX8_findBest_27 rfl ?_
            refine zr_bipush 100 dX8_findBest_29 (by decide) ?_
            refine zr_icmp_ge 68 dX8_findBest_31 (by decide) (fun hc => ?_) (fun hc => ?_)
            · rw [if_pos hc] at hf
              cases hf
              exact zr_lv [0, 1, 2, 3, 4, 5] rfl hj18
            · rw [if_neg hc] at hf
              refine zr_iload 4 dX8_findBest_34 rfl ?_
              refine zr_iload 6 dX8_findBest_36 rfl ?_
              refine zr_iload_n 3 dX8_findBest_38 rfl ?_
              refine zr_iload_n 1 dX8_findBest_39 rfl ?_
              replace hf := zb1_s hf
              obtain ⟨v20, h19, hf⟩ := hf
              refine zr_callS [.int x6_13, .int x3_1, .int x1] (cX8_sellerGain_ok h19) zvs_X8_sellerGain zl_489 zl_488 rfl (Nat.le_of_ble_eq_true rfl) (Nat.le_of_ble_eq_true rfl) (Nat.le_of_ble_eq_true rfl) (Nat.le_of_ble_eq_true rfl) dX8_findBest_40 rfl ?_
              refine zr_mmax zl_493 zl_55 zl_11 zl_56 (Nat.le_of_ble_eq_true rfl) (Nat.le_of_ble_eq_true rfl) (Nat.le_of_ble_eq_true rfl) (Nat.le_of_ble_eq_true rfl) dX8_findBest_43 ?_
              refine zr_istore [(4, .int (if x4_11 < v20 then v20 else x4_11 : Int32)), (0, .ref x0), (1, .int x1), (2, .int x2), (3, .int x3_1), (5, .int x5_12), (6, .int x6_13)] dX8_findBest_46 (Nat.le_of_ble_eq_true rfl) rfl ?_
              refine zr_iload 5 dX8_findBest_48 rfl ?_
              refine zr_iload_n 4 dX8_findBest_50 rfl ?_
              refine zr_iload 6 dX8_findBest_51 rfl ?_
              refine zr_iload_n 3 dX8_findBest_53 rfl ?_
              replace hf := zb1_s hf
              obtain ⟨v22, h21, hf⟩ := hf
              refine zr_callS [.int x3_1, .int x6_13, .int x2] (cX8_buyerGain_ok h21) zvs_X8_buyerGain zl_492 zl_491 rfl (Nat.le_of_ble_eq_true rfl) (Nat.le_of_ble_eq_true rfl) (Nat.le_of_ble_eq_true rfl) (Nat.le_of_ble_eq_true rfl) dX8_findBest_54 rfl ?_
              refine zr_mmax zl_493 zl_55 zl_11 zl_56 (Nat.le_of_ble_eq_true rfl) (Nat.le_of_ble_eq_true rfl) (Nat.le_of_ble_eq_true rfl) (Nat.le_of_ble_eq_true rfl) dX8_findBest_57 ?_
              refine zr_istore [(5, .int (if x5_12 < v22 then v22 else x5_12 : Int32)), (4, .int (if x4_11 < v20 then v20 else x4_11 : Int32)), (0, .ref x0), (1, .int x1), (2, .int x2), (3, .int x3_1), (6, .int x6_13)] dX8_findBest_60 (Nat.le_of_ble_eq_true rfl) rfl ?_
              refine zr_iinc (j := 6) (x6_13 + 1) [(6, .int (x6_13 + 1)), (5, .int (if x5_12 < v22 then v22 else x5_12 : Int32)), (4, .int (if x4_11 < v20 then v20 else x4_11 : Int32)), (0, .ref x0), (1, .int x1), (2, .int x2), (3, .int x3_1)] dX8_findBest_62 rfl rfl (Nat.le_of_ble_eq_true rfl) rfl ?_
              refine zr_goto 27 dX8_findBest_65 (by decide) ?_
              exact zr_lv [3, 4, 5, 6, 2, 1, 0] rfl (ih15 (if x4_11 < v20 then v20 else x4_11 : Int32) (if x5_12 < v22 then v22 else x5_12 : Int32) (x6_13 + 1) hf)
        exact zr_lv [3, 4, 5, 6, 2, 1, 0] rfl (hL23 _ v8 v10 1 hf)
  exact zr_lv [1, 2, 3, 0] rfl (hL32 _ 0 μ hf)
theorem zl_494 : Cond.code yX8_findBest cX8_findBest 7 (none) ∈ zt := zt_at 1011 (by decide +kernel)
theorem zvs_X8_findBest : zvS yX8_findBest cX8_findBest 7 (none) 2 := ⟨zl_494, zl_471, ⟨by decide +kernel, by decide +kernel, by decide +kernel⟩, by decide⟩
theorem zl_495 : Cond.methodLink RX8 54 yX8_findBest ∈ zt := zt_at 1008 (by decide +kernel)
theorem zl_496 : Cond.instanceMethod yX8_findBest ∈ zt := zt_at 1010 (by decide +kernel)
theorem zl_497 : Cond.selects RX8 yX8_findBest yX8_findBest ∈ zt := zt_at 33 (by decide +kernel)
theorem dX8_rests_0 : decode cX8_rests 0 = .ok (.aload_n 0, 1) := by decide +kernel
theorem dX8_rests_1 : decode cX8_rests 1 = .ok (.iload_n 1, 1) := by decide +kernel
theorem dX8_rests_2 : decode cX8_rests 2 = .ok (.iload_n 2, 1) := by decide +kernel
theorem dX8_rests_3 : decode cX8_rests 3 = .ok (.invokevirtual 54, 3) := by decide +kernel
theorem dX8_rests_6 : decode cX8_rests 6 = .ok (.iconst 0, 1) := by decide +kernel
theorem dX8_rests_7 : decode cX8_rests 7 = .ok (.istore 4, 2) := by decide +kernel
theorem dX8_rests_9 : decode cX8_rests 9 = .ok (.iconst 0, 1) := by decide +kernel
theorem dX8_rests_10 : decode cX8_rests 10 = .ok (.istore 5, 2) := by decide +kernel
theorem dX8_rests_12 : decode cX8_rests 12 = .ok (.iload 5, 2) := by decide +kernel
theorem dX8_rests_14 : decode cX8_rests 14 = .ok (.bipush 100, 2) := by decide +kernel
theorem dX8_rests_16 : decode cX8_rests 16 = .ok (.if_icmp .ge 73, 3) := by decide +kernel
theorem dX8_rests_19 : decode cX8_rests 19 = .ok (.iload_n 3, 1) := by decide +kernel
theorem dX8_rests_20 : decode cX8_rests 20 = .ok (.ifCond .eq 8, 3) := by decide +kernel
theorem dX8_rests_23 : decode cX8_rests 23 = .ok (.iload 5, 2) := by decide +kernel
theorem dX8_rests_25 : decode cX8_rests 25 = .ok (.goto 4, 3) := by decide +kernel
theorem dX8_rests_28 : decode cX8_rests 28 = .ok (.iconst 0, 1) := by decide +kernel
theorem dX8_rests_29 : decode cX8_rests 29 = .ok (.istore 6, 2) := by decide +kernel
theorem dX8_rests_31 : decode cX8_rests 31 = .ok (.iload 6, 2) := by decide +kernel
theorem dX8_rests_33 : decode cX8_rests 33 = .ok (.bipush 100, 2) := by decide +kernel
theorem dX8_rests_35 : decode cX8_rests 35 = .ok (.if_icmp .ge 48, 3) := by decide +kernel
theorem dX8_rests_38 : decode cX8_rests 38 = .ok (.iload 5, 2) := by decide +kernel
theorem dX8_rests_40 : decode cX8_rests 40 = .ok (.iload 6, 2) := by decide +kernel
theorem dX8_rests_42 : decode cX8_rests 42 = .ok (.iload_n 1, 1) := by decide +kernel
theorem dX8_rests_43 : decode cX8_rests 43 = .ok (.invokestatic 58, 3) := by decide +kernel
theorem dX8_rests_46 : decode cX8_rests 46 = .ok (.aload_n 0, 1) := by decide +kernel
theorem dX8_rests_47 : decode cX8_rests 47 = .ok (.getfield 9, 3) := by decide +kernel
theorem dX8_rests_50 : decode cX8_rests 50 = .ok (.iload 6, 2) := by decide +kernel
theorem dX8_rests_52 : decode cX8_rests 52 = .ok (.iaload, 1) := by decide +kernel
theorem dX8_rests_53 : decode cX8_rests 53 = .ok (.if_icmp .ne 24, 3) := by decide +kernel
theorem dX8_rests_56 : decode cX8_rests 56 = .ok (.iload 5, 2) := by decide +kernel
theorem dX8_rests_58 : decode cX8_rests 58 = .ok (.iload 6, 2) := by decide +kernel
theorem dX8_rests_60 : decode cX8_rests 60 = .ok (.iload_n 2, 1) := by decide +kernel
theorem dX8_rests_61 : decode cX8_rests 61 = .ok (.invokestatic 62, 3) := by decide +kernel
theorem dX8_rests_64 : decode cX8_rests 64 = .ok (.aload_n 0, 1) := by decide +kernel
theorem dX8_rests_65 : decode cX8_rests 65 = .ok (.getfield 15, 3) := by decide +kernel
theorem dX8_rests_68 : decode cX8_rests 68 = .ok (.iload 5, 2) := by decide +kernel
theorem dX8_rests_70 : decode cX8_rests 70 = .ok (.iaload, 1) := by decide +kernel
theorem dX8_rests_71 : decode cX8_rests 71 = .ok (.if_icmp .ne 6, 3) := by decide +kernel
theorem dX8_rests_74 : decode cX8_rests 74 = .ok (.iinc 4 1, 3) := by decide +kernel
theorem dX8_rests_77 : decode cX8_rests 77 = .ok (.iinc 6 1, 3) := by decide +kernel
theorem dX8_rests_80 : decode cX8_rests 80 = .ok (.goto (-49), 3) := by decide +kernel
theorem dX8_rests_83 : decode cX8_rests 83 = .ok (.iinc 5 1, 3) := by decide +kernel
theorem dX8_rests_86 : decode cX8_rests 86 = .ok (.goto (-74), 3) := by decide +kernel
theorem dX8_rests_89 : decode cX8_rests 89 = .ok (.iload 4, 2) := by decide +kernel
theorem dX8_rests_91 : decode cX8_rests 91 = .ok (.ireturn, 1) := by decide +kernel
def fX8_rests_l31x (m2 : zM) (x5_4 : Int32) (x1 : Int32) (x0 : Nat) (x2 : Int32) (F13 : Int32 → Int32 → Option (Int32)) (x4_11 : Int32) (x6_12 : Int32) : Option (Int32) :=
  if 100 ≤ x6_12 then (
  some x4_11)
  else (
  zb1 (fX8_sellerGain m2 x5_4 x6_12 x1) fun v18 =>
  zb1 (zm_gR m2 8 x0 0) fun v19 =>
  zb1 (zm_aI m2 0 v19 x6_12) fun v21 =>
  zb1 (if v18 = v21 then (
  zb1 (fX8_buyerGain m2 x5_4 x6_12 x2) fun v26 =>
  zb1 (zm_gR m2 8 x0 1) fun v27 =>
  zb1 (zm_aI m2 0 v27 x5_4) fun v29 =>
  if v26 = v29 then (
  some (x4_11 + 1))
  else (
  some x4_11))
  else (
  some x4_11)) fun x4_23 =>
  F13 x4_23 (x6_12 + 1))
def fX8_rests_l12 (x3 : Int32) (m2 : zM) (x1 : Int32) (x0 : Nat) (x2 : Int32) (F5 : Int32 → Int32 → Option (Int32)) (x4_3 : Int32) (x5_4 : Int32) : Option (Int32) :=
  if 100 ≤ x5_4 then (
  some x4_3)
  else (
  zb1 (if x3 = 0 then (
  some 0)
  else (
  some x5_4)) fun s9 =>
  zb1 (zf2 (fX8_rests_l31x m2 x5_4 x1 x0 x2) zfu x4_3 s9) fun x4_15 =>
  F5 x4_15 (x5_4 + 1))
def fX8_rests (μ : zM) (x0 : Nat) (x1 : Int32) (x2 : Int32) (x3 : Int32) : Option (Int32 × zM) := zgd (zm_ck μ 8 x0) <|
  zb1 (fX8_findBest μ x0 x1 x2) fun m2 =>
  zb1 (zf2 (fX8_rests_l12 x3 m2 x1 x0 x2) zfu 0 0) fun x4_7 =>
  some (x4_7, m2)
theorem fX8_rests_ck {μ : zM} {x0 : Nat} {x1 : Int32} {x2 : Int32} {x3 : Int32} {z : Int32 × zM} (h : fX8_rests μ x0 x1 x2 x3 = some z) : zm_ck μ 8 x0 = true := (zgd_s h).1
set_option maxHeartbeats 4000000 in
set_option maxRecDepth 100000 in
theorem cX8_rests_ok {μ : zM} {x0 : Nat} {x1 : Int32} {x2 : Int32} {x3 : Int32} {r : Int32} {mo : zM} (hf : fX8_rests μ x0 x1 x2 x3 = some (r, mo)) : zC yX8_rests cX8_rests 7 (some .int) 2 0 0 [.ref x0, .int x1, .int x2, .int x3] μ (some (.int r)) mo := by
  replace hf := (zgd_s hf).2
  refine zC.of (by decide) (Nat.le_of_ble_eq_true rfl) (fun K hin => ?_)
  clear hin
  show zz K cX8_rests (7, RX8, some .int, 2, 0, 0, some (.int r), mo) 0 0 0 [(0, .ref x0), (1, .int x1), (2, .int x2), (3, .int x3)] [] μ
  refine zr_aload_n 0 dX8_rests_0 rfl ?_
  refine zr_iload_n 1 dX8_rests_1 rfl ?_
  refine zr_iload_n 2 dX8_rests_2 rfl ?_
  replace hf := zb1_s hf
  obtain ⟨m2, h1, hf⟩ := hf
  refine zr_callV (ci := 8) [.int x1, .int x2] (cX8_findBest_ok h1) zvs_X8_findBest zl_496 zl_497 (fX8_findBest_ck h1) rfl rfl zl_495 rfl (Nat.le_of_ble_eq_true rfl) (Nat.le_of_ble_eq_true rfl) (Nat.le_of_ble_eq_true rfl) (Nat.le_of_ble_eq_true rfl) dX8_rests_3 rfl ?_
  refine zr_iconst 0 dX8_rests_6 (by decide) ?_
  refine zr_istore [(4, .int 0), (0, .ref x0), (1, .int x1), (2, .int x2), (3, .int x3)] dX8_rests_7 (Nat.le_of_ble_eq_true rfl) rfl ?_
  refine zr_iconst 0 dX8_rests_9 (by decide) ?_
  refine zr_istore [(5, .int 0), (4, .int 0), (0, .ref x0), (1, .int x1), (2, .int x2), (3, .int x3)] dX8_rests_10 (Nat.le_of_ble_eq_true rfl) rfl ?_
  replace hf := zb1_s hf
  obtain ⟨x4_7, hg, hf⟩ := hf
  have hj8 : zz K cX8_rests (7, RX8, some .int, 2, 0, 0, some (.int r), mo) 0 0 89 [(4, .int x4_7)] [] m2 := by
    refine zr_iload 0 dX8_rests_89 rfl ?_
    cases hf
    exact zr_iret dX8_rests_91
  clear hf
  have hf := hg
  clear hg
  have hL32 : ∀ (n : Nat) (x4_3 : Int32) (x5_4 : Int32), zf2 (fX8_rests_l12 x3 m2 x1 x0 x2) n x4_3 x5_4 = some x4_7 → zz K cX8_rests (7, RX8, some .int, 2, 0, 0, some (.int r), mo) 0 0 12 [(0, .ref x0), (1, .int x1), (2, .int x2), (3, .int x3), (4, .int x4_3), (5, .int x5_4)] [] m2 := by
    intro n
    induction n with
    | zero => intro x4_3 x5_4 hf; cases hf
    | succ n ih6 =>
      intro x4_3 x5_4 hf
      replace hf := zf2_s hf
      generalize zf2 (fX8_rests_l12 x3 m2 x1 x0 x2) n = F5 at hf ih6
      unfold fX8_rests_l12 at hf
      refine zr_iload 5 dX8_rests_12 rfl ?_
      refine zr_bipush 100 dX8_rests_14 (by decide) ?_
      refine zr_icmp_ge 89 dX8_rests_16 (by decide) (fun hc => ?_) (fun hc => ?_)
      · rw [if_pos hc] at hf
        cases hf
        exact zr_lv [4] rfl hj8
      · rw [if_neg hc] at hf
        refine zr_iload_n 3 dX8_rests_19 rfl ?_
        replace hf := zb1_s hf
        obtain ⟨s9, hg, hf⟩ := hf
        have hj10 : zz K cX8_rests (7, RX8, some .int, 2, 0, 0, some (.int r), mo) 0 0 29 [(0, .ref x0), (1, .int x1), (2, .int x2), (3, .int x3), (4, .int x4_3), (5, .int x5_4)] [.int s9] m2 := by
          refine zr_istore [(6, .int s9), (0, .ref x0), (1, .int x1), (2, .int x2), (3, .int x3), (4, .int x4_3), (5, .int x5_4)] dX8_rests_29 (Nat.le_of_ble_eq_true rfl) rfl ?_
          replace hf := zb1_s hf
          obtain ⟨x4_15, hg, hf⟩ := hf
          have hj16 : zz K cX8_rests (7, RX8, some .int, 2, 0, 0, some (.int r), mo) 0 0 83 [(0, .ref x0), (1, .int x1), (2, .int x2), (3, .int x3), (4, .int x4_15), (5, .int x5_4)] [] m2 := by
            refine zr_iinc (j := 5) (x5_4 + 1) [(5, .int (x5_4 + 1)), (0, .ref x0), (1, .int x1), (2, .int x2), (3, .int x3), (4, .int x4_15)] dX8_rests_83 rfl rfl (Nat.le_of_ble_eq_true rfl) rfl ?_
            refine zr_goto 12 dX8_rests_86 (by decide) ?_
            exact zr_lv [1, 2, 3, 4, 5, 0] rfl (ih6 x4_15 (x5_4 + 1) hf)
          clear hf
          have hf := hg
          clear hg
          have hL31 : ∀ (n : Nat) (x4_11 : Int32) (x6_12 : Int32), zf2 (fX8_rests_l31x m2 x5_4 x1 x0 x2) n x4_11 x6_12 = some x4_15 → zz K cX8_rests (7, RX8, some .int, 2, 0, 0, some (.int r), mo) 0 0 31 [(0, .ref x0), (1, .int x1), (2, .int x2), (3, .int x3), (4, .int x4_11), (5, .int x5_4), (6, .int x6_12)] [] m2 := by
            intro n
            induction n with
            | zero => intro x4_11 x6_12 hf; cases hf
            | succ n ih14 =>
              intro x4_11 x6_12 hf
              replace hf := zf2_s hf
              generalize zf2 (fX8_rests_l31x m2 x5_4 x1 x0 x2) n = F13 at hf ih14
              unfold fX8_rests_l31x at hf
              refine zr_iload 6 dX8_rests_31 rfl ?_
              refine zr_bipush 100 dX8_rests_33 (by decide) ?_
              refine zr_icmp_ge 83 dX8_rests_35 (by decide) (fun hc => ?_) (fun hc => ?_)
              · rw [if_pos hc] at hf
                cases hf
                exact zr_lv [0, 1, 2, 3, 4, 5] rfl hj16
              · rw [if_neg hc] at hf
                refine zr_iload 5 dX8_rests_38 rfl ?_
                refine zr_iload 6 dX8_rests_40 rfl ?_
                refine zr_iload_n 1 dX8_rests_42 rfl ?_
                replace hf := zb1_s hf
                obtain ⟨v18, h17, hf⟩ := hf
                refine zr_callS [.int x5_4, .int x6_12, .int x1] (cX8_sellerGain_ok h17) zvs_X8_sellerGain zl_489 zl_488 rfl (Nat.le_of_ble_eq_true rfl) (Nat.le_of_ble_eq_true rfl) (Nat.le_of_ble_eq_true rfl) (Nat.le_of_ble_eq_true rfl) dX8_rests_43 rfl ?_
                refine zr_aload_n 0 dX8_rests_46 rfl ?_
                replace hf := zb1_s hf
                obtain ⟨v19, h20, hf⟩ := hf
                refine zr_get (zm_gR_g h20) zk8 (by decide) zl_461 dX8_rests_47 ?_
                refine zr_iload 6 dX8_rests_50 rfl ?_
                replace hf := zb1_s hf
                obtain ⟨v21, h22, hf⟩ := hf
                refine zr_iald h22 dX8_rests_52 ?_
                replace hf := zb1_s hf
                obtain ⟨x4_23, hg, hf⟩ := hf
                have hj24 : zz K cX8_rests (7, RX8, some .int, 2, 0, 0, some (.int r), mo) 0 0 77 [(0, .ref x0), (1, .int x1), (2, .int x2), (3, .int x3), (4, .int x4_23), (5, .int x5_4), (6, .int x6_12)] [] m2 := by
                  refine zr_iinc (j := 6) (x6_12 + 1) [(6, .int (x6_12 + 1)), (0, .ref x0), (1, .int x1), (2, .int x2), (3, .int x3), (4, .int x4_23), (5, .int x5_4)] dX8_rests_77 rfl rfl (Nat.le_of_ble_eq_true rfl) rfl ?_
                  refine zr_goto 31 dX8_rests_80 (by decide) ?_
                  exact zr_lv [1, 2, 3, 4, 5, 6, 0] rfl (ih14 x4_23 (x6_12 + 1) hf)
                clear hf
                have hf := hg
                clear hg
                refine zr_icmp_ne 77 dX8_rests_53 (by decide) (fun hc => ?_) (fun hc => ?_)
                · rw [if_neg hc] at hf
                  cases hf
                  exact zr_lv [0, 1, 2, 3, 4, 5, 6] rfl hj24
                · rw [if_pos hc] at hf
                  refine zr_iload 5 dX8_rests_56 rfl ?_
                  refine zr_iload 6 dX8_rests_58 rfl ?_
                  refine zr_iload_n 2 dX8_rests_60 rfl ?_
                  replace hf := zb1_s hf
                  obtain ⟨v26, h25, hf⟩ := hf
                  refine zr_callS [.int x5_4, .int x6_12, .int x2] (cX8_buyerGain_ok h25) zvs_X8_buyerGain zl_492 zl_491 rfl (Nat.le_of_ble_eq_true rfl) (Nat.le_of_ble_eq_true rfl) (Nat.le_of_ble_eq_true rfl) (Nat.le_of_ble_eq_true rfl) dX8_rests_61 rfl ?_
                  refine zr_aload_n 0 dX8_rests_64 rfl ?_
                  replace hf := zb1_s hf
                  obtain ⟨v27, h28, hf⟩ := hf
                  refine zr_get (zm_gR_g h28) zk8 (by decide) zl_462 dX8_rests_65 ?_
                  refine zr_iload 5 dX8_rests_68 rfl ?_
                  replace hf := zb1_s hf
                  obtain ⟨v29, h30, hf⟩ := hf
                  refine zr_iald h30 dX8_rests_70 ?_
                  refine zr_icmp_ne 77 dX8_rests_71 (by decide) (fun hc => ?_) (fun hc => ?_)
                  · rw [if_neg hc] at hf
                    cases hf
                    exact zr_lv [0, 1, 2, 3, 4, 5, 6] rfl hj24
                  · rw [if_pos hc] at hf
                    refine zr_iinc (j := 4) (x4_11 + 1) [(4, .int (x4_11 + 1)), (0, .ref x0), (1, .int x1), (2, .int x2), (3, .int x3), (5, .int x5_4), (6, .int x6_12)] dX8_rests_74 rfl rfl (Nat.le_of_ble_eq_true rfl) rfl ?_
                    cases hf
                    exact zr_lv [1, 2, 3, 4, 0, 5, 6] rfl hj24
          exact zr_lv [1, 2, 3, 4, 5, 6, 0] rfl (hL31 _ x4_3 s9 hf)
        clear hf
        have hf := hg
        clear hg
        refine zr_if_eq 28 dX8_rests_20 (by decide) (fun hc => ?_) (fun hc => ?_)
        · rw [if_pos hc] at hf
          refine zr_iconst 0 dX8_rests_28 (by decide) ?_
          cases hf
          exact zr_lv [0, 1, 2, 3, 4, 5] rfl hj10
        · rw [if_neg hc] at hf
          refine zr_iload 5 dX8_rests_23 rfl ?_
          refine zr_goto 29 dX8_rests_25 (by decide) ?_
          cases hf
          exact zr_lv [0, 1, 2, 3, 4, 5] rfl hj10
  exact zr_lv [2, 3, 4, 5, 1, 0] rfl (hL32 _ 0 0 hf)
theorem dX8_greatestBuyer_0 : decode cX8_greatestBuyer 0 = .ok (.aload_n 0, 1) := by decide +kernel
theorem dX8_greatestBuyer_1 : decode cX8_greatestBuyer 1 = .ok (.iconst 1, 1) := by decide +kernel
theorem dX8_greatestBuyer_2 : decode cX8_greatestBuyer 2 = .ok (.iload_n 1, 1) := by decide +kernel
theorem dX8_greatestBuyer_3 : decode cX8_greatestBuyer 3 = .ok (.iconst (-1), 1) := by decide +kernel
theorem dX8_greatestBuyer_4 : decode cX8_greatestBuyer 4 = .ok (.if_icmp .ne 7, 3) := by decide +kernel
theorem dX8_greatestBuyer_7 : decode cX8_greatestBuyer 7 = .ok (.iconst 0, 1) := by decide +kernel
theorem dX8_greatestBuyer_8 : decode cX8_greatestBuyer 8 = .ok (.goto 6, 3) := by decide +kernel
theorem dX8_greatestBuyer_11 : decode cX8_greatestBuyer 11 = .ok (.iconst 1, 1) := by decide +kernel
theorem dX8_greatestBuyer_12 : decode cX8_greatestBuyer 12 = .ok (.iload_n 1, 1) := by decide +kernel
theorem dX8_greatestBuyer_13 : decode cX8_greatestBuyer 13 = .ok (.ishl, 1) := by decide +kernel
theorem dX8_greatestBuyer_14 : decode cX8_greatestBuyer 14 = .ok (.invokestatic 18, 3) := by decide +kernel
theorem dX8_greatestBuyer_17 : decode cX8_greatestBuyer 17 = .ok (.ireturn, 1) := by decide +kernel
def fX8_greatestBuyer (μ : zM) (x0 : Nat) (x1 : Int32) : Option (Int32) :=
  zb1 (if x1 = (-1) then (
  some 0)
  else (
  some (1 <<< (x1 &&& 31)))) fun s1 =>
  zb1 (fX8_bestLeft μ x0 1 s1) fun v4 =>
  some v4
set_option maxHeartbeats 4000000 in
set_option maxRecDepth 100000 in
theorem cX8_greatestBuyer_ok {μ : zM} {x0 : Nat} {x1 : Int32} {r : Int32} (hf : fX8_greatestBuyer μ x0 x1 = some r) : zC yX8_greatestBuyer cX8_greatestBuyer 2 (some .int) 3 0 0 [.ref x0, .int x1] μ (some (.int r)) μ := by
  unfold fX8_greatestBuyer at hf
  refine zC.of (by decide) (Nat.le_of_ble_eq_true rfl) (fun K hin => ?_)
  clear hin
  show zz K cX8_greatestBuyer (2, RX8, some .int, 3, 0, 0, some (.int r), μ) 0 0 0 [(0, .ref x0), (1, .int x1)] [] μ
  refine zr_aload_n 0 dX8_greatestBuyer_0 rfl ?_
  refine zr_iconst 1 dX8_greatestBuyer_1 (by decide) ?_
  refine zr_iload_n 1 dX8_greatestBuyer_2 rfl ?_
  refine zr_iconst (-1) dX8_greatestBuyer_3 (by decide) ?_
  replace hf := zb1_s hf
  obtain ⟨s1, hg, hf⟩ := hf
  have hj2 : zz K cX8_greatestBuyer (2, RX8, some .int, 3, 0, 0, some (.int r), μ) 0 0 14 [] [.int s1, .int 1, .ref x0] μ := by
    replace hf := zb1_s hf
    obtain ⟨v4, h3, hf⟩ := hf
    refine zr_callS [.ref x0, .int 1, .int s1] (cX8_bestLeft_ok h3) zvs_X8_bestLeft zl_476 zl_475 rfl (Nat.le_of_ble_eq_true rfl) (Nat.le_of_ble_eq_true rfl) (Nat.le_of_ble_eq_true rfl) (Nat.le_of_ble_eq_true rfl) dX8_greatestBuyer_14 rfl ?_
    cases hf
    exact zr_iret dX8_greatestBuyer_17
  clear hf
  have hf := hg
  clear hg
  refine zr_icmp_ne 11 dX8_greatestBuyer_4 (by decide) (fun hc => ?_) (fun hc => ?_)
  · rw [if_neg hc] at hf
    refine zr_iconst 1 dX8_greatestBuyer_11 (by decide) ?_
    refine zr_iload_n 1 dX8_greatestBuyer_12 rfl ?_
    refine zr_ishl dX8_greatestBuyer_13 ?_
    cases hf
    exact zr_lv [] rfl hj2
  · rw [if_pos hc] at hf
    refine zr_iconst 0 dX8_greatestBuyer_7 (by decide) ?_
    refine zr_goto 14 dX8_greatestBuyer_8 (by decide) ?_
    cases hf
    exact zr_lv [] rfl hj2
theorem zl_498 : Cond.code yX8_greatestBuyer cX8_greatestBuyer 2 (some .int) ∈ zt := zt_at 1277 (by decide +kernel)
theorem zvs_X8_greatestBuyer : zvS yX8_greatestBuyer cX8_greatestBuyer 2 (some .int) 2 := ⟨zl_498, zl_471, ⟨by decide +kernel, by decide +kernel, by decide +kernel⟩, by decide⟩
theorem zl_499 : Cond.methodLink RX8 71 yX8_greatestBuyer ∈ zt := zt_at 1281 (by decide +kernel)
theorem zl_500 : Cond.static yX8_greatestBuyer ∈ zt := zt_at 1276 (by decide +kernel)
theorem dX8_priceFor_0 : decode cX8_priceFor 0 = .ok (.aload_n 0, 1) := by decide +kernel
theorem dX8_priceFor_1 : decode cX8_priceFor 1 = .ok (.iload_n 2, 1) := by decide +kernel
theorem dX8_priceFor_2 : decode cX8_priceFor 2 = .ok (.invokestatic 71, 3) := by decide +kernel
theorem dX8_priceFor_5 : decode cX8_priceFor 5 = .ok (.istore_n 3, 1) := by decide +kernel
theorem dX8_priceFor_6 : decode cX8_priceFor 6 = .ok (.iload_n 3, 1) := by decide +kernel
theorem dX8_priceFor_7 : decode cX8_priceFor 7 = .ok (.iconst (-1), 1) := by decide +kernel
theorem dX8_priceFor_8 : decode cX8_priceFor 8 = .ok (.if_icmp .ne 12, 3) := by decide +kernel
theorem dX8_priceFor_11 : decode cX8_priceFor 11 = .ok (.aload_n 0, 1) := by decide +kernel
theorem dX8_priceFor_12 : decode cX8_priceFor 12 = .ok (.getfield 22, 3) := by decide +kernel
theorem dX8_priceFor_15 : decode cX8_priceFor 15 = .ok (.iload_n 1, 1) := by decide +kernel
theorem dX8_priceFor_16 : decode cX8_priceFor 16 = .ok (.iaload, 1) := by decide +kernel
theorem dX8_priceFor_17 : decode cX8_priceFor 17 = .ok (.goto 18, 3) := by decide +kernel
theorem dX8_priceFor_20 : decode cX8_priceFor 20 = .ok (.aload_n 0, 1) := by decide +kernel
theorem dX8_priceFor_21 : decode cX8_priceFor 21 = .ok (.getfield 22, 3) := by decide +kernel
theorem dX8_priceFor_24 : decode cX8_priceFor 24 = .ok (.iload_n 1, 1) := by decide +kernel
theorem dX8_priceFor_25 : decode cX8_priceFor 25 = .ok (.iaload, 1) := by decide +kernel
theorem dX8_priceFor_26 : decode cX8_priceFor 26 = .ok (.aload_n 0, 1) := by decide +kernel
theorem dX8_priceFor_27 : decode cX8_priceFor 27 = .ok (.getfield 22, 3) := by decide +kernel
theorem dX8_priceFor_30 : decode cX8_priceFor 30 = .ok (.iload_n 3, 1) := by decide +kernel
theorem dX8_priceFor_31 : decode cX8_priceFor 31 = .ok (.iaload, 1) := by decide +kernel
theorem dX8_priceFor_32 : decode cX8_priceFor 32 = .ok (.invokestatic 65, 3) := by decide +kernel
theorem dX8_priceFor_35 : decode cX8_priceFor 35 = .ok (.ireturn, 1) := by decide +kernel
def fX8_priceFor (μ : zM) (x0 : Nat) (x1 : Int32) (x2 : Int32) : Option (Int32) :=
  zb1 (fX8_greatestBuyer μ x0 x2) fun v2 =>
  zb1 (if v2 = (-1) then (
  zb1 (zm_gR μ 9 x0 7) fun v13 =>
  zb1 (zm_aI μ 0 v13 x1) fun v15 =>
  some v15)
  else (
  zb1 (zm_gR μ 9 x0 7) fun v5 =>
  zb1 (zm_aI μ 0 v5 x1) fun v7 =>
  zb1 (zm_gR μ 9 x0 7) fun v9 =>
  zb1 (zm_aI μ 0 v9 v2) fun v11 =>
  some (if v7 < v11 then v11 else v7 : Int32))) fun s3 =>
  some s3
set_option maxHeartbeats 4000000 in
set_option maxRecDepth 100000 in
theorem cX8_priceFor_ok {μ : zM} {x0 : Nat} {x1 : Int32} {x2 : Int32} {r : Int32} (hf : fX8_priceFor μ x0 x1 x2 = some r) : zC yX8_priceFor cX8_priceFor 4 (some .int) 4 0 0 [.ref x0, .int x1, .int x2] μ (some (.int r)) μ := by
  unfold fX8_priceFor at hf
  refine zC.of (by decide) (Nat.le_of_ble_eq_true rfl) (fun K hin => ?_)
  clear hin
  show zz K cX8_priceFor (4, RX8, some .int, 4, 0, 0, some (.int r), μ) 0 0 0 [(0, .ref x0), (1, .int x1), (2, .int x2)] [] μ
  refine zr_aload_n 0 dX8_priceFor_0 rfl ?_
  refine zr_iload_n 2 dX8_priceFor_1 rfl ?_
  replace hf := zb1_s hf
  obtain ⟨v2, h1, hf⟩ := hf
  refine zr_callS [.ref x0, .int x2] (cX8_greatestBuyer_ok h1) zvs_X8_greatestBuyer zl_500 zl_499 rfl (Nat.le_of_ble_eq_true rfl) (Nat.le_of_ble_eq_true rfl) (Nat.le_of_ble_eq_true rfl) (Nat.le_of_ble_eq_true rfl) dX8_priceFor_2 rfl ?_
  refine zr_istore_n [(3, .int v2), (0, .ref x0), (1, .int x1), (2, .int x2)] dX8_priceFor_5 (Nat.le_of_ble_eq_true rfl) rfl ?_
  refine zr_iload_n 0 dX8_priceFor_6 rfl ?_
  refine zr_iconst (-1) dX8_priceFor_7 (by decide) ?_
  replace hf := zb1_s hf
  obtain ⟨s3, hg, hf⟩ := hf
  have hj4 : zz K cX8_priceFor (4, RX8, some .int, 4, 0, 0, some (.int r), μ) 0 0 35 [] [.int s3] μ := by
    cases hf
    exact zr_iret dX8_priceFor_35
  clear hf
  have hf := hg
  clear hg
  refine zr_icmp_ne 20 dX8_priceFor_8 (by decide) (fun hc => ?_) (fun hc => ?_)
  · rw [if_neg hc] at hf
    refine zr_aload_n 1 dX8_priceFor_20 rfl ?_
    replace hf := zb1_s hf
    obtain ⟨v5, h6, hf⟩ := hf
    refine zr_get (zm_gR_g h6) zk9 (by decide) zl_469 dX8_priceFor_21 ?_
    refine zr_iload_n 2 dX8_priceFor_24 rfl ?_
    replace hf := zb1_s hf
    obtain ⟨v7, h8, hf⟩ := hf
    refine zr_iald h8 dX8_priceFor_25 ?_
    refine zr_aload_n 1 dX8_priceFor_26 rfl ?_
    replace hf := zb1_s hf
    obtain ⟨v9, h10, hf⟩ := hf
    refine zr_get (zm_gR_g h10) zk9 (by decide) zl_469 dX8_priceFor_27 ?_
    refine zr_iload_n 0 dX8_priceFor_30 rfl ?_
    replace hf := zb1_s hf
    obtain ⟨v11, h12, hf⟩ := hf
    refine zr_iald h12 dX8_priceFor_31 ?_
    refine zr_mmax zl_493 zl_55 zl_11 zl_56 (Nat.le_of_ble_eq_true rfl) (Nat.le_of_ble_eq_true rfl) (Nat.le_of_ble_eq_true rfl) (Nat.le_of_ble_eq_true rfl) dX8_priceFor_32 ?_
    cases hf
    exact zr_lv [] rfl hj4
  · rw [if_pos hc] at hf
    refine zr_aload_n 1 dX8_priceFor_11 rfl ?_
    replace hf := zb1_s hf
    obtain ⟨v13, h14, hf⟩ := hf
    refine zr_get (zm_gR_g h14) zk9 (by decide) zl_469 dX8_priceFor_12 ?_
    refine zr_iload_n 2 dX8_priceFor_15 rfl ?_
    replace hf := zb1_s hf
    obtain ⟨v15, h16, hf⟩ := hf
    refine zr_iald h16 dX8_priceFor_16 ?_
    refine zr_goto 35 dX8_priceFor_17 (by decide) ?_
    cases hf
    exact zr_lv [] rfl hj4
theorem dX9_tellWord_0 : decode cX9_tellWord 0 = .ok (.iload_n 1, 1) := by decide +kernel
theorem dX9_tellWord_1 : decode cX9_tellWord 1 = .ok (.iconst 1, 1) := by decide +kernel
theorem dX9_tellWord_2 : decode cX9_tellWord 2 = .ok (.if_icmp .ne 12, 3) := by decide +kernel
theorem dX9_tellWord_5 : decode cX9_tellWord 5 = .ok (.aload_n 0, 1) := by decide +kernel
theorem dX9_tellWord_6 : decode cX9_tellWord 6 = .ok (.getfield 9, 3) := by decide +kernel
theorem dX9_tellWord_9 : decode cX9_tellWord 9 = .ok (.iload_n 2, 1) := by decide +kernel
theorem dX9_tellWord_10 : decode cX9_tellWord 10 = .ok (.iaload, 1) := by decide +kernel
theorem dX9_tellWord_11 : decode cX9_tellWord 11 = .ok (.goto 23, 3) := by decide +kernel
theorem dX9_tellWord_14 : decode cX9_tellWord 14 = .ok (.iload_n 1, 1) := by decide +kernel
theorem dX9_tellWord_15 : decode cX9_tellWord 15 = .ok (.iconst 2, 1) := by decide +kernel
theorem dX9_tellWord_16 : decode cX9_tellWord 16 = .ok (.if_icmp .ne 12, 3) := by decide +kernel
theorem dX9_tellWord_19 : decode cX9_tellWord 19 = .ok (.aload_n 0, 1) := by decide +kernel
theorem dX9_tellWord_20 : decode cX9_tellWord 20 = .ok (.getfield 15, 3) := by decide +kernel
theorem dX9_tellWord_23 : decode cX9_tellWord 23 = .ok (.iload_n 2, 1) := by decide +kernel
theorem dX9_tellWord_24 : decode cX9_tellWord 24 = .ok (.iaload, 1) := by decide +kernel
theorem dX9_tellWord_25 : decode cX9_tellWord 25 = .ok (.goto 9, 3) := by decide +kernel
theorem dX9_tellWord_28 : decode cX9_tellWord 28 = .ok (.aload_n 0, 1) := by decide +kernel
theorem dX9_tellWord_29 : decode cX9_tellWord 29 = .ok (.getfield 18, 3) := by decide +kernel
theorem dX9_tellWord_32 : decode cX9_tellWord 32 = .ok (.iload_n 2, 1) := by decide +kernel
theorem dX9_tellWord_33 : decode cX9_tellWord 33 = .ok (.iaload, 1) := by decide +kernel
theorem dX9_tellWord_34 : decode cX9_tellWord 34 = .ok (.ireturn, 1) := by decide +kernel
def fX9_tellWord (μ : zM) (x0 : Nat) (x1 : Int32) (x2 : Int32) : Option (Int32) := zgd (zm_ck μ 9 x0) <|
  zb1 (if x1 = 1 then (
  zb1 (zm_gR μ 9 x0 1) fun v11 =>
  zb1 (zm_aI μ 0 v11 x2) fun v13 =>
  some v13)
  else (
  if x1 = 2 then (
  zb1 (zm_gR μ 9 x0 2) fun v7 =>
  zb1 (zm_aI μ 0 v7 x2) fun v9 =>
  some v9)
  else (
  zb1 (zm_gR μ 9 x0 3) fun v3 =>
  zb1 (zm_aI μ 0 v3 x2) fun v5 =>
  some v5))) fun s1 =>
  some s1
theorem fX9_tellWord_ck {μ : zM} {x0 : Nat} {x1 : Int32} {x2 : Int32} {z : Int32} (h : fX9_tellWord μ x0 x1 x2 = some z) : zm_ck μ 9 x0 = true := (zgd_s h).1
set_option maxHeartbeats 4000000 in
set_option maxRecDepth 100000 in
theorem cX9_tellWord_ok {μ : zM} {x0 : Nat} {x1 : Int32} {x2 : Int32} {r : Int32} (hf : fX9_tellWord μ x0 x1 x2 = some r) : zC yX9_tellWord cX9_tellWord 3 (some .int) 0 0 0 [.ref x0, .int x1, .int x2] μ (some (.int r)) μ := by
  replace hf := (zgd_s hf).2
  refine zC.of (by decide) (Nat.le_of_ble_eq_true rfl) (fun K hin => ?_)
  clear hin
  show zz K cX9_tellWord (3, RX9, some .int, 0, 0, 0, some (.int r), μ) 0 0 0 [(0, .ref x0), (1, .int x1), (2, .int x2)] [] μ
  refine zr_iload_n 1 dX9_tellWord_0 rfl ?_
  refine zr_iconst 1 dX9_tellWord_1 (by decide) ?_
  replace hf := zb1_s hf
  obtain ⟨s1, hg, hf⟩ := hf
  have hj2 : zz K cX9_tellWord (3, RX9, some .int, 0, 0, 0, some (.int r), μ) 0 0 34 [] [.int s1] μ := by
    cases hf
    exact zr_iret dX9_tellWord_34
  clear hf
  have hf := hg
  clear hg
  refine zr_icmp_ne 14 dX9_tellWord_2 (by decide) (fun hc => ?_) (fun hc => ?_)
  · rw [if_neg hc] at hf
    refine zr_iload_n 1 dX9_tellWord_14 rfl ?_
    refine zr_iconst 2 dX9_tellWord_15 (by decide) ?_
    refine zr_icmp_ne 28 dX9_tellWord_16 (by decide) (fun hc => ?_) (fun hc => ?_)
    · rw [if_neg hc] at hf
      refine zr_aload_n 0 dX9_tellWord_28 rfl ?_
      replace hf := zb1_s hf
      obtain ⟨v3, h4, hf⟩ := hf
      refine zr_get (zm_gR_g h4) zk9 (by decide) zl_228 dX9_tellWord_29 ?_
      refine zr_iload_n 2 dX9_tellWord_32 rfl ?_
      replace hf := zb1_s hf
      obtain ⟨v5, h6, hf⟩ := hf
      refine zr_iald h6 dX9_tellWord_33 ?_
      cases hf
      exact zr_lv [] rfl hj2
    · rw [if_pos hc] at hf
      refine zr_aload_n 0 dX9_tellWord_19 rfl ?_
      replace hf := zb1_s hf
      obtain ⟨v7, h8, hf⟩ := hf
      refine zr_get (zm_gR_g h8) zk9 (by decide) zl_115 dX9_tellWord_20 ?_
      refine zr_iload_n 2 dX9_tellWord_23 rfl ?_
      replace hf := zb1_s hf
      obtain ⟨v9, h10, hf⟩ := hf
      refine zr_iald h10 dX9_tellWord_24 ?_
      refine zr_goto 34 dX9_tellWord_25 (by decide) ?_
      cases hf
      exact zr_lv [] rfl hj2
  · rw [if_pos hc] at hf
    refine zr_aload_n 0 dX9_tellWord_5 rfl ?_
    replace hf := zb1_s hf
    obtain ⟨v11, h12, hf⟩ := hf
    refine zr_get (zm_gR_g h12) zk9 (by decide) zl_116 dX9_tellWord_6 ?_
    refine zr_iload_n 2 dX9_tellWord_9 rfl ?_
    replace hf := zb1_s hf
    obtain ⟨v13, h14, hf⟩ := hf
    refine zr_iald h14 dX9_tellWord_10 ?_
    refine zr_goto 34 dX9_tellWord_11 (by decide) ?_
    cases hf
    exact zr_lv [] rfl hj2
theorem dX9_tellPerson_0 : decode cX9_tellPerson 0 = .ok (.iload_n 1, 1) := by decide +kernel
theorem dX9_tellPerson_1 : decode cX9_tellPerson 1 = .ok (.iconst 4, 1) := by decide +kernel
theorem dX9_tellPerson_2 : decode cX9_tellPerson 2 = .ok (.if_icmp .ne 12, 3) := by decide +kernel
theorem dX9_tellPerson_5 : decode cX9_tellPerson 5 = .ok (.aload_n 0, 1) := by decide +kernel
theorem dX9_tellPerson_6 : decode cX9_tellPerson 6 = .ok (.getfield 21, 3) := by decide +kernel
theorem dX9_tellPerson_9 : decode cX9_tellPerson 9 = .ok (.iload_n 2, 1) := by decide +kernel
theorem dX9_tellPerson_10 : decode cX9_tellPerson 10 = .ok (.iaload, 1) := by decide +kernel
theorem dX9_tellPerson_11 : decode cX9_tellPerson 11 = .ok (.goto 23, 3) := by decide +kernel
theorem dX9_tellPerson_14 : decode cX9_tellPerson 14 = .ok (.iload_n 1, 1) := by decide +kernel
theorem dX9_tellPerson_15 : decode cX9_tellPerson 15 = .ok (.iconst 5, 1) := by decide +kernel
theorem dX9_tellPerson_16 : decode cX9_tellPerson 16 = .ok (.if_icmp .ne 12, 3) := by decide +kernel
theorem dX9_tellPerson_19 : decode cX9_tellPerson 19 = .ok (.aload_n 0, 1) := by decide +kernel
theorem dX9_tellPerson_20 : decode cX9_tellPerson 20 = .ok (.getfield 24, 3) := by decide +kernel
theorem dX9_tellPerson_23 : decode cX9_tellPerson 23 = .ok (.iload_n 2, 1) := by decide +kernel
theorem dX9_tellPerson_24 : decode cX9_tellPerson 24 = .ok (.iaload, 1) := by decide +kernel
theorem dX9_tellPerson_25 : decode cX9_tellPerson 25 = .ok (.goto 9, 3) := by decide +kernel
theorem dX9_tellPerson_28 : decode cX9_tellPerson 28 = .ok (.aload_n 0, 1) := by decide +kernel
theorem dX9_tellPerson_29 : decode cX9_tellPerson 29 = .ok (.getfield 27, 3) := by decide +kernel
theorem dX9_tellPerson_32 : decode cX9_tellPerson 32 = .ok (.iload_n 2, 1) := by decide +kernel
theorem dX9_tellPerson_33 : decode cX9_tellPerson 33 = .ok (.iaload, 1) := by decide +kernel
theorem dX9_tellPerson_34 : decode cX9_tellPerson 34 = .ok (.ireturn, 1) := by decide +kernel
def fX9_tellPerson (μ : zM) (x0 : Nat) (x1 : Int32) (x2 : Int32) : Option (Int32) := zgd (zm_ck μ 9 x0) <|
  zb1 (if x1 = 4 then (
  zb1 (zm_gR μ 9 x0 5) fun v11 =>
  zb1 (zm_aI μ 0 v11 x2) fun v13 =>
  some v13)
  else (
  if x1 = 5 then (
  zb1 (zm_gR μ 9 x0 6) fun v7 =>
  zb1 (zm_aI μ 0 v7 x2) fun v9 =>
  some v9)
  else (
  zb1 (zm_gR μ 9 x0 7) fun v3 =>
  zb1 (zm_aI μ 0 v3 x2) fun v5 =>
  some v5))) fun s1 =>
  some s1
theorem fX9_tellPerson_ck {μ : zM} {x0 : Nat} {x1 : Int32} {x2 : Int32} {z : Int32} (h : fX9_tellPerson μ x0 x1 x2 = some z) : zm_ck μ 9 x0 = true := (zgd_s h).1
set_option maxHeartbeats 4000000 in
set_option maxRecDepth 100000 in
theorem cX9_tellPerson_ok {μ : zM} {x0 : Nat} {x1 : Int32} {x2 : Int32} {r : Int32} (hf : fX9_tellPerson μ x0 x1 x2 = some r) : zC yX9_tellPerson cX9_tellPerson 3 (some .int) 0 0 0 [.ref x0, .int x1, .int x2] μ (some (.int r)) μ := by
  replace hf := (zgd_s hf).2
  refine zC.of (by decide) (Nat.le_of_ble_eq_true rfl) (fun K hin => ?_)
  clear hin
  show zz K cX9_tellPerson (3, RX9, some .int, 0, 0, 0, some (.int r), μ) 0 0 0 [(0, .ref x0), (1, .int x1), (2, .int x2)] [] μ
  refine zr_iload_n 1 dX9_tellPerson_0 rfl ?_
  refine zr_iconst 4 dX9_tellPerson_1 (by decide) ?_
  replace hf := zb1_s hf
  obtain ⟨s1, hg, hf⟩ := hf
  have hj2 : zz K cX9_tellPerson (3, RX9, some .int, 0, 0, 0, some (.int r), μ) 0 0 34 [] [.int s1] μ := by
    cases hf
    exact zr_iret dX9_tellPerson_34
  clear hf
  have hf := hg
  clear hg
  refine zr_icmp_ne 14 dX9_tellPerson_2 (by decide) (fun hc => ?_) (fun hc => ?_)
  · rw [if_neg hc] at hf
    refine zr_iload_n 1 dX9_tellPerson_14 rfl ?_
    refine zr_iconst 5 dX9_tellPerson_15 (by decide) ?_
    refine zr_icmp_ne 28 dX9_tellPerson_16 (by decide) (fun hc => ?_) (fun hc => ?_)
    · rw [if_neg hc] at hf
      refine zr_aload_n 0 dX9_tellPerson_28 rfl ?_
      replace hf := zb1_s hf
      obtain ⟨v3, h4, hf⟩ := hf
      refine zr_get (zm_gR_g h4) zk9 (by decide) zl_231 dX9_tellPerson_29 ?_
      refine zr_iload_n 2 dX9_tellPerson_32 rfl ?_
      replace hf := zb1_s hf
      obtain ⟨v5, h6, hf⟩ := hf
      refine zr_iald h6 dX9_tellPerson_33 ?_
      cases hf
      exact zr_lv [] rfl hj2
    · rw [if_pos hc] at hf
      refine zr_aload_n 0 dX9_tellPerson_19 rfl ?_
      replace hf := zb1_s hf
      obtain ⟨v7, h8, hf⟩ := hf
      refine zr_get (zm_gR_g h8) zk9 (by decide) zl_230 dX9_tellPerson_20 ?_
      refine zr_iload_n 2 dX9_tellPerson_23 rfl ?_
      replace hf := zb1_s hf
      obtain ⟨v9, h10, hf⟩ := hf
      refine zr_iald h10 dX9_tellPerson_24 ?_
      refine zr_goto 34 dX9_tellPerson_25 (by decide) ?_
      cases hf
      exact zr_lv [] rfl hj2
  · rw [if_pos hc] at hf
    refine zr_aload_n 0 dX9_tellPerson_5 rfl ?_
    replace hf := zb1_s hf
    obtain ⟨v11, h12, hf⟩ := hf
    refine zr_get (zm_gR_g h12) zk9 (by decide) zl_229 dX9_tellPerson_6 ?_
    refine zr_iload_n 2 dX9_tellPerson_9 rfl ?_
    replace hf := zb1_s hf
    obtain ⟨v13, h14, hf⟩ := hf
    refine zr_iald h14 dX9_tellPerson_10 ?_
    refine zr_goto 34 dX9_tellPerson_11 (by decide) ?_
    cases hf
    exact zr_lv [] rfl hj2
