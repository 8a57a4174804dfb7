theorem zl_0 : Cond.methodLink RX0 3 Lib.objectInit ∈ zt := zt_at 472 (by decide +kernel)
theorem zl_1 : Cond.instanceMethod Lib.objectInit ∈ zt := zt_at 156 (by decide +kernel)
theorem zl_2 : Cond.code Lib.objectInit ⟨#[0xb1]⟩ 1 none ∈ zt := zt_at 157 (by decide +kernel)
theorem zl_3 : Cond.arrayClass .int ∈ zt := zt_at 237 (by decide +kernel)
theorem zl_4 : Cond.fieldLink RX0 9 "TwoEchoes$Company" "reached" "[I" ∈ zt := zt_at 473 (by decide +kernel)
theorem zl_5 : Cond.fieldLink RX0 15 "TwoEchoes$Company" "partner" "[I" ∈ zt := zt_at 475 (by decide +kernel)
theorem zl_6 : Cond.fieldLink RX0 18 "TwoEchoes$Company" "asked" "[I" ∈ zt := zt_at 477 (by decide +kernel)
theorem dX0_init_0 : decode cX0_init 0 = .ok (.aload_n 0, 1) := by decide +kernel
theorem dX0_init_1 : decode cX0_init 1 = .ok (.invokespecial 3, 3) := by decide +kernel
theorem dX0_init_4 : decode cX0_init 4 = .ok (.aload_n 0, 1) := by decide +kernel
theorem dX0_init_5 : decode cX0_init 5 = .ok (.bipush 6, 2) := by decide +kernel
theorem dX0_init_7 : decode cX0_init 7 = .ok (.newarray .int, 2) := by decide +kernel
theorem dX0_init_9 : decode cX0_init 9 = .ok (.putfield 9, 3) := by decide +kernel
theorem dX0_init_12 : decode cX0_init 12 = .ok (.aload_n 0, 1) := by decide +kernel
theorem dX0_init_13 : decode cX0_init 13 = .ok (.bipush 6, 2) := by decide +kernel
theorem dX0_init_15 : decode cX0_init 15 = .ok (.newarray .int, 2) := by decide +kernel
theorem dX0_init_17 : decode cX0_init 17 = .ok (.putfield 15, 3) := by decide +kernel
theorem dX0_init_20 : decode cX0_init 20 = .ok (.aload_n 0, 1) := by decide +kernel
theorem dX0_init_21 : decode cX0_init 21 = .ok (.bipush 6, 2) := by decide +kernel
theorem dX0_init_23 : decode cX0_init 23 = .ok (.newarray .int, 2) := by decide +kernel
theorem dX0_init_25 : decode cX0_init 25 = .ok (.putfield 18, 3) := by decide +kernel
theorem dX0_init_28 : decode cX0_init 28 = .ok (.return_, 1) := by decide +kernel
noncomputable def fX0_init (μ : zM) (x0 : Nat) : Option (zM) :=
  zb1 (some (zm_nw μ (.inl (0, 6, .inl (fun _ => 0))))) fun m1 =>
  zb1 (zm_p m1 0 x0 0 (.ref μ.2.1)) fun m3 =>
  zb1 (some (zm_nw m3 (.inl (0, 6, .inl (fun _ => 0))))) fun m5 =>
  zb1 (zm_p m5 0 x0 1 (.ref m3.2.1)) fun m7 =>
  zb1 (some (zm_nw m7 (.inl (0, 6, .inl (fun _ => 0))))) fun m9 =>
  zb1 (zm_p m9 0 x0 2 (.ref m7.2.1)) fun m11 =>
  some m11
set_option maxHeartbeats 4000000 in
set_option maxRecDepth 100000 in
theorem cX0_init_ok {μ : zM} {x0 : Nat} {mo : zM} (hf : fX0_init μ x0 = some mo) : zC yX0_init cX0_init 1 (none) 1 3 18 [.ref x0] μ (none) mo := by
  unfold fX0_init at hf
  refine zC.of (by decide) (Nat.le_of_ble_eq_true rfl) (fun K hin => ?_)
  replace hin := hin rfl
  show zz K cX0_init (1, RX0, none, 1, 3, 18, none, mo) 0 0 0 [(0, .ref x0)] [] μ
  refine zr_aload_n 0 dX0_init_0 rfl ?_
  refine zr_objInit zl_0 zl_1 zl_2 (Nat.le_of_ble_eq_true rfl) (Nat.le_of_ble_eq_true rfl) dX0_init_1 ?_
  refine zr_aload_n 0 dX0_init_4 rfl ?_
  refine zr_bipush 6 dX0_init_5 (by decide) ?_
  refine zr_newa (t := 0) (N := 6) (atype := .int) (by decide) rfl zl_3 (by decide) (by decide) (by decide) (Nat.le_of_ble_eq_true rfl) (Nat.le_of_ble_eq_true rfl) dX0_init_7 ?_
  replace hf := zb1_s hf
  obtain ⟨m1, h2, hf⟩ := hf
  obtain rfl := Option.some.inj h2
  replace hf := zb1_s hf
  obtain ⟨m3, h4, hf⟩ := hf
  refine zr_putF h4 hin rfl zk0 (by decide) zl_4 rfl rfl rfl dX0_init_9 ?_
  refine zr_aload_n 0 dX0_init_12 rfl ?_
  refine zr_bipush 6 dX0_init_13 (by decide) ?_
  refine zr_newa (t := 0) (N := 6) (atype := .int) (by decide) rfl zl_3 (by decide) (by decide) (by decide) (Nat.le_of_ble_eq_true rfl) (Nat.le_of_ble_eq_true rfl) dX0_init_15 ?_
  replace hf := zb1_s hf
  obtain ⟨m5, h6, hf⟩ := hf
  obtain rfl := Option.some.inj h6
  replace hf := zb1_s hf
  obtain ⟨m7, h8, hf⟩ := hf
  refine zr_putF h8 hin rfl zk0 (by decide) zl_5 rfl rfl rfl dX0_init_17 ?_
  refine zr_aload_n 0 dX0_init_20 rfl ?_
  refine zr_bipush 6 dX0_init_21 (by decide) ?_
  refine zr_newa (t := 0) (N := 6) (atype := .int) (by decide) rfl zl_3 (by decide) (by decide) (by decide) (Nat.le_of_ble_eq_true rfl) (Nat.le_of_ble_eq_true rfl) dX0_init_23 ?_
  replace hf := zb1_s hf
  obtain ⟨m9, h10, hf⟩ := hf
  obtain rfl := Option.some.inj h10
  replace hf := zb1_s hf
  obtain ⟨m11, h12, hf⟩ := hf
  refine zr_putF h12 hin rfl zk0 (by decide) zl_6 rfl rfl rfl dX0_init_25 ?_
  cases hf
  exact zr_vret dX0_init_28
theorem zl_7 : Cond.fieldLink RX9 39 "TwoEchoes$Valley" "sky" "[I" ∈ zt := zt_at 207 (by decide +kernel)
theorem dX9_isMute_0 : decode cX9_isMute 0 = .ok (.iload_n 1, 1) := by decide +kernel
theorem dX9_isMute_1 : decode cX9_isMute 1 = .ok (.iconst 1, 1) := by decide +kernel
theorem dX9_isMute_2 : decode cX9_isMute 2 = .ok (.if_icmp .ne 18, 3) := by decide +kernel
theorem dX9_isMute_5 : decode cX9_isMute 5 = .ok (.aload_n 0, 1) := by decide +kernel
theorem dX9_isMute_6 : decode cX9_isMute 6 = .ok (.getfield 39, 3) := by decide +kernel
theorem dX9_isMute_9 : decode cX9_isMute 9 = .ok (.iload_n 2, 1) := by decide +kernel
theorem dX9_isMute_10 : decode cX9_isMute 10 = .ok (.iaload, 1) := by decide +kernel
theorem dX9_isMute_11 : decode cX9_isMute 11 = .ok (.iconst 2, 1) := by decide +kernel
theorem dX9_isMute_12 : decode cX9_isMute 12 = .ok (.iand, 1) := by decide +kernel
theorem dX9_isMute_13 : decode cX9_isMute 13 = .ok (.ifCond .eq 7, 3) := by decide +kernel
theorem dX9_isMute_16 : decode cX9_isMute 16 = .ok (.iconst 1, 1) := by decide +kernel
theorem dX9_isMute_17 : decode cX9_isMute 17 = .ok (.goto 4, 3) := by decide +kernel
theorem dX9_isMute_20 : decode cX9_isMute 20 = .ok (.iconst 0, 1) := by decide +kernel
theorem dX9_isMute_21 : decode cX9_isMute 21 = .ok (.ireturn, 1) := by decide +kernel
noncomputable def fX9_isMute (μ : zM) (x0 : Nat) (x1 : Int32) (x2 : Int32) : Option (Int32) := zgd (zm_ck μ 9 x0) <|
  zb1 (if x1 = 1 then (
  zb1 (zm_gR μ 9 x0 12) fun v5 =>
  zb1 (zm_aI μ 0 v5 x2) fun v7 =>
  if (v7 &&& 2) = 0 then (
  some 0)
  else (
  some 1))
  else (
  some 0) : Option (Int32)) fun (s1 : Int32) =>
  zb1 (zbz s1) fun v3 =>
  some v3
theorem fX9_isMute_ck {μ : zM} {x0 : Nat} {x1 : Int32} {x2 : Int32} {z : Int32} (h : fX9_isMute μ x0 x1 x2 = some z) : zm_ck μ 9 x0 = true := (zgd_s h).1
set_option maxHeartbeats 4000000 in
set_option maxRecDepth 100000 in
theorem cX9_isMute_ok {μ : zM} {x0 : Nat} {x1 : Int32} {x2 : Int32} {r : Int32} (hf : fX9_isMute μ x0 x1 x2 = some r) : zC yX9_isMute cX9_isMute 3 (some .boolean) 0 0 0 [.ref x0, .int x1, .int x2] μ (some (.int r)) μ := by
  replace hf := (zgd_s hf).2
  refine zC.of (by decide) (Nat.le_of_ble_eq_true rfl) (fun K hin => ?_)
  clear hin
  show zz K cX9_isMute (3, RX9, some .boolean, 0, 0, 0, some (.int r), μ) 0 0 0 [(0, .ref x0), (1, .int x1), (2, .int x2)] [] μ
  refine zr_iload_n 1 dX9_isMute_0 rfl ?_
  refine zr_iconst 1 dX9_isMute_1 (by decide) ?_
  replace hf := zb1_s hf
  obtain ⟨s1, hg, hf⟩ := hf
  have hj2 : zz K cX9_isMute (3, RX9, some .boolean, 0, 0, 0, some (.int r), μ) 0 0 21 [] [.int s1] μ := by
    replace hf := zb1_s hf
    obtain ⟨v3, hn4, hf⟩ := hf
    replace hn4 := zbz_s hn4
    obtain ⟨hn4, rfl⟩ := hn4
    cases hf
    exact zr_zret hn4 dX9_isMute_21
  clear hf
  have hf := hg
  clear hg
  refine zr_icmp_ne 20 dX9_isMute_2 (by decide) (fun hc => ?_) (fun hc => ?_)
  · rw [if_neg hc] at hf
    refine zr_iconst 0 dX9_isMute_20 (by decide) ?_
    cases hf
    exact zr_lv [] rfl hj2
  · rw [if_pos hc] at hf
    refine zr_aload_n 0 dX9_isMute_5 rfl ?_
    replace hf := zb1_s hf
    obtain ⟨v5, h6, hf⟩ := hf
    refine zr_get (zm_gR_g h6) zk9 (by decide) zl_7 dX9_isMute_6 ?_
    refine zr_iload_n 2 dX9_isMute_9 rfl ?_
    replace hf := zb1_s hf
    obtain ⟨v7, h8, hf⟩ := hf
    refine zr_iald h8 dX9_isMute_10 ?_
    refine zr_iconst 2 dX9_isMute_11 (by decide) ?_
    refine zr_iand dX9_isMute_12 ?_
    refine zr_if_eq 20 dX9_isMute_13 (by decide) (fun hc => ?_) (fun hc => ?_)
    · rw [if_pos hc] at hf
      refine zr_iconst 0 dX9_isMute_20 (by decide) ?_
      cases hf
      exact zr_lv [] rfl hj2
    · rw [if_neg hc] at hf
      refine zr_iconst 1 dX9_isMute_16 (by decide) ?_
      refine zr_goto 21 dX9_isMute_17 (by decide) ?_
      cases hf
      exact zr_lv [] rfl hj2
theorem zl_8 : Cond.fieldLink RX9 42 "TwoEchoes$Valley" "wide" "I" ∈ zt := zt_at 171 (by decide +kernel)
theorem zl_9 : Cond.methodLink RX9 84 Lib.Math.abs.name ∈ zt := zt_at 810 (by decide +kernel)
theorem zl_10 : Cond.static Lib.Math.abs.name ∈ zt := zt_at 811 (by decide +kernel)
theorem zl_11 : Cond.initialized "java/lang/Math" ∈ zt := zt_at 141 (by decide +kernel)
theorem zl_12 : Cond.code Lib.Math.abs.name Lib.Math.abs.code 1 (some .int) ∈ zt := zt_at 812 (by decide +kernel)
theorem dX9_way_0 : decode cX9_way 0 = .ok (.iload_n 3, 1) := by decide +kernel
theorem dX9_way_1 : decode cX9_way 1 = .ok (.ifCond .ne 10, 3) := by decide +kernel
theorem dX9_way_4 : decode cX9_way 4 = .ok (.iload_n 1, 1) := by decide +kernel
theorem dX9_way_5 : decode cX9_way 5 = .ok (.iload_n 2, 1) := by decide +kernel
theorem dX9_way_6 : decode cX9_way 6 = .ok (.isub, 1) := by decide +kernel
theorem dX9_way_7 : decode cX9_way 7 = .ok (.invokestatic 84, 3) := by decide +kernel
theorem dX9_way_10 : decode cX9_way 10 = .ok (.ireturn, 1) := by decide +kernel
theorem dX9_way_11 : decode cX9_way 11 = .ok (.iload_n 3, 1) := by decide +kernel
theorem dX9_way_12 : decode cX9_way 12 = .ok (.iconst 1, 1) := by decide +kernel
theorem dX9_way_13 : decode cX9_way 13 = .ok (.if_icmp .ne 9, 3) := by decide +kernel
theorem dX9_way_16 : decode cX9_way 16 = .ok (.iload_n 1, 1) := by decide +kernel
theorem dX9_way_17 : decode cX9_way 17 = .ok (.iload_n 2, 1) := by decide +kernel
theorem dX9_way_18 : decode cX9_way 18 = .ok (.iadd, 1) := by decide +kernel
theorem dX9_way_19 : decode cX9_way 19 = .ok (.goto 13, 3) := by decide +kernel
theorem dX9_way_22 : decode cX9_way 22 = .ok (.iconst 2, 1) := by decide +kernel
theorem dX9_way_23 : decode cX9_way 23 = .ok (.aload_n 0, 1) := by decide +kernel
theorem dX9_way_24 : decode cX9_way 24 = .ok (.getfield 42, 3) := by decide +kernel
theorem dX9_way_27 : decode cX9_way 27 = .ok (.imul, 1) := by decide +kernel
theorem dX9_way_28 : decode cX9_way 28 = .ok (.iload_n 1, 1) := by decide +kernel
theorem dX9_way_29 : decode cX9_way 29 = .ok (.isub, 1) := by decide +kernel
theorem dX9_way_30 : decode cX9_way 30 = .ok (.iload_n 2, 1) := by decide +kernel
theorem dX9_way_31 : decode cX9_way 31 = .ok (.isub, 1) := by decide +kernel
theorem dX9_way_32 : decode cX9_way 32 = .ok (.ireturn, 1) := by decide +kernel
noncomputable def fX9_way (μ : zM) (x0 : Nat) (x1 : Int32) (x2 : Int32) (x3 : Int32) : Option (Int32) := zgd (zm_ck μ 9 x0) <|
  if x3 = 0 then (
  some (if 0 ≤ (x1 - x2) then (x1 - x2) else 0 - (x1 - x2) : Int32))
  else (
  zb1 (if x3 = 1 then (
  some (x1 + x2))
  else (
  zb1 (zm_gI μ 9 x0 0) fun v3 =>
  some (((2 * v3) - x1) - x2)) : Option (Int32)) fun (s1 : Int32) =>
  some s1)
theorem fX9_way_ck {μ : zM} {x0 : Nat} {x1 : Int32} {x2 : Int32} {x3 : Int32} {z : Int32} (h : fX9_way μ x0 x1 x2 x3 = some z) : zm_ck μ 9 x0 = true := (zgd_s h).1
set_option maxHeartbeats 4000000 in
set_option maxRecDepth 100000 in
theorem cX9_way_ok {μ : zM} {x0 : Nat} {x1 : Int32} {x2 : Int32} {x3 : Int32} {r : Int32} (hf : fX9_way μ x0 x1 x2 x3 = some r) : zC yX9_way cX9_way 4 (some .int) 1 0 0 [.ref x0, .int x1, .int x2, .int x3] μ (some (.int r)) μ := by
  replace hf := (zgd_s hf).2
  refine zC.of (by decide) (Nat.le_of_ble_eq_true rfl) (fun K hin => ?_)
  clear hin
  show zz K cX9_way (4, RX9, some .int, 1, 0, 0, some (.int r), μ) 0 0 0 [(0, .ref x0), (1, .int x1), (2, .int x2), (3, .int x3)] [] μ
  refine zr_iload_n 3 dX9_way_0 rfl ?_
  refine zr_if_ne 11 dX9_way_1 (by decide) (fun hc => ?_) (fun hc => ?_)
  · rw [if_neg hc] at hf
    refine zr_iload_n 3 dX9_way_11 rfl ?_
    refine zr_iconst 1 dX9_way_12 (by decide) ?_
    replace hf := zb1_s hf
    obtain ⟨s1, hg, hf⟩ := hf
    have hj2 : zz K cX9_way (4, RX9, some .int, 1, 0, 0, some (.int r), μ) 0 0 32 [] [.int s1] μ := by
      cases hf
      exact zr_iret dX9_way_32
    clear hf
    have hf := hg
    clear hg
    refine zr_icmp_ne 22 dX9_way_13 (by decide) (fun hc => ?_) (fun hc => ?_)
    · rw [if_neg hc] at hf
      refine zr_iconst 2 dX9_way_22 (by decide) ?_
      refine zr_aload_n 0 dX9_way_23 rfl ?_
      replace hf := zb1_s hf
      obtain ⟨v3, h4, hf⟩ := hf
      refine zr_get (zm_gI_g h4) zk9 (by decide) zl_8 dX9_way_24 ?_
      refine zr_imul dX9_way_27 ?_
      refine zr_iload_n 1 dX9_way_28 rfl ?_
      refine zr_isub dX9_way_29 ?_
      refine zr_iload_n 2 dX9_way_30 rfl ?_
      refine zr_isub dX9_way_31 ?_
      cases hf
      exact zr_lv [] rfl hj2
    · rw [if_pos hc] at hf
      refine zr_iload_n 1 dX9_way_16 rfl ?_
      refine zr_iload_n 2 dX9_way_17 rfl ?_
      refine zr_iadd dX9_way_18 ?_
      refine zr_goto 32 dX9_way_19 (by decide) ?_
      cases hf
      exact zr_lv [] rfl hj2
  · rw [if_pos hc] at hf
    refine zr_iload_n 1 dX9_way_4 rfl ?_
    refine zr_iload_n 2 dX9_way_5 rfl ?_
    refine zr_isub dX9_way_6 ?_
    refine zr_mabs zl_9 zl_10 zl_11 zl_12 (Nat.le_of_ble_eq_true rfl) (Nat.le_of_ble_eq_true rfl) (Nat.le_of_ble_eq_true rfl) (Nat.le_of_ble_eq_true rfl) dX9_way_7 ?_
    cases hf
    exact zr_iret dX9_way_10
theorem zl_13 : Cond.code yX9_isMute cX9_isMute 3 (some .boolean) ∈ zt := zt_at 818 (by decide +kernel)
theorem zl_14 : Cond.initialized RX9 ∈ zt := zt_at 131 (by decide +kernel)
theorem zvs_X9_isMute : zvS yX9_isMute cX9_isMute 3 (some .boolean) 2 := ⟨zl_13, zl_14, ⟨by decide +kernel, by decide +kernel, by decide +kernel⟩, by decide⟩
theorem zl_15 : Cond.methodLink RX9 90 yX9_isMute ∈ zt := zt_at 815 (by decide +kernel)
theorem zl_16 : Cond.instanceMethod yX9_isMute ∈ zt := zt_at 816 (by decide +kernel)
theorem zl_17 : Cond.selects RX9 yX9_isMute yX9_isMute ∈ zt := zt_at 817 (by decide +kernel)
theorem zl_18 : Cond.code yX9_way cX9_way 4 (some .int) ∈ zt := zt_at 809 (by decide +kernel)
theorem zvs_X9_way : zvS yX9_way cX9_way 4 (some .int) 3 := ⟨zl_18, zl_14, ⟨by decide +kernel, by decide +kernel, by decide +kernel⟩, by decide⟩
theorem zl_19 : Cond.methodLink RX9 97 yX9_way ∈ zt := zt_at 806 (by decide +kernel)
theorem zl_20 : Cond.instanceMethod yX9_way ∈ zt := zt_at 807 (by decide +kernel)
theorem zl_21 : Cond.selects RX9 yX9_way yX9_way ∈ zt := zt_at 808 (by decide +kernel)
theorem zl_22 : Cond.fieldLinkNest RX9 101 "TwoEchoes" "RANGE" "[I" "TwoEchoes" ∈ zn := zn_at 813 (by decide +kernel)
theorem dX9_carries_0 : decode cX9_carries 0 = .ok (.aload_n 0, 1) := by decide +kernel
theorem dX9_carries_1 : decode cX9_carries 1 = .ok (.iload 5, 2) := by decide +kernel
theorem dX9_carries_3 : decode cX9_carries 3 = .ok (.iload_n 3, 1) := by decide +kernel
theorem dX9_carries_4 : decode cX9_carries 4 = .ok (.invokevirtual 90, 3) := by decide +kernel
theorem dX9_carries_7 : decode cX9_carries 7 = .ok (.ifCond .ne 24, 3) := by decide +kernel
theorem dX9_carries_10 : decode cX9_carries 10 = .ok (.aload_n 0, 1) := by decide +kernel
theorem dX9_carries_11 : decode cX9_carries 11 = .ok (.iload_n 1, 1) := by decide +kernel
theorem dX9_carries_12 : decode cX9_carries 12 = .ok (.iload 4, 2) := by decide +kernel
theorem dX9_carries_14 : decode cX9_carries 14 = .ok (.iload 5, 2) := by decide +kernel
theorem dX9_carries_16 : decode cX9_carries 16 = .ok (.invokevirtual 97, 3) := by decide +kernel
theorem dX9_carries_19 : decode cX9_carries 19 = .ok (.getstatic 101, 3) := by decide +kernel
theorem dX9_carries_22 : decode cX9_carries 22 = .ok (.iload_n 2, 1) := by decide +kernel
theorem dX9_carries_23 : decode cX9_carries 23 = .ok (.iaload, 1) := by decide +kernel
theorem dX9_carries_24 : decode cX9_carries 24 = .ok (.if_icmp .gt 7, 3) := by decide +kernel
theorem dX9_carries_27 : decode cX9_carries 27 = .ok (.iconst 1, 1) := by decide +kernel
theorem dX9_carries_28 : decode cX9_carries 28 = .ok (.goto 4, 3) := by decide +kernel
theorem dX9_carries_31 : decode cX9_carries 31 = .ok (.iconst 0, 1) := by decide +kernel
theorem dX9_carries_32 : decode cX9_carries 32 = .ok (.ireturn, 1) := by decide +kernel
noncomputable def fX9_carries (μ : zM) (x0 : Nat) (x1 : Int32) (x2 : Int32) (x3 : Int32) (x4 : Int32) (x5 : Int32) : Option (Int32) := zgd (zm_ck μ 9 x0) <|
  zb1 (fX9_isMute μ x0 x5 x3) fun v2 =>
  zb1 (if v2 = 0 then (
  zb1 (fX9_way μ x0 x1 x4 x5) fun v8 =>
  zb1 (zm_aI μ 0 (μ.2.2 0) x2) fun v9 =>
  if v9 < v8 then (
  some 0)
  else (
  some 1))
  else (
  some 0) : Option (Int32)) fun (s3 : Int32) =>
  zb1 (zbz s3) fun v5 =>
  some v5
theorem fX9_carries_ck {μ : zM} {x0 : Nat} {x1 : Int32} {x2 : Int32} {x3 : Int32} {x4 : Int32} {x5 : Int32} {z : Int32} (h : fX9_carries μ x0 x1 x2 x3 x4 x5 = some z) : zm_ck μ 9 x0 = true := (zgd_s h).1
set_option maxHeartbeats 4000000 in
set_option maxRecDepth 100000 in
theorem cX9_carries_ok {μ : zM} {x0 : Nat} {x1 : Int32} {x2 : Int32} {x3 : Int32} {x4 : Int32} {x5 : Int32} {r : Int32} (hf : fX9_carries μ x0 x1 x2 x3 x4 x5 = some r) : zC yX9_carries cX9_carries 6 (some .boolean) 2 0 0 [.ref x0, .int x1, .int x2, .int x3, .int x4, .int x5] μ (some (.int r)) μ := by
  replace hf := (zgd_s hf).2
  refine zC.of (by decide) (Nat.le_of_ble_eq_true rfl) (fun K hin => ?_)
  clear hin
  show zz K cX9_carries (6, RX9, some .boolean, 2, 0, 0, some (.int r), μ) 0 0 0 [(0, .ref x0), (1, .int x1), (2, .int x2), (3, .int x3), (4, .int x4), (5, .int x5)] [] μ
  refine zr_aload_n 0 dX9_carries_0 rfl ?_
  refine zr_iload 5 dX9_carries_1 rfl ?_
  refine zr_iload_n 3 dX9_carries_3 rfl ?_
  replace hf := zb1_s hf
  obtain ⟨v2, h1, hf⟩ := hf
  refine zr_callV (ci := 9) [.int x5, .int x3] (cX9_isMute_ok h1) zvs_X9_isMute zl_16 zl_17 (fX9_isMute_ck h1) rfl rfl zl_15 rfl (Nat.le_of_ble_eq_true rfl) (Nat.le_of_ble_eq_true rfl) (Nat.le_of_ble_eq_true rfl) (Nat.le_of_ble_eq_true rfl) dX9_carries_4 rfl ?_
  replace hf := zb1_s hf
  obtain ⟨s3, hg, hf⟩ := hf
  have hj4 : zz K cX9_carries (6, RX9, some .boolean, 2, 0, 0, some (.int r), μ) 0 0 32 [] [.int s3] μ := by
    replace hf := zb1_s hf
    obtain ⟨v5, hn6, hf⟩ := hf
    replace hn6 := zbz_s hn6
    obtain ⟨hn6, rfl⟩ := hn6
    cases hf
    exact zr_zret hn6 dX9_carries_32
  clear hf
  have hf := hg
  clear hg
  refine zr_if_ne 31 dX9_carries_7 (by decide) (fun hc => ?_) (fun hc => ?_)
  · rw [if_neg hc] at hf
    refine zr_iconst 0 dX9_carries_31 (by decide) ?_
    cases hf
    exact zr_lv [] rfl hj4
  · rw [if_pos hc] at hf
    refine zr_aload_n 0 dX9_carries_10 rfl ?_
    refine zr_iload_n 1 dX9_carries_11 rfl ?_
    refine zr_iload 4 dX9_carries_12 rfl ?_
    refine zr_iload 5 dX9_carries_14 rfl ?_
    replace hf := zb1_s hf
    obtain ⟨v8, h7, hf⟩ := hf
    refine zr_callV (ci := 9) [.int x1, .int x4, .int x5] (cX9_way_ok h7) zvs_X9_way zl_20 zl_21 (fX9_way_ck h7) rfl rfl zl_19 rfl (Nat.le_of_ble_eq_true rfl) (Nat.le_of_ble_eq_true rfl) (Nat.le_of_ble_eq_true rfl) (Nat.le_of_ble_eq_true rfl) dX9_carries_16 rfl ?_
    refine zr_getsN (k := 0) (by decide) zl_22 dX9_carries_19 ?_
    refine zr_iload_n 2 dX9_carries_22 rfl ?_
    replace hf := zb1_s hf
    obtain ⟨v9, h10, hf⟩ := hf
    refine zr_iald h10 dX9_carries_23 ?_
    refine zr_icmp_gt 31 dX9_carries_24 (by decide) (fun hc => ?_) (fun hc => ?_)
    · rw [if_pos hc] at hf
      refine zr_iconst 0 dX9_carries_31 (by decide) ?_
      cases hf
      exact zr_lv [] rfl hj4
    · rw [if_neg hc] at hf
      refine zr_iconst 1 dX9_carries_27 (by decide) ?_
      refine zr_goto 32 dX9_carries_28 (by decide) ?_
      cases hf
      exact zr_lv [] rfl hj4
theorem zl_23 : Cond.fieldLink RX0 21 "TwoEchoes$Valley" "people" "I" ∈ zt := zt_at 187 (by decide +kernel)
theorem zl_24 : Cond.fieldLink RX0 27 "TwoEchoes$Valley" "place" "[I" ∈ zt := zt_at 197 (by decide +kernel)
theorem zl_25 : Cond.code yX9_carries cX9_carries 6 (some .boolean) ∈ zt := zt_at 938 (by decide +kernel)
theorem zvs_X9_carries : zvS yX9_carries cX9_carries 6 (some .boolean) 5 := ⟨zl_25, zl_14, ⟨by decide +kernel, by decide +kernel, by decide +kernel⟩, by decide⟩
theorem zl_26 : Cond.methodLink RX0 30 yX9_carries ∈ zt := zt_at 935 (by decide +kernel)
theorem zl_27 : Cond.instanceMethod yX9_carries ∈ zt := zt_at 936 (by decide +kernel)
theorem zl_28 : Cond.selects RX9 yX9_carries yX9_carries ∈ zt := zt_at 937 (by decide +kernel)
theorem dX0_isSilent_0 : decode cX0_isSilent 0 = .ok (.iconst 0, 1) := by decide +kernel
theorem dX0_isSilent_1 : decode cX0_isSilent 1 = .ok (.istore 5, 2) := by decide +kernel
theorem dX0_isSilent_3 : decode cX0_isSilent 3 = .ok (.iload 5, 2) := by decide +kernel
theorem dX0_isSilent_5 : decode cX0_isSilent 5 = .ok (.aload_n 0, 1) := by decide +kernel
theorem dX0_isSilent_6 : decode cX0_isSilent 6 = .ok (.getfield 21, 3) := by decide +kernel
theorem dX0_isSilent_9 : decode cX0_isSilent 9 = .ok (.if_icmp .ge 58, 3) := by decide +kernel
theorem dX0_isSilent_12 : decode cX0_isSilent 12 = .ok (.iload_n 2, 1) := by decide +kernel
theorem dX0_isSilent_13 : decode cX0_isSilent 13 = .ok (.iload 5, 2) := by decide +kernel
theorem dX0_isSilent_15 : decode cX0_isSilent 15 = .ok (.ishr, 1) := by decide +kernel
theorem dX0_isSilent_16 : decode cX0_isSilent 16 = .ok (.iconst 1, 1) := by decide +kernel
theorem dX0_isSilent_17 : decode cX0_isSilent 17 = .ok (.iand, 1) := by decide +kernel
theorem dX0_isSilent_18 : decode cX0_isSilent 18 = .ok (.ifCond .ne 6, 3) := by decide +kernel
theorem dX0_isSilent_21 : decode cX0_isSilent 21 = .ok (.goto 40, 3) := by decide +kernel
theorem dX0_isSilent_24 : decode cX0_isSilent 24 = .ok (.iconst 0, 1) := by decide +kernel
theorem dX0_isSilent_25 : decode cX0_isSilent 25 = .ok (.istore 6, 2) := by decide +kernel
theorem dX0_isSilent_27 : decode cX0_isSilent 27 = .ok (.iload 6, 2) := by decide +kernel
theorem dX0_isSilent_29 : decode cX0_isSilent 29 = .ok (.iconst 2, 1) := by decide +kernel
theorem dX0_isSilent_30 : decode cX0_isSilent 30 = .ok (.if_icmp .gt 31, 3) := by decide +kernel
theorem dX0_isSilent_33 : decode cX0_isSilent 33 = .ok (.aload_n 0, 1) := by decide +kernel
theorem dX0_isSilent_34 : decode cX0_isSilent 34 = .ok (.iload_n 1, 1) := by decide +kernel
theorem dX0_isSilent_35 : decode cX0_isSilent 35 = .ok (.iload_n 3, 1) := by decide +kernel
theorem dX0_isSilent_36 : decode cX0_isSilent 36 = .ok (.iload 4, 2) := by decide +kernel
theorem dX0_isSilent_38 : decode cX0_isSilent 38 = .ok (.aload_n 0, 1) := by decide +kernel
theorem dX0_isSilent_39 : decode cX0_isSilent 39 = .ok (.getfield 27, 3) := by decide +kernel
theorem dX0_isSilent_42 : decode cX0_isSilent 42 = .ok (.iload 5, 2) := by decide +kernel
theorem dX0_isSilent_44 : decode cX0_isSilent 44 = .ok (.iaload, 1) := by decide +kernel
theorem dX0_isSilent_45 : decode cX0_isSilent 45 = .ok (.iload 6, 2) := by decide +kernel
theorem dX0_isSilent_47 : decode cX0_isSilent 47 = .ok (.invokevirtual 30, 3) := by decide +kernel
theorem dX0_isSilent_50 : decode cX0_isSilent 50 = .ok (.ifCond .eq 5, 3) := by decide +kernel
theorem dX0_isSilent_53 : decode cX0_isSilent 53 = .ok (.iconst 0, 1) := by decide +kernel
theorem dX0_isSilent_54 : decode cX0_isSilent 54 = .ok (.ireturn, 1) := by decide +kernel
theorem dX0_isSilent_55 : decode cX0_isSilent 55 = .ok (.iinc 6 1, 3) := by decide +kernel
theorem dX0_isSilent_58 : decode cX0_isSilent 58 = .ok (.goto (-31), 3) := by decide +kernel
theorem dX0_isSilent_61 : decode cX0_isSilent 61 = .ok (.iinc 5 1, 3) := by decide +kernel
theorem dX0_isSilent_64 : decode cX0_isSilent 64 = .ok (.goto (-61), 3) := by decide +kernel
theorem dX0_isSilent_67 : decode cX0_isSilent 67 = .ok (.iconst 1, 1) := by decide +kernel
theorem dX0_isSilent_68 : decode cX0_isSilent 68 = .ok (.ireturn, 1) := by decide +kernel
noncomputable def fX0_isSilent_l27 (F2 : Int32 → Option (Int32)) (x5_1 : Int32) (μ : zM) (x0 : Nat) (x1 : Int32) (x3 : Int32) (x4 : Int32) (F7 : Int32 → Option (Int32)) (x6_6 : Int32) : Option (Int32) :=
  if 2 < x6_6 then (
  F2 (x5_1 + 1))
  else (
  zb1 (zm_gR μ 9 x0 6) fun v9 =>
  zb1 (zm_aI μ 0 v9 x5_1) fun v11 =>
  zb1 (fX9_carries μ x0 x1 x3 x4 v11 x6_6) fun v14 =>
  if v14 = 0 then (
  F7 (x6_6 + 1))
  else (
  some 0))
noncomputable def fX0_isSilent_l3 (μ : zM) (x0 : Nat) (x2 : Int32) (x1 : Int32) (x3 : Int32) (x4 : Int32) (F2 : Int32 → Option (Int32)) (x5_1 : Int32) : Option (Int32) :=
  zb1 (zm_gI μ 9 x0 4) fun v4 =>
  if v4 ≤ x5_1 then (
  some 1)
  else (
  if ((x2 >>> (x5_1 &&& 31)) &&& 1) = 0 then (
  F2 (x5_1 + 1))
  else (
  zf1 (fX0_isSilent_l27 F2 x5_1 μ x0 x1 x3 x4) zfu 0))
noncomputable def fX0_isSilent (μ : zM) (x0 : Nat) (x1 : Int32) (x2 : Int32) (x3 : Int32) (x4 : Int32) : Option (Int32) :=
  zf1 (fX0_isSilent_l3 μ x0 x2 x1 x3 x4) zfu 0
set_option maxHeartbeats 4000000 in
set_option maxRecDepth 100000 in
theorem cX0_isSilent_ok {μ : zM} {x0 : Nat} {x1 : Int32} {x2 : Int32} {x3 : Int32} {x4 : Int32} {r : Int32} (hf : fX0_isSilent μ x0 x1 x2 x3 x4 = some r) : zC yX0_isSilent cX0_isSilent 7 (some .boolean) 3 0 0 [.ref x0, .int x1, .int x2, .int x3, .int x4] μ (some (.int r)) μ := by
  unfold fX0_isSilent at hf
  refine zC.of (by decide) (Nat.le_of_ble_eq_true rfl) (fun K hin => ?_)
  clear hin
  show zz K cX0_isSilent (7, RX0, some .boolean, 3, 0, 0, some (.int r), μ) 0 0 0 [(0, .ref x0), (1, .int x1), (2, .int x2), (3, .int x3), (4, .int x4)] [] μ
  refine zr_iconst 0 dX0_isSilent_0 (by decide) ?_
  refine zr_istore [(5, .int 0), (0, .ref x0), (1, .int x1), (2, .int x2), (3, .int x3), (4, .int x4)] dX0_isSilent_1 (Nat.le_of_ble_eq_true rfl) rfl ?_
  have hL16 : ∀ (n : Nat) (x5_1 : Int32), zf1 (fX0_isSilent_l3 μ x0 x2 x1 x3 x4) n x5_1 = some r → zz K cX0_isSilent (7, RX0, some .boolean, 3, 0, 0, some (.int r), μ) 0 0 3 [(0, .ref x0), (1, .int x1), (2, .int x2), (3, .int x3), (4, .int x4), (5, .int x5_1)] [] μ := by
    intro n
    induction n with
    | zero => intro x5_1 hf; cases hf
    | succ n ih3 =>
      intro x5_1 hf
      replace hf := zf1_s hf
      generalize zf1 (fX0_isSilent_l3 μ x0 x2 x1 x3 x4) n = F2 at hf ih3
      unfold fX0_isSilent_l3 at hf
      refine zr_iload 5 dX0_isSilent_3 rfl ?_
      refine zr_aload_n 0 dX0_isSilent_5 rfl ?_
      replace hf := zb1_s hf
      obtain ⟨v4, h5, hf⟩ := hf
      refine zr_get (zm_gI_g h5) zk9 (by decide) zl_23 dX0_isSilent_6 ?_
      refine zr_icmp_ge 67 dX0_isSilent_9 (by decide) (fun hc => ?_) (fun hc => ?_)
      · rw [if_pos hc] at hf
        refine zr_iconst 1 dX0_isSilent_67 (by decide) ?_
        cases hf
        exact zr_zret rfl dX0_isSilent_68
      · rw [if_neg hc] at hf
        refine zr_iload_n 2 dX0_isSilent_12 rfl ?_
        refine zr_iload 5 dX0_isSilent_13 rfl ?_
        refine zr_ishr dX0_isSilent_15 ?_
        refine zr_iconst 1 dX0_isSilent_16 (by decide) ?_
        refine zr_iand dX0_isSilent_17 ?_
        refine zr_if_ne 24 dX0_isSilent_18 (by decide) (fun hc => ?_) (fun hc => ?_)
        · rw [if_neg hc] at hf
          refine zr_iconst 0 dX0_isSilent_24 (by decide) ?_
          refine zr_istore [(6, .int 0), (0, .ref x0), (1, .int x1), (2, .int x2), (3, .int x3), (4, .int x4), (5, .int x5_1)] dX0_isSilent_25 (Nat.le_of_ble_eq_true rfl) rfl ?_
          have hL15 : ∀ (n : Nat) (x6_6 : Int32), zf1 (fX0_isSilent_l27 F2 x5_1 μ x0 x1 x3 x4) n x6_6 = some r → zz K cX0_isSilent (7, RX0, some .boolean, 3, 0, 0, some (.int r), μ) 0 0 27 [(0, .ref x0), (1, .int x1), (2, .int x2), (3, .int x3), (4, .int x4), (5, .int x5_1), (6, .int x6_6)] [] μ := by
            intro n
            induction n with
            | zero => intro x6_6 hf; cases hf
            | succ n ih8 =>
              intro x6_6 hf
              replace hf := zf1_s hf
              generalize zf1 (fX0_isSilent_l27 F2 x5_1 μ x0 x1 x3 x4) n = F7 at hf ih8
              unfold fX0_isSilent_l27 at hf
              refine zr_iload 6 dX0_isSilent_27 rfl ?_
              refine zr_iconst 2 dX0_isSilent_29 (by decide) ?_
              refine zr_icmp_gt 61 dX0_isSilent_30 (by decide) (fun hc => ?_) (fun hc => ?_)
              · rw [if_pos hc] at hf
                refine zr_iinc (j := 5) (x5_1 + 1) [(5, .int (x5_1 + 1)), (0, .ref x0), (1, .int x1), (2, .int x2), (3, .int x3), (4, .int x4), (6, .int x6_6)] dX0_isSilent_61 rfl rfl (Nat.le_of_ble_eq_true rfl) rfl ?_
                refine zr_goto 3 dX0_isSilent_64 (by decide) ?_
                exact zr_lv [1, 2, 3, 4, 5, 0] rfl (ih3 (x5_1 + 1) hf)
              · rw [if_neg hc] at hf
                refine zr_aload_n 0 dX0_isSilent_33 rfl ?_
                refine zr_iload_n 1 dX0_isSilent_34 rfl ?_
                refine zr_iload_n 3 dX0_isSilent_35 rfl ?_
                refine zr_iload 4 dX0_isSilent_36 rfl ?_
                refine zr_aload_n 0 dX0_isSilent_38 rfl ?_
                replace hf := zb1_s hf
                obtain ⟨v9, h10, hf⟩ := hf
                refine zr_get (zm_gR_g h10) zk9 (by decide) zl_24 dX0_isSilent_39 ?_
                refine zr_iload 5 dX0_isSilent_42 rfl ?_
                replace hf := zb1_s hf
                obtain ⟨v11, h12, hf⟩ := hf
                refine zr_iald h12 dX0_isSilent_44 ?_
                refine zr_iload 6 dX0_isSilent_45 rfl ?_
                replace hf := zb1_s hf
                obtain ⟨v14, h13, hf⟩ := hf
                refine zr_callV (ci := 9) [.int x1, .int x3, .int x4, .int v11, .int x6_6] (cX9_carries_ok h13) zvs_X9_carries zl_27 zl_28 (fX9_carries_ck h13) rfl rfl zl_26 rfl (Nat.le_of_ble_eq_true rfl) (Nat.le_of_ble_eq_true rfl) (Nat.le_of_ble_eq_true rfl) (Nat.le_of_ble_eq_true rfl) dX0_isSilent_47 rfl ?_
                refine zr_if_eq 55 dX0_isSilent_50 (by decide) (fun hc => ?_) (fun hc => ?_)
                · rw [if_pos hc] at hf
                  refine zr_iinc (j := 6) (x6_6 + 1) [(6, .int (x6_6 + 1)), (0, .ref x0), (1, .int x1), (2, .int x2), (3, .int x3), (4, .int x4), (5, .int x5_1)] dX0_isSilent_55 rfl rfl (Nat.le_of_ble_eq_true rfl) rfl ?_
                  refine zr_goto 27 dX0_isSilent_58 (by decide) ?_
                  exact zr_lv [1, 2, 3, 4, 5, 6, 0] rfl (ih8 (x6_6 + 1) hf)
                · rw [if_neg hc] at hf
                  refine zr_iconst 0 dX0_isSilent_53 (by decide) ?_
                  cases hf
                  exact zr_zret rfl dX0_isSilent_54
          exact zr_lv [1, 2, 3, 4, 5, 6, 0] rfl (hL15 _ 0 hf)
        · rw [if_pos hc] at hf
          refine zr_goto 61 dX0_isSilent_21 (by decide) ?_
          refine zr_iinc (j := 5) (x5_1 + 1) [(5, .int (x5_1 + 1)), (0, .ref x0), (1, .int x1), (2, .int x2), (3, .int x3), (4, .int x4)] dX0_isSilent_61 rfl rfl (Nat.le_of_ble_eq_true rfl) rfl ?_
          refine zr_goto 3 dX0_isSilent_64 (by decide) ?_
          exact zr_lv [1, 2, 3, 4, 5, 0] rfl (ih3 (x5_1 + 1) hf)
  exact zr_lv [1, 2, 3, 4, 5, 0] rfl (hL16 _ 0 hf)
theorem zl_29 : Cond.fieldLink RX0 34 "TwoEchoes$Valley" "wide" "I" ∈ zt := zt_at 172 (by decide +kernel)
theorem zl_30 : Cond.code yX0_isSilent cX0_isSilent 7 (some .boolean) ∈ zt := zt_at 934 (by decide +kernel)
theorem zl_31 : Cond.initialized RX0 ∈ zt := zt_at 139 (by decide +kernel)
theorem zvs_X0_isSilent : zvS yX0_isSilent cX0_isSilent 7 (some .boolean) 5 := ⟨zl_30, zl_31, ⟨by decide +kernel, by decide +kernel, by decide +kernel⟩, by decide⟩
theorem zl_32 : Cond.methodLink RX0 37 yX0_isSilent ∈ zt := zt_at 932 (by decide +kernel)
theorem zl_33 : Cond.static yX0_isSilent ∈ zt := zt_at 933 (by decide +kernel)
theorem dX0_silentPlaces_0 : decode cX0_silentPlaces 0 = .ok (.iconst 0, 1) := by decide +kernel
theorem dX0_silentPlaces_1 : decode cX0_silentPlaces 1 = .ok (.istore 4, 2) := by decide +kernel
theorem dX0_silentPlaces_3 : decode cX0_silentPlaces 3 = .ok (.iconst 0, 1) := by decide +kernel
theorem dX0_silentPlaces_4 : decode cX0_silentPlaces 4 = .ok (.istore 5, 2) := by decide +kernel
theorem dX0_silentPlaces_6 : decode cX0_silentPlaces 6 = .ok (.iload 5, 2) := by decide +kernel
theorem dX0_silentPlaces_8 : decode cX0_silentPlaces 8 = .ok (.aload_n 0, 1) := by decide +kernel
theorem dX0_silentPlaces_9 : decode cX0_silentPlaces 9 = .ok (.getfield 34, 3) := by decide +kernel
theorem dX0_silentPlaces_12 : decode cX0_silentPlaces 12 = .ok (.if_icmp .gt 24, 3) := by decide +kernel
theorem dX0_silentPlaces_15 : decode cX0_silentPlaces 15 = .ok (.aload_n 0, 1) := by decide +kernel
theorem dX0_silentPlaces_16 : decode cX0_silentPlaces 16 = .ok (.iload 5, 2) := by decide +kernel
theorem dX0_silentPlaces_18 : decode cX0_silentPlaces 18 = .ok (.iload_n 1, 1) := by decide +kernel
theorem dX0_silentPlaces_19 : decode cX0_silentPlaces 19 = .ok (.iload_n 2, 1) := by decide +kernel
theorem dX0_silentPlaces_20 : decode cX0_silentPlaces 20 = .ok (.iload_n 3, 1) := by decide +kernel
theorem dX0_silentPlaces_21 : decode cX0_silentPlaces 21 = .ok (.invokestatic 37, 3) := by decide +kernel
theorem dX0_silentPlaces_24 : decode cX0_silentPlaces 24 = .ok (.ifCond .eq 6, 3) := by decide +kernel
theorem dX0_silentPlaces_27 : decode cX0_silentPlaces 27 = .ok (.iinc 4 1, 3) := by decide +kernel
theorem dX0_silentPlaces_30 : decode cX0_silentPlaces 30 = .ok (.iinc 5 1, 3) := by decide +kernel
theorem dX0_silentPlaces_33 : decode cX0_silentPlaces 33 = .ok (.goto (-27), 3) := by decide +kernel
theorem dX0_silentPlaces_36 : decode cX0_silentPlaces 36 = .ok (.iload 4, 2) := by decide +kernel
theorem dX0_silentPlaces_38 : decode cX0_silentPlaces 38 = .ok (.ireturn, 1) := by decide +kernel
noncomputable def fX0_silentPlaces_l6 (μ : zM) (x0 : Nat) (x1 : Int32) (x2 : Int32) (x3 : Int32) (F3 : Int32 → Int32 → Option (Int32)) (x4_1 : Int32) (x5_2 : Int32) : Option (Int32) :=
  zb1 (zm_gI μ 9 x0 0) fun v7 =>
  if v7 < x5_2 then (
  some x4_1)
  else (
  zb1 (fX0_isSilent μ x0 x5_2 x1 x2 x3) fun v10 =>
  zb1 (if v10 = 0 then (
  some x4_1)
  else (
  some (x4_1 + 1)) : Option (Int32)) fun (x4_11 : Int32) =>
  F3 x4_11 (x5_2 + 1))
noncomputable def fX0_silentPlaces (μ : zM) (x0 : Nat) (x1 : Int32) (x2 : Int32) (x3 : Int32) : Option (Int32) :=
  zb1 (zf2 (fX0_silentPlaces_l6 μ x0 x1 x2 x3) zfu 0 0 : Option (Int32)) fun (x4_5 : Int32) =>
  some x4_5
set_option maxHeartbeats 4000000 in
set_option maxRecDepth 100000 in
theorem cX0_silentPlaces_ok {μ : zM} {x0 : Nat} {x1 : Int32} {x2 : Int32} {x3 : Int32} {r : Int32} (hf : fX0_silentPlaces μ x0 x1 x2 x3 = some r) : zC yX0_silentPlaces cX0_silentPlaces 6 (some .int) 4 0 0 [.ref x0, .int x1, .int x2, .int x3] μ (some (.int r)) μ := by
  unfold fX0_silentPlaces at hf
  refine zC.of (by decide) (Nat.le_of_ble_eq_true rfl) (fun K hin => ?_)
  clear hin
  show zz K cX0_silentPlaces (6, RX0, some .int, 4, 0, 0, some (.int r), μ) 0 0 0 [(0, .ref x0), (1, .int x1), (2, .int x2), (3, .int x3)] [] μ
  refine zr_iconst 0 dX0_silentPlaces_0 (by decide) ?_
  refine zr_istore [(4, .int 0), (0, .ref x0), (1, .int x1), (2, .int x2), (3, .int x3)] dX0_silentPlaces_1 (Nat.le_of_ble_eq_true rfl) rfl ?_
  refine zr_iconst 0 dX0_silentPlaces_3 (by decide) ?_
  refine zr_istore [(5, .int 0), (4, .int 0), (0, .ref x0), (1, .int x1), (2, .int x2), (3, .int x3)] dX0_silentPlaces_4 (Nat.le_of_ble_eq_true rfl) rfl ?_
  replace hf := zb1_s hf
  obtain ⟨x4_5, hg, hf⟩ := hf
  have hj6 : zz K cX0_silentPlaces (6, RX0, some .int, 4, 0, 0, some (.int r), μ) 0 0 36 [(4, .int x4_5)] [] μ := by
    refine zr_iload 0 dX0_silentPlaces_36 rfl ?_
    cases hf
    exact zr_iret dX0_silentPlaces_38
  clear hf
  have hf := hg
  clear hg
  have hL13 : ∀ (n : Nat) (x4_1 : Int32) (x5_2 : Int32), zf2 (fX0_silentPlaces_l6 μ x0 x1 x2 x3) n x4_1 x5_2 = some x4_5 → zz K cX0_silentPlaces (6, RX0, some .int, 4, 0, 0, some (.int r), μ) 0 0 6 [(0, .ref x0), (1, .int x1), (2, .int x2), (3, .int x3), (4, .int x4_1), (5, .int x5_2)] [] μ := by
    intro n
    induction n with
    | zero => intro x4_1 x5_2 hf; cases hf
    | succ n ih4 =>
      intro x4_1 x5_2 hf
      replace hf := zf2_s hf
      generalize zf2 (fX0_silentPlaces_l6 μ x0 x1 x2 x3) n = F3 at hf ih4
      unfold fX0_silentPlaces_l6 at hf
      refine zr_iload 5 dX0_silentPlaces_6 rfl ?_
      refine zr_aload_n 0 dX0_silentPlaces_8 rfl ?_
      replace hf := zb1_s hf
      obtain ⟨v7, h8, hf⟩ := hf
      refine zr_get (zm_gI_g h8) zk9 (by decide) zl_29 dX0_silentPlaces_9 ?_
      refine zr_icmp_gt 36 dX0_silentPlaces_12 (by decide) (fun hc => ?_) (fun hc => ?_)
      · rw [if_pos hc] at hf
        cases hf
        exact zr_lv [4] rfl hj6
      · rw [if_neg hc] at hf
        refine zr_aload_n 0 dX0_silentPlaces_15 rfl ?_
        refine zr_iload 5 dX0_silentPlaces_16 rfl ?_
        refine zr_iload_n 1 dX0_silentPlaces_18 rfl ?_
        refine zr_iload_n 2 dX0_silentPlaces_19 rfl ?_
        refine zr_iload_n 3 dX0_silentPlaces_20 rfl ?_
        replace hf := zb1_s hf
        obtain ⟨v10, h9, hf⟩ := hf
        refine zr_callS [.ref x0, .int x5_2, .int x1, .int x2, .int x3] (cX0_isSilent_ok h9) zvs_X0_isSilent zl_33 zl_32 rfl (Nat.le_of_ble_eq_true rfl) (Nat.le_of_ble_eq_true rfl) (Nat.le_of_ble_eq_true rfl) (Nat.le_of_ble_eq_true rfl) dX0_silentPlaces_21 rfl ?_
        replace hf := zb1_s hf
        obtain ⟨x4_11, hg, hf⟩ := hf
        have hj12 : zz K cX0_silentPlaces (6, RX0, some .int, 4, 0, 0, some (.int r), μ) 0 0 30 [(0, .ref x0), (1, .int x1), (2, .int x2), (3, .int x3), (4, .int x4_11), (5, .int x5_2)] [] μ := by
          refine zr_iinc (j := 5) (x5_2 + 1) [(5, .int (x5_2 + 1)), (0, .ref x0), (1, .int x1), (2, .int x2), (3, .int x3), (4, .int x4_11)] dX0_silentPlaces_30 rfl rfl (Nat.le_of_ble_eq_true rfl) rfl ?_
          refine zr_goto 6 dX0_silentPlaces_33 (by decide) ?_
          exact zr_lv [1, 2, 3, 4, 5, 0] rfl (ih4 x4_11 (x5_2 + 1) hf)
        clear hf
        have hf := hg
        clear hg
        refine zr_if_eq 30 dX0_silentPlaces_24 (by decide) (fun hc => ?_) (fun hc => ?_)
        · rw [if_pos hc] at hf
          cases hf
          exact zr_lv [0, 1, 2, 3, 4, 5] rfl hj12
        · rw [if_neg hc] at hf
          refine zr_iinc (j := 4) (x4_1 + 1) [(4, .int (x4_1 + 1)), (0, .ref x0), (1, .int x1), (2, .int x2), (3, .int x3), (5, .int x5_2)] dX0_silentPlaces_27 rfl rfl (Nat.le_of_ble_eq_true rfl) rfl ?_
          cases hf
          exact zr_lv [1, 2, 3, 4, 0, 5] rfl hj12
  exact zr_lv [2, 3, 4, 5, 1, 0] rfl (hL13 _ 0 0 hf)
theorem dX0_leastSilent_0 : decode cX0_leastSilent 0 = .ok (.iconst 0, 1) := by decide +kernel
theorem dX0_leastSilent_1 : decode cX0_leastSilent 1 = .ok (.istore 4, 2) := by decide +kernel
theorem dX0_leastSilent_3 : decode cX0_leastSilent 3 = .ok (.iload 4, 2) := by decide +kernel
theorem dX0_leastSilent_5 : decode cX0_leastSilent 5 = .ok (.aload_n 0, 1) := by decide +kernel
theorem dX0_leastSilent_6 : decode cX0_leastSilent 6 = .ok (.getfield 34, 3) := by decide +kernel
theorem dX0_leastSilent_9 : decode cX0_leastSilent 9 = .ok (.if_icmp .gt 24, 3) := by decide +kernel
theorem dX0_leastSilent_12 : decode cX0_leastSilent 12 = .ok (.aload_n 0, 1) := by decide +kernel
theorem dX0_leastSilent_13 : decode cX0_leastSilent 13 = .ok (.iload 4, 2) := by decide +kernel
theorem dX0_leastSilent_15 : decode cX0_leastSilent 15 = .ok (.iload_n 1, 1) := by decide +kernel
theorem dX0_leastSilent_16 : decode cX0_leastSilent 16 = .ok (.iload_n 2, 1) := by decide +kernel
theorem dX0_leastSilent_17 : decode cX0_leastSilent 17 = .ok (.iload_n 3, 1) := by decide +kernel
theorem dX0_leastSilent_18 : decode cX0_leastSilent 18 = .ok (.invokestatic 37, 3) := by decide +kernel
theorem dX0_leastSilent_21 : decode cX0_leastSilent 21 = .ok (.ifCond .eq 6, 3) := by decide +kernel
theorem dX0_leastSilent_24 : decode cX0_leastSilent 24 = .ok (.iload 4, 2) := by decide +kernel
theorem dX0_leastSilent_26 : decode cX0_leastSilent 26 = .ok (.ireturn, 1) := by decide +kernel
theorem dX0_leastSilent_27 : decode cX0_leastSilent 27 = .ok (.iinc 4 1, 3) := by decide +kernel
theorem dX0_leastSilent_30 : decode cX0_leastSilent 30 = .ok (.goto (-27), 3) := by decide +kernel
theorem dX0_leastSilent_33 : decode cX0_leastSilent 33 = .ok (.iconst (-1), 1) := by decide +kernel
theorem dX0_leastSilent_34 : decode cX0_leastSilent 34 = .ok (.ireturn, 1) := by decide +kernel
noncomputable def fX0_leastSilent_l3 (μ : zM) (x0 : Nat) (x1 : Int32) (x2 : Int32) (x3 : Int32) (F2 : Int32 → Option (Int32)) (x4_1 : Int32) : Option (Int32) :=
  zb1 (zm_gI μ 9 x0 0) fun v4 =>
  if v4 < x4_1 then (
  some (-1))
  else (
  zb1 (fX0_isSilent μ x0 x4_1 x1 x2 x3) fun v7 =>
  if v7 = 0 then (
  F2 (x4_1 + 1))
  else (
  some x4_1))
noncomputable def fX0_leastSilent (μ : zM) (x0 : Nat) (x1 : Int32) (x2 : Int32) (x3 : Int32) : Option (Int32) :=
  zf1 (fX0_leastSilent_l3 μ x0 x1 x2 x3) zfu 0
set_option maxHeartbeats 4000000 in
set_option maxRecDepth 100000 in
theorem cX0_leastSilent_ok {μ : zM} {x0 : Nat} {x1 : Int32} {x2 : Int32} {x3 : Int32} {r : Int32} (hf : fX0_leastSilent μ x0 x1 x2 x3 = some r) : zC yX0_leastSilent cX0_leastSilent 5 (some .int) 4 0 0 [.ref x0, .int x1, .int x2, .int x3] μ (some (.int r)) μ := by
  unfold fX0_leastSilent at hf
  refine zC.of (by decide) (Nat.le_of_ble_eq_true rfl) (fun K hin => ?_)
  clear hin
  show zz K cX0_leastSilent (5, RX0, some .int, 4, 0, 0, some (.int r), μ) 0 0 0 [(0, .ref x0), (1, .int x1), (2, .int x2), (3, .int x3)] [] μ
  refine zr_iconst 0 dX0_leastSilent_0 (by decide) ?_
  refine zr_istore [(4, .int 0), (0, .ref x0), (1, .int x1), (2, .int x2), (3, .int x3)] dX0_leastSilent_1 (Nat.le_of_ble_eq_true rfl) rfl ?_
  have hL8 : ∀ (n : Nat) (x4_1 : Int32), zf1 (fX0_leastSilent_l3 μ x0 x1 x2 x3) n x4_1 = some r → zz K cX0_leastSilent (5, RX0, some .int, 4, 0, 0, some (.int r), μ) 0 0 3 [(0, .ref x0), (1, .int x1), (2, .int x2), (3, .int x3), (4, .int x4_1)] [] μ := by
    intro n
    induction n with
    | zero => intro x4_1 hf; cases hf
    | succ n ih3 =>
      intro x4_1 hf
      replace hf := zf1_s hf
      generalize zf1 (fX0_leastSilent_l3 μ x0 x1 x2 x3) n = F2 at hf ih3
      unfold fX0_leastSilent_l3 at hf
      refine zr_iload 4 dX0_leastSilent_3 rfl ?_
      refine zr_aload_n 0 dX0_leastSilent_5 rfl ?_
      replace hf := zb1_s hf
      obtain ⟨v4, h5, hf⟩ := hf
      refine zr_get (zm_gI_g h5) zk9 (by decide) zl_29 dX0_leastSilent_6 ?_
      refine zr_icmp_gt 33 dX0_leastSilent_9 (by decide) (fun hc => ?_) (fun hc => ?_)
      · rw [if_pos hc] at hf
        refine zr_iconst (-1) dX0_leastSilent_33 (by decide) ?_
        cases hf
        exact zr_iret dX0_leastSilent_34
      · rw [if_neg hc] at hf
        refine zr_aload_n 0 dX0_leastSilent_12 rfl ?_
        refine zr_iload 4 dX0_leastSilent_13 rfl ?_
        refine zr_iload_n 1 dX0_leastSilent_15 rfl ?_
        refine zr_iload_n 2 dX0_leastSilent_16 rfl ?_
        refine zr_iload_n 3 dX0_leastSilent_17 rfl ?_
        replace hf := zb1_s hf
        obtain ⟨v7, h6, hf⟩ := hf
        refine zr_callS [.ref x0, .int x4_1, .int x1, .int x2, .int x3] (cX0_isSilent_ok h6) zvs_X0_isSilent zl_33 zl_32 rfl (Nat.le_of_ble_eq_true rfl) (Nat.le_of_ble_eq_true rfl) (Nat.le_of_ble_eq_true rfl) (Nat.le_of_ble_eq_true rfl) dX0_leastSilent_18 rfl ?_
        refine zr_if_eq 27 dX0_leastSilent_21 (by decide) (fun hc => ?_) (fun hc => ?_)
        · rw [if_pos hc] at hf
          refine zr_iinc (j := 4) (x4_1 + 1) [(4, .int (x4_1 + 1)), (0, .ref x0), (1, .int x1), (2, .int x2), (3, .int x3)] dX0_leastSilent_27 rfl rfl (Nat.le_of_ble_eq_true rfl) rfl ?_
          refine zr_goto 3 dX0_leastSilent_30 (by decide) ?_
          exact zr_lv [1, 2, 3, 4, 0] rfl (ih3 (x4_1 + 1) hf)
        · rw [if_neg hc] at hf
          refine zr_iload 4 dX0_leastSilent_24 rfl ?_
          cases hf
          exact zr_iret dX0_leastSilent_26
  exact zr_lv [1, 2, 3, 4, 0] rfl (hL8 _ 0 hf)
theorem dX9_judge_0 : decode cX9_judge 0 = .ok (.aload_n 0, 1) := by decide +kernel
theorem dX9_judge_1 : decode cX9_judge 1 = .ok (.getfield 39, 3) := by decide +kernel
theorem dX9_judge_4 : decode cX9_judge 4 = .ok (.iload_n 1, 1) := by decide +kernel
theorem dX9_judge_5 : decode cX9_judge 5 = .ok (.iaload, 1) := by decide +kernel
theorem dX9_judge_6 : decode cX9_judge 6 = .ok (.iconst 1, 1) := by decide +kernel
theorem dX9_judge_7 : decode cX9_judge 7 = .ok (.iand, 1) := by decide +kernel
theorem dX9_judge_8 : decode cX9_judge 8 = .ok (.ifCond .eq 7, 3) := by decide +kernel
theorem dX9_judge_11 : decode cX9_judge 11 = .ok (.iconst 1, 1) := by decide +kernel
theorem dX9_judge_12 : decode cX9_judge 12 = .ok (.goto 4, 3) := by decide +kernel
theorem dX9_judge_15 : decode cX9_judge 15 = .ok (.iconst 2, 1) := by decide +kernel
theorem dX9_judge_16 : decode cX9_judge 16 = .ok (.ireturn, 1) := by decide +kernel
noncomputable def fX9_judge (μ : zM) (x0 : Nat) (x1 : Int32) : Option (Int32) := zgd (zm_ck μ 9 x0) <|
  zb1 (zm_gR μ 9 x0 12) fun v1 =>
  zb1 (zm_aI μ 0 v1 x1) fun v3 =>
  zb1 (if (v3 &&& 1) = 0 then (
  some 2)
  else (
  some 1) : Option (Int32)) fun (s5 : Int32) =>
  some s5
theorem fX9_judge_ck {μ : zM} {x0 : Nat} {x1 : Int32} {z : Int32} (h : fX9_judge μ x0 x1 = some z) : zm_ck μ 9 x0 = true := (zgd_s h).1
set_option maxHeartbeats 4000000 in
set_option maxRecDepth 100000 in
theorem cX9_judge_ok {μ : zM} {x0 : Nat} {x1 : Int32} {r : Int32} (hf : fX9_judge μ x0 x1 = some r) : zC yX9_judge cX9_judge 2 (some .int) 0 0 0 [.ref x0, .int x1] μ (some (.int r)) μ := by
  replace hf := (zgd_s hf).2
  refine zC.of (by decide) (Nat.le_of_ble_eq_true rfl) (fun K hin => ?_)
  clear hin
  show zz K cX9_judge (2, RX9, some .int, 0, 0, 0, some (.int r), μ) 0 0 0 [(0, .ref x0), (1, .int x1)] [] μ
  refine zr_aload_n 0 dX9_judge_0 rfl ?_
  replace hf := zb1_s hf
  obtain ⟨v1, h2, hf⟩ := hf
  refine zr_get (zm_gR_g h2) zk9 (by decide) zl_7 dX9_judge_1 ?_
  refine zr_iload_n 1 dX9_judge_4 rfl ?_
  replace hf := zb1_s hf
  obtain ⟨v3, h4, hf⟩ := hf
  refine zr_iald h4 dX9_judge_5 ?_
  refine zr_iconst 1 dX9_judge_6 (by decide) ?_
  refine zr_iand dX9_judge_7 ?_
  replace hf := zb1_s hf
  obtain ⟨s5, hg, hf⟩ := hf
  have hj6 : zz K cX9_judge (2, RX9, some .int, 0, 0, 0, some (.int r), μ) 0 0 16 [] [.int s5] μ := by
    cases hf
    exact zr_iret dX9_judge_16
  clear hf
  have hf := hg
  clear hg
  refine zr_if_eq 15 dX9_judge_8 (by decide) (fun hc => ?_) (fun hc => ?_)
  · rw [if_pos hc] at hf
    refine zr_iconst 2 dX9_judge_15 (by decide) ?_
    cases hf
    exact zr_lv [] rfl hj6
  · rw [if_neg hc] at hf
    refine zr_iconst 1 dX9_judge_11 (by decide) ?_
    refine zr_goto 16 dX9_judge_12 (by decide) ?_
    cases hf
    exact zr_lv [] rfl hj6
theorem zl_34 : Cond.code yX9_judge cX9_judge 2 (some .int) ∈ zt := zt_at 822 (by decide +kernel)
theorem zvs_X9_judge : zvS yX9_judge cX9_judge 2 (some .int) 1 := ⟨zl_34, zl_14, ⟨by decide +kernel, by decide +kernel, by decide +kernel⟩, by decide⟩
theorem zl_35 : Cond.methodLink RX0 41 yX9_judge ∈ zt := zt_at 952 (by decide +kernel)
theorem zl_36 : Cond.instanceMethod yX9_judge ∈ zt := zt_at 820 (by decide +kernel)
theorem zl_37 : Cond.selects RX9 yX9_judge yX9_judge ∈ zt := zt_at 821 (by decide +kernel)
theorem dX0_judgedHearers_0 : decode cX0_judgedHearers 0 = .ok (.iconst 0, 1) := by decide +kernel
theorem dX0_judgedHearers_1 : decode cX0_judgedHearers 1 = .ok (.istore 4, 2) := by decide +kernel
theorem dX0_judgedHearers_3 : decode cX0_judgedHearers 3 = .ok (.aload_n 0, 1) := by decide +kernel
theorem dX0_judgedHearers_4 : decode cX0_judgedHearers 4 = .ok (.iload_n 3, 1) := by decide +kernel
theorem dX0_judgedHearers_5 : decode cX0_judgedHearers 5 = .ok (.invokevirtual 41, 3) := by decide +kernel
theorem dX0_judgedHearers_8 : decode cX0_judgedHearers 8 = .ok (.istore 5, 2) := by decide +kernel
theorem dX0_judgedHearers_10 : decode cX0_judgedHearers 10 = .ok (.iconst 0, 1) := by decide +kernel
theorem dX0_judgedHearers_11 : decode cX0_judgedHearers 11 = .ok (.istore 6, 2) := by decide +kernel
theorem dX0_judgedHearers_13 : decode cX0_judgedHearers 13 = .ok (.iload 6, 2) := by decide +kernel
theorem dX0_judgedHearers_15 : decode cX0_judgedHearers 15 = .ok (.aload_n 0, 1) := by decide +kernel
theorem dX0_judgedHearers_16 : decode cX0_judgedHearers 16 = .ok (.getfield 21, 3) := by decide +kernel
theorem dX0_judgedHearers_19 : decode cX0_judgedHearers 19 = .ok (.if_icmp .ge 31, 3) := by decide +kernel
theorem dX0_judgedHearers_22 : decode cX0_judgedHearers 22 = .ok (.aload_n 0, 1) := by decide +kernel
theorem dX0_judgedHearers_23 : decode cX0_judgedHearers 23 = .ok (.iload_n 1, 1) := by decide +kernel
theorem dX0_judgedHearers_24 : decode cX0_judgedHearers 24 = .ok (.iload_n 2, 1) := by decide +kernel
theorem dX0_judgedHearers_25 : decode cX0_judgedHearers 25 = .ok (.iload_n 3, 1) := by decide +kernel
theorem dX0_judgedHearers_26 : decode cX0_judgedHearers 26 = .ok (.aload_n 0, 1) := by decide +kernel
theorem dX0_judgedHearers_27 : decode cX0_judgedHearers 27 = .ok (.getfield 27, 3) := by decide +kernel
theorem dX0_judgedHearers_30 : decode cX0_judgedHearers 30 = .ok (.iload 6, 2) := by decide +kernel
theorem dX0_judgedHearers_32 : decode cX0_judgedHearers 32 = .ok (.iaload, 1) := by decide +kernel
theorem dX0_judgedHearers_33 : decode cX0_judgedHearers 33 = .ok (.iload 5, 2) := by decide +kernel
theorem dX0_judgedHearers_35 : decode cX0_judgedHearers 35 = .ok (.invokevirtual 30, 3) := by decide +kernel
theorem dX0_judgedHearers_38 : decode cX0_judgedHearers 38 = .ok (.ifCond .eq 6, 3) := by decide +kernel
theorem dX0_judgedHearers_41 : decode cX0_judgedHearers 41 = .ok (.iinc 4 1, 3) := by decide +kernel
theorem dX0_judgedHearers_44 : decode cX0_judgedHearers 44 = .ok (.iinc 6 1, 3) := by decide +kernel
theorem dX0_judgedHearers_47 : decode cX0_judgedHearers 47 = .ok (.goto (-34), 3) := by decide +kernel
theorem dX0_judgedHearers_50 : decode cX0_judgedHearers 50 = .ok (.iload 4, 2) := by decide +kernel
theorem dX0_judgedHearers_52 : decode cX0_judgedHearers 52 = .ok (.ireturn, 1) := by decide +kernel
noncomputable def fX0_judgedHearers_l13 (μ : zM) (x0 : Nat) (x1 : Int32) (x2 : Int32) (x3 : Int32) (v2 : Int32) (F5 : Int32 → Int32 → Option (Int32)) (x4_3 : Int32) (x6_4 : Int32) : Option (Int32) :=
  zb1 (zm_gI μ 9 x0 4) fun v9 =>
  if v9 ≤ x6_4 then (
  some x4_3)
  else (
  zb1 (zm_gR μ 9 x0 6) fun v11 =>
  zb1 (zm_aI μ 0 v11 x6_4) fun v13 =>
  zb1 (fX9_carries μ x0 x1 x2 x3 v13 v2) fun v16 =>
  zb1 (if v16 = 0 then (
  some x4_3)
  else (
  some (x4_3 + 1)) : Option (Int32)) fun (x4_17 : Int32) =>
  F5 x4_17 (x6_4 + 1))
noncomputable def fX0_judgedHearers (μ : zM) (x0 : Nat) (x1 : Int32) (x2 : Int32) (x3 : Int32) : Option (Int32) :=
  zb1 (fX9_judge μ x0 x3) fun v2 =>
  zb1 (zf2 (fX0_judgedHearers_l13 μ x0 x1 x2 x3 v2) zfu 0 0 : Option (Int32)) fun (x4_7 : Int32) =>
  some x4_7
set_option maxHeartbeats 4000000 in
set_option maxRecDepth 100000 in
theorem cX0_judgedHearers_ok {μ : zM} {x0 : Nat} {x1 : Int32} {x2 : Int32} {x3 : Int32} {r : Int32} (hf : fX0_judgedHearers μ x0 x1 x2 x3 = some r) : zC yX0_judgedHearers cX0_judgedHearers 7 (some .int) 3 0 0 [.ref x0, .int x1, .int x2, .int x3] μ (some (.int r)) μ := by
  unfold fX0_judgedHearers at hf
  refine zC.of (by decide) (Nat.le_of_ble_eq_true rfl) (fun K hin => ?_)
  clear hin
  show zz K cX0_judgedHearers (7, RX0, some .int, 3, 0, 0, some (.int r), μ) 0 0 0 [(0, .ref x0), (1, .int x1), (2, .int x2), (3, .int x3)] [] μ
  refine zr_iconst 0 dX0_judgedHearers_0 (by decide) ?_
  refine zr_istore [(4, .int 0), (0, .ref x0), (1, .int x1), (2, .int x2), (3, .int x3)] dX0_judgedHearers_1 (Nat.le_of_ble_eq_true rfl) rfl ?_
  refine zr_aload_n 1 dX0_judgedHearers_3 rfl ?_
  refine zr_iload_n 4 dX0_judgedHearers_4 rfl ?_
  replace hf := zb1_s hf
  obtain ⟨v2, h1, hf⟩ := hf
  refine zr_callV (ci := 9) [.int x3] (cX9_judge_ok h1) zvs_X9_judge zl_36 zl_37 (fX9_judge_ck h1) rfl rfl zl_35 rfl (Nat.le_of_ble_eq_true rfl) (Nat.le_of_ble_eq_true rfl) (Nat.le_of_ble_eq_true rfl) (Nat.le_of_ble_eq_true rfl) dX0_judgedHearers_5 rfl ?_
  refine zr_istore [(5, .int v2), (4, .int 0), (0, .ref x0), (1, .int x1), (2, .int x2), (3, .int x3)] dX0_judgedHearers_8 (Nat.le_of_ble_eq_true rfl) rfl ?_
  refine zr_iconst 0 dX0_judgedHearers_10 (by decide) ?_
  refine zr_istore [(6, .int 0), (5, .int v2), (4, .int 0), (0, .ref x0), (1, .int x1), (2, .int x2), (3, .int x3)] dX0_judgedHearers_11 (Nat.le_of_ble_eq_true rfl) rfl ?_
  replace hf := zb1_s hf
  obtain ⟨x4_7, hg, hf⟩ := hf
  have hj8 : zz K cX0_judgedHearers (7, RX0, some .int, 3, 0, 0, some (.int r), μ) 0 0 50 [(4, .int x4_7)] [] μ := by
    refine zr_iload 0 dX0_judgedHearers_50 rfl ?_
    cases hf
    exact zr_iret dX0_judgedHearers_52
  clear hf
  have hf := hg
  clear hg
  have hL19 : ∀ (n : Nat) (x4_3 : Int32) (x6_4 : Int32), zf2 (fX0_judgedHearers_l13 μ x0 x1 x2 x3 v2) n x4_3 x6_4 = some x4_7 → zz K cX0_judgedHearers (7, RX0, some .int, 3, 0, 0, some (.int r), μ) 0 0 13 [(0, .ref x0), (1, .int x1), (2, .int x2), (3, .int x3), (4, .int x4_3), (5, .int v2), (6, .int x6_4)] [] μ := by
    intro n
    induction n with
    | zero => intro x4_3 x6_4 hf; cases hf
    | succ n ih6 =>
      intro x4_3 x6_4 hf
      replace hf := zf2_s hf
      generalize zf2 (fX0_judgedHearers_l13 μ x0 x1 x2 x3 v2) n = F5 at hf ih6
      unfold fX0_judgedHearers_l13 at hf
      refine zr_iload 6 dX0_judgedHearers_13 rfl ?_
      refine zr_aload_n 0 dX0_judgedHearers_15 rfl ?_
      replace hf := zb1_s hf
      obtain ⟨v9, h10, hf⟩ := hf
      refine zr_get (zm_gI_g h10) zk9 (by decide) zl_23 dX0_judgedHearers_16 ?_
      refine zr_icmp_ge 50 dX0_judgedHearers_19 (by decide) (fun hc => ?_) (fun hc => ?_)
      · rw [if_pos hc] at hf
        cases hf
        exact zr_lv [4] rfl hj8
      · rw [if_neg hc] at hf
        refine zr_aload_n 0 dX0_judgedHearers_22 rfl ?_
        refine zr_iload_n 1 dX0_judgedHearers_23 rfl ?_
        refine zr_iload_n 2 dX0_judgedHearers_24 rfl ?_
        refine zr_iload_n 3 dX0_judgedHearers_25 rfl ?_
        refine zr_aload_n 0 dX0_judgedHearers_26 rfl ?_
        replace hf := zb1_s hf
        obtain ⟨v11, h12, hf⟩ := hf
        refine zr_get (zm_gR_g h12) zk9 (by decide) zl_24 dX0_judgedHearers_27 ?_
        refine zr_iload 6 dX0_judgedHearers_30 rfl ?_
        replace hf := zb1_s hf
        obtain ⟨v13, h14, hf⟩ := hf
        refine zr_iald h14 dX0_judgedHearers_32 ?_
        refine zr_iload 5 dX0_judgedHearers_33 rfl ?_
        replace hf := zb1_s hf
        obtain ⟨v16, h15, hf⟩ := hf
        refine zr_callV (ci := 9) [.int x1, .int x2, .int x3, .int v13, .int v2] (cX9_carries_ok h15) zvs_X9_carries zl_27 zl_28 (fX9_carries_ck h15) rfl rfl zl_26 rfl (Nat.le_of_ble_eq_true rfl) (Nat.le_of_ble_eq_true rfl) (Nat.le_of_ble_eq_true rfl) (Nat.le_of_ble_eq_true rfl) dX0_judgedHearers_35 rfl ?_
        replace hf := zb1_s hf
        obtain ⟨x4_17, hg, hf⟩ := hf
        have hj18 : zz K cX0_judgedHearers (7, RX0, some .int, 3, 0, 0, some (.int r), μ) 0 0 44 [(0, .ref x0), (1, .int x1), (2, .int x2), (3, .int x3), (4, .int x4_17), (5, .int v2), (6, .int x6_4)] [] μ := by
          refine zr_iinc (j := 6) (x6_4 + 1) [(6, .int (x6_4 + 1)), (0, .ref x0), (1, .int x1), (2, .int x2), (3, .int x3), (4, .int x4_17), (5, .int v2)] dX0_judgedHearers_44 rfl rfl (Nat.le_of_ble_eq_true rfl) rfl ?_
          refine zr_goto 13 dX0_judgedHearers_47 (by decide) ?_
          exact zr_lv [1, 2, 3, 4, 5, 6, 0] rfl (ih6 x4_17 (x6_4 + 1) hf)
        clear hf
        have hf := hg
        clear hg
        refine zr_if_eq 44 dX0_judgedHearers_38 (by decide) (fun hc => ?_) (fun hc => ?_)
        · rw [if_pos hc] at hf
          cases hf
          exact zr_lv [0, 1, 2, 3, 4, 5, 6] rfl hj18
        · rw [if_neg hc] at hf
          refine zr_iinc (j := 4) (x4_3 + 1) [(4, .int (x4_3 + 1)), (0, .ref x0), (1, .int x1), (2, .int x2), (3, .int x3), (5, .int v2), (6, .int x6_4)] dX0_judgedHearers_41 rfl rfl (Nat.le_of_ble_eq_true rfl) rfl ?_
          cases hf
          exact zr_lv [1, 2, 3, 4, 0, 5, 6] rfl hj18
  exact zr_lv [3, 4, 5, 6, 2, 1, 0] rfl (hL19 _ 0 0 hf)
theorem zl_38 : Cond.code yX0_judgedHearers cX0_judgedHearers 7 (some .int) ∈ zt := zt_at 951 (by decide +kernel)
theorem zvs_X0_judgedHearers : zvS yX0_judgedHearers cX0_judgedHearers 7 (some .int) 4 := ⟨zl_38, zl_31, ⟨by decide +kernel, by decide +kernel, by decide +kernel⟩, by decide⟩
theorem zl_39 : Cond.methodLink RX0 45 yX0_judgedHearers ∈ zt := zt_at 949 (by decide +kernel)
theorem zl_40 : Cond.static yX0_judgedHearers ∈ zt := zt_at 950 (by decide +kernel)
theorem dX0_fullestPlace_0 : decode cX0_fullestPlace 0 = .ok (.iconst 0, 1) := by decide +kernel
theorem dX0_fullestPlace_1 : decode cX0_fullestPlace 1 = .ok (.istore_n 3, 1) := by decide +kernel
theorem dX0_fullestPlace_2 : decode cX0_fullestPlace 2 = .ok (.aload_n 0, 1) := by decide +kernel
theorem dX0_fullestPlace_3 : decode cX0_fullestPlace 3 = .ok (.iconst 0, 1) := by decide +kernel
theorem dX0_fullestPlace_4 : decode cX0_fullestPlace 4 = .ok (.iload_n 1, 1) := by decide +kernel
theorem dX0_fullestPlace_5 : decode cX0_fullestPlace 5 = .ok (.iload_n 2, 1) := by decide +kernel
theorem dX0_fullestPlace_6 : decode cX0_fullestPlace 6 = .ok (.invokestatic 45, 3) := by decide +kernel
theorem dX0_fullestPlace_9 : decode cX0_fullestPlace 9 = .ok (.istore 4, 2) := by decide +kernel
theorem dX0_fullestPlace_11 : decode cX0_fullestPlace 11 = .ok (.iconst 1, 1) := by decide +kernel
theorem dX0_fullestPlace_12 : decode cX0_fullestPlace 12 = .ok (.istore 5, 2) := by decide +kernel
theorem dX0_fullestPlace_14 : decode cX0_fullestPlace 14 = .ok (.iload 5, 2) := by decide +kernel
theorem dX0_fullestPlace_16 : decode cX0_fullestPlace 16 = .ok (.aload_n 0, 1) := by decide +kernel
theorem dX0_fullestPlace_17 : decode cX0_fullestPlace 17 = .ok (.getfield 34, 3) := by decide +kernel
theorem dX0_fullestPlace_20 : decode cX0_fullestPlace 20 = .ok (.if_icmp .gt 33, 3) := by decide +kernel
theorem dX0_fullestPlace_23 : decode cX0_fullestPlace 23 = .ok (.aload_n 0, 1) := by decide +kernel
theorem dX0_fullestPlace_24 : decode cX0_fullestPlace 24 = .ok (.iload 5, 2) := by decide +kernel
theorem dX0_fullestPlace_26 : decode cX0_fullestPlace 26 = .ok (.iload_n 1, 1) := by decide +kernel
theorem dX0_fullestPlace_27 : decode cX0_fullestPlace 27 = .ok (.iload_n 2, 1) := by decide +kernel
theorem dX0_fullestPlace_28 : decode cX0_fullestPlace 28 = .ok (.invokestatic 45, 3) := by decide +kernel
theorem dX0_fullestPlace_31 : decode cX0_fullestPlace 31 = .ok (.istore 6, 2) := by decide +kernel
theorem dX0_fullestPlace_33 : decode cX0_fullestPlace 33 = .ok (.iload 6, 2) := by decide +kernel
theorem dX0_fullestPlace_35 : decode cX0_fullestPlace 35 = .ok (.iload 4, 2) := by decide +kernel
theorem dX0_fullestPlace_37 : decode cX0_fullestPlace 37 = .ok (.if_icmp .le 10, 3) := by decide +kernel
theorem dX0_fullestPlace_40 : decode cX0_fullestPlace 40 = .ok (.iload 6, 2) := by decide +kernel
theorem dX0_fullestPlace_42 : decode cX0_fullestPlace 42 = .ok (.istore 4, 2) := by decide +kernel
theorem dX0_fullestPlace_44 : decode cX0_fullestPlace 44 = .ok (.iload 5, 2) := by decide +kernel
theorem dX0_fullestPlace_46 : decode cX0_fullestPlace 46 = .ok (.istore_n 3, 1) := by decide +kernel
theorem dX0_fullestPlace_47 : decode cX0_fullestPlace 47 = .ok (.iinc 5 1, 3) := by decide +kernel
theorem dX0_fullestPlace_50 : decode cX0_fullestPlace 50 = .ok (.goto (-36), 3) := by decide +kernel
theorem dX0_fullestPlace_53 : decode cX0_fullestPlace 53 = .ok (.iload_n 3, 1) := by decide +kernel
theorem dX0_fullestPlace_54 : decode cX0_fullestPlace 54 = .ok (.ireturn, 1) := by decide +kernel
noncomputable def fX0_fullestPlace_l14 (μ : zM) (x0 : Nat) (x1 : Int32) (x2 : Int32) (F6 : Int32 → Int32 → Int32 → Option (Int32)) (x3_3 : Int32) (x4_4 : Int32) (x5_5 : Int32) : Option (Int32) :=
  zb1 (zm_gI μ 9 x0 0) fun v10 =>
  if v10 < x5_5 then (
  some x3_3)
  else (
  zb1 (fX0_judgedHearers μ x0 x5_5 x1 x2) fun v13 =>
  zb2 (if v13 ≤ x4_4 then (
  some (x3_3, x4_4))
  else (
  some (x5_5, v13)) : Option (Int32 × Int32)) fun (x3_14 : Int32) (x4_15 : Int32) =>
  F6 x3_14 x4_15 (x5_5 + 1))
noncomputable def fX0_fullestPlace (μ : zM) (x0 : Nat) (x1 : Int32) (x2 : Int32) : Option (Int32) :=
  zb1 (fX0_judgedHearers μ x0 0 x1 x2) fun v2 =>
  zb1 (zf3 (fX0_fullestPlace_l14 μ x0 x1 x2) zfu 0 v2 1 : Option (Int32)) fun (x3_8 : Int32) =>
  some x3_8
set_option maxHeartbeats 4000000 in
set_option maxRecDepth 100000 in
theorem cX0_fullestPlace_ok {μ : zM} {x0 : Nat} {x1 : Int32} {x2 : Int32} {r : Int32} (hf : fX0_fullestPlace μ x0 x1 x2 = some r) : zC yX0_fullestPlace cX0_fullestPlace 7 (some .int) 4 0 0 [.ref x0, .int x1, .int x2] μ (some (.int r)) μ := by
  unfold fX0_fullestPlace at hf
  refine zC.of (by decide) (Nat.le_of_ble_eq_true rfl) (fun K hin => ?_)
  clear hin
  show zz K cX0_fullestPlace (7, RX0, some .int, 4, 0, 0, some (.int r), μ) 0 0 0 [(0, .ref x0), (1, .int x1), (2, .int x2)] [] μ
  refine zr_iconst 0 dX0_fullestPlace_0 (by decide) ?_
  refine zr_istore_n [(3, .int 0), (0, .ref x0), (1, .int x1), (2, .int x2)] dX0_fullestPlace_1 (Nat.le_of_ble_eq_true rfl) rfl ?_
  refine zr_aload_n 1 dX0_fullestPlace_2 rfl ?_
  refine zr_iconst 0 dX0_fullestPlace_3 (by decide) ?_
  refine zr_iload_n 2 dX0_fullestPlace_4 rfl ?_
  refine zr_iload_n 3 dX0_fullestPlace_5 rfl ?_
  replace hf := zb1_s hf
  obtain ⟨v2, h1, hf⟩ := hf
  refine zr_callS [.ref x0, .int 0, .int x1, .int x2] (cX0_judgedHearers_ok h1) zvs_X0_judgedHearers zl_40 zl_39 rfl (Nat.le_of_ble_eq_true rfl) (Nat.le_of_ble_eq_true rfl) (Nat.le_of_ble_eq_true rfl) (Nat.le_of_ble_eq_true rfl) dX0_fullestPlace_6 rfl ?_
  refine zr_istore [(4, .int v2), (3, .int 0), (0, .ref x0), (1, .int x1), (2, .int x2)] dX0_fullestPlace_9 (Nat.le_of_ble_eq_true rfl) rfl ?_
  refine zr_iconst 1 dX0_fullestPlace_11 (by decide) ?_
  refine zr_istore [(5, .int 1), (4, .int v2), (3, .int 0), (0, .ref x0), (1, .int x1), (2, .int x2)] dX0_fullestPlace_12 (Nat.le_of_ble_eq_true rfl) rfl ?_
  replace hf := zb1_s hf
  obtain ⟨x3_8, hg, hf⟩ := hf
  have hj9 : zz K cX0_fullestPlace (7, RX0, some .int, 4, 0, 0, some (.int r), μ) 0 0 53 [(3, .int x3_8)] [] μ := by
    refine zr_iload_n 0 dX0_fullestPlace_53 rfl ?_
    cases hf
    exact zr_iret dX0_fullestPlace_54
  clear hf
  have hf := hg
  clear hg
  have hL17 : ∀ (n : Nat) (x3_3 : Int32) (x4_4 : Int32) (x5_5 : Int32), zf3 (fX0_fullestPlace_l14 μ x0 x1 x2) n x3_3 x4_4 x5_5 = some x3_8 → zz K cX0_fullestPlace (7, RX0, some .int, 4, 0, 0, some (.int r), μ) 0 0 14 [(0, .ref x0), (1, .int x1), (2, .int x2), (3, .int x3_3), (4, .int x4_4), (5, .int x5_5)] [] μ := by
    intro n
    induction n with
    | zero => intro x3_3 x4_4 x5_5 hf; cases hf
    | succ n ih7 =>
      intro x3_3 x4_4 x5_5 hf
      replace hf := zf3_s hf
      generalize zf3 (fX0_fullestPlace_l14 μ x0 x1 x2) n = F6 at hf ih7
      unfold fX0_fullestPlace_l14 at hf
      refine zr_iload 5 dX0_fullestPlace_14 rfl ?_
      refine zr_aload_n 0 dX0_fullestPlace_16 rfl ?_
      replace hf := zb1_s hf
      obtain ⟨v10, h11, hf⟩ := hf
      refine zr_get (zm_gI_g h11) zk9 (by decide) zl_29 dX0_fullestPlace_17 ?_
      refine zr_icmp_gt 53 dX0_fullestPlace_20 (by decide) (fun hc => ?_) (fun hc => ?_)
      · rw [if_pos hc] at hf
        cases hf
        exact zr_lv [3] rfl hj9
      · rw [if_neg hc] at hf
        refine zr_aload_n 0 dX0_fullestPlace_23 rfl ?_
        refine zr_iload 5 dX0_fullestPlace_24 rfl ?_
        refine zr_iload_n 1 dX0_fullestPlace_26 rfl ?_
        refine zr_iload_n 2 dX0_fullestPlace_27 rfl ?_
        replace hf := zb1_s hf
        obtain ⟨v13, h12, hf⟩ := hf
        refine zr_callS [.ref x0, .int x5_5, .int x1, .int x2] (cX0_judgedHearers_ok h12) zvs_X0_judgedHearers zl_40 zl_39 rfl (Nat.le_of_ble_eq_true rfl) (Nat.le_of_ble_eq_true rfl) (Nat.le_of_ble_eq_true rfl) (Nat.le_of_ble_eq_true rfl) dX0_fullestPlace_28 rfl ?_
        refine zr_istore [(6, .int v13), (0, .ref x0), (1, .int x1), (2, .int x2), (3, .int x3_3), (4, .int x4_4), (5, .int x5_5)] dX0_fullestPlace_31 (Nat.le_of_ble_eq_true rfl) rfl ?_
        refine zr_iload 0 dX0_fullestPlace_33 rfl ?_
        refine zr_iload 5 dX0_fullestPlace_35 rfl ?_
        replace hf := zb2_s hf
        obtain ⟨x3_14, x4_15, hg, hf⟩ := hf
        have hj16 : zz K cX0_fullestPlace (7, RX0, some .int, 4, 0, 0, some (.int r), μ) 0 0 47 [(0, .ref x0), (1, .int x1), (2, .int x2), (3, .int x3_14), (4, .int x4_15), (5, .int x5_5)] [] μ := by
          refine zr_iinc (j := 5) (x5_5 + 1) [(5, .int (x5_5 + 1)), (0, .ref x0), (1, .int x1), (2, .int x2), (3, .int x3_14), (4, .int x4_15)] dX0_fullestPlace_47 rfl rfl (Nat.le_of_ble_eq_true rfl) rfl ?_
          refine zr_goto 14 dX0_fullestPlace_50 (by decide) ?_
          exact zr_lv [1, 2, 3, 4, 5, 0] rfl (ih7 x3_14 x4_15 (x5_5 + 1) hf)
        clear hf
        have hf := hg
        clear hg
        refine zr_icmp_le 47 dX0_fullestPlace_37 (by decide) (fun hc => ?_) (fun hc => ?_)
        · rw [if_pos hc] at hf
          cases hf
          exact zr_lv [1, 2, 3, 4, 5, 6] rfl hj16
        · rw [if_neg hc] at hf
          refine zr_iload 0 dX0_fullestPlace_40 rfl ?_
          refine zr_istore [(4, .int v13), (6, .int v13), (0, .ref x0), (1, .int x1), (2, .int x2), (3, .int x3_3), (5, .int x5_5)] dX0_fullestPlace_42 (Nat.le_of_ble_eq_true rfl) rfl ?_
          refine zr_iload 6 dX0_fullestPlace_44 rfl ?_
          refine zr_istore_n [(3, .int x5_5), (4, .int v13), (6, .int v13), (0, .ref x0), (1, .int x1), (2, .int x2), (5, .int x5_5)] dX0_fullestPlace_46 (Nat.le_of_ble_eq_true rfl) rfl ?_
          cases hf
          exact zr_lv [3, 4, 5, 0, 1, 6] rfl hj16
  exact zr_lv [3, 4, 5, 2, 1, 0] rfl (hL17 _ 0 v2 1 hf)
theorem zl_41 : Cond.methodLink RX0 49 Lib.Math.abs.name ∈ zt := zt_at 1234 (by decide +kernel)
theorem dX0_apart_0 : decode cX0_apart 0 = .ok (.aload_n 0, 1) := by decide +kernel
theorem dX0_apart_1 : decode cX0_apart 1 = .ok (.getfield 27, 3) := by decide +kernel
theorem dX0_apart_4 : decode cX0_apart 4 = .ok (.iload_n 1, 1) := by decide +kernel
theorem dX0_apart_5 : decode cX0_apart 5 = .ok (.iaload, 1) := by decide +kernel
theorem dX0_apart_6 : decode cX0_apart 6 = .ok (.aload_n 0, 1) := by decide +kernel
theorem dX0_apart_7 : decode cX0_apart 7 = .ok (.getfield 27, 3) := by decide +kernel
theorem dX0_apart_10 : decode cX0_apart 10 = .ok (.iload_n 2, 1) := by decide +kernel
theorem dX0_apart_11 : decode cX0_apart 11 = .ok (.iaload, 1) := by decide +kernel
theorem dX0_apart_12 : decode cX0_apart 12 = .ok (.isub, 1) := by decide +kernel
theorem dX0_apart_13 : decode cX0_apart 13 = .ok (.invokestatic 49, 3) := by decide +kernel
theorem dX0_apart_16 : decode cX0_apart 16 = .ok (.ireturn, 1) := by decide +kernel
noncomputable def fX0_apart (μ : zM) (x0 : Nat) (x1 : Int32) (x2 : Int32) : Option (Int32) :=
  zb1 (zm_gR μ 9 x0 6) fun v1 =>
  zb1 (zm_aI μ 0 v1 x1) fun v3 =>
  zb1 (zm_gR μ 9 x0 6) fun v5 =>
  zb1 (zm_aI μ 0 v5 x2) fun v7 =>
  some (if 0 ≤ (v3 - v7) then (v3 - v7) else 0 - (v3 - v7) : Int32)
set_option maxHeartbeats 4000000 in
set_option maxRecDepth 100000 in
theorem cX0_apart_ok {μ : zM} {x0 : Nat} {x1 : Int32} {x2 : Int32} {r : Int32} (hf : fX0_apart μ x0 x1 x2 = some r) : zC yX0_apart cX0_apart 3 (some .int) 1 0 0 [.ref x0, .int x1, .int x2] μ (some (.int r)) μ := by
  unfold fX0_apart at hf
  refine zC.of (by decide) (Nat.le_of_ble_eq_true rfl) (fun K hin => ?_)
  clear hin
  show zz K cX0_apart (3, RX0, some .int, 1, 0, 0, some (.int r), μ) 0 0 0 [(0, .ref x0), (1, .int x1), (2, .int x2)] [] μ
  refine zr_aload_n 0 dX0_apart_0 rfl ?_
  replace hf := zb1_s hf
  obtain ⟨v1, h2, hf⟩ := hf
  refine zr_get (zm_gR_g h2) zk9 (by decide) zl_24 dX0_apart_1 ?_
  refine zr_iload_n 1 dX0_apart_4 rfl ?_
  replace hf := zb1_s hf
  obtain ⟨v3, h4, hf⟩ := hf
  refine zr_iald h4 dX0_apart_5 ?_
  refine zr_aload_n 0 dX0_apart_6 rfl ?_
  replace hf := zb1_s hf
  obtain ⟨v5, h6, hf⟩ := hf
  refine zr_get (zm_gR_g h6) zk9 (by decide) zl_24 dX0_apart_7 ?_
  refine zr_iload_n 2 dX0_apart_10 rfl ?_
  replace hf := zb1_s hf
  obtain ⟨v7, h8, hf⟩ := hf
  refine zr_iald h8 dX0_apart_11 ?_
  refine zr_isub dX0_apart_12 ?_
  refine zr_mabs zl_41 zl_10 zl_11 zl_12 (Nat.le_of_ble_eq_true rfl) (Nat.le_of_ble_eq_true rfl) (Nat.le_of_ble_eq_true rfl) (Nat.le_of_ble_eq_true rfl) dX0_apart_13 ?_
  cases hf
  exact zr_iret dX0_apart_16
theorem dJ7_fill_53178_0 : decode cJ7_fill_53178 0 = .ok (.iconst 0, 1) := by decide +kernel
theorem dJ7_fill_53178_1 : decode cJ7_fill_53178 1 = .ok (.istore_n 2, 1) := by decide +kernel
theorem dJ7_fill_53178_2 : decode cJ7_fill_53178 2 = .ok (.aload_n 0, 1) := by decide +kernel
theorem dJ7_fill_53178_3 : decode cJ7_fill_53178 3 = .ok (.arraylength, 1) := by decide +kernel
theorem dJ7_fill_53178_4 : decode cJ7_fill_53178 4 = .ok (.istore_n 3, 1) := by decide +kernel
theorem dJ7_fill_53178_5 : decode cJ7_fill_53178 5 = .ok (.iload_n 2, 1) := by decide +kernel
theorem dJ7_fill_53178_6 : decode cJ7_fill_53178 6 = .ok (.iload_n 3, 1) := by decide +kernel
theorem dJ7_fill_53178_7 : decode cJ7_fill_53178 7 = .ok (.if_icmp .ge 13, 3) := by decide +kernel
theorem dJ7_fill_53178_10 : decode cJ7_fill_53178 10 = .ok (.aload_n 0, 1) := by decide +kernel
theorem dJ7_fill_53178_11 : decode cJ7_fill_53178 11 = .ok (.iload_n 2, 1) := by decide +kernel
theorem dJ7_fill_53178_12 : decode cJ7_fill_53178 12 = .ok (.iload_n 1, 1) := by decide +kernel
theorem dJ7_fill_53178_13 : decode cJ7_fill_53178 13 = .ok (.iastore, 1) := by decide +kernel
theorem dJ7_fill_53178_14 : decode cJ7_fill_53178 14 = .ok (.iinc 2 1, 3) := by decide +kernel
theorem dJ7_fill_53178_17 : decode cJ7_fill_53178 17 = .ok (.goto (-12), 3) := by decide +kernel
theorem dJ7_fill_53178_20 : decode cJ7_fill_53178 20 = .ok (.return_, 1) := by decide +kernel
noncomputable def fJ7_fill_53178_l5 (v1 : Int32) (x0 : Nat) (x1 : Int32) (F5 : Int32 → zM → Option (zM)) (x2_3 : Int32) (m4 : zM) : Option (zM) :=
  if v1 ≤ x2_3 then (
  some m4)
  else (
  zb1 (zm_sI m4 0 x0 x2_3 x1) fun m9 =>
  F5 (x2_3 + 1) m9)
noncomputable def fJ7_fill_53178 (μ : zM) (x0 : Nat) (x1 : Int32) : Option (zM) :=
  zb1 (zm_len μ x0) fun v1 =>
  zb1 (zf2 (fJ7_fill_53178_l5 v1 x0 x1) zfu 0 μ : Option (zM)) fun (m7 : zM) =>
  some m7
set_option maxHeartbeats 4000000 in
set_option maxRecDepth 100000 in
theorem cJ7_fill_53178_ok {μ : zM} {x0 : Nat} {x1 : Int32} {mo : zM} (hf : fJ7_fill_53178 μ x0 x1 = some mo) : zC yJ7_fill_53178 cJ7_fill_53178 4 (none) 0 0 0 [.ref x0, .int x1] μ (none) mo := by
  unfold fJ7_fill_53178 at hf
  refine zC.of (by decide) (Nat.le_of_ble_eq_true rfl) (fun K hin => ?_)
  clear hin
  show zz K cJ7_fill_53178 (4, RJ7, none, 0, 0, 0, none, mo) 0 0 0 [(0, .ref x0), (1, .int x1)] [] μ
  refine zr_iconst 0 dJ7_fill_53178_0 (by decide) ?_
  refine zr_istore_n [(2, .int 0), (0, .ref x0), (1, .int x1)] dJ7_fill_53178_1 (Nat.le_of_ble_eq_true rfl) rfl ?_
  refine zr_aload_n 1 dJ7_fill_53178_2 rfl ?_
  replace hf := zb1_s hf
  obtain ⟨v1, h2, hf⟩ := hf
  refine zr_alen h2 dJ7_fill_53178_3 ?_
  refine zr_istore_n [(3, .int v1), (2, .int 0), (0, .ref x0), (1, .int x1)] dJ7_fill_53178_4 (Nat.le_of_ble_eq_true rfl) rfl ?_
  replace hf := zb1_s hf
  obtain ⟨m7, hg, hf⟩ := hf
  have hj8 : zz K cJ7_fill_53178 (4, RJ7, none, 0, 0, 0, none, mo) 0 0 20 [] [] m7 := by
    cases hf
    exact zr_vret dJ7_fill_53178_20
  clear hf
  have hf := hg
  clear hg
  have hL11 : ∀ (n : Nat) (x2_3 : Int32) (m4 : zM), zf2 (fJ7_fill_53178_l5 v1 x0 x1) n x2_3 m4 = some m7 → zz K cJ7_fill_53178 (4, RJ7, none, 0, 0, 0, none, mo) 0 0 5 [(0, .ref x0), (1, .int x1), (2, .int x2_3), (3, .int v1)] [] m4 := by
    intro n
    induction n with
    | zero => intro x2_3 m4 hf; cases hf
    | succ n ih6 =>
      intro x2_3 m4 hf
      replace hf := zf2_s hf
      generalize zf2 (fJ7_fill_53178_l5 v1 x0 x1) n = F5 at hf ih6
      unfold fJ7_fill_53178_l5 at hf
      refine zr_iload_n 2 dJ7_fill_53178_5 rfl ?_
      refine zr_iload_n 3 dJ7_fill_53178_6 rfl ?_
      refine zr_icmp_ge 20 dJ7_fill_53178_7 (by decide) (fun hc => ?_) (fun hc => ?_)
      · rw [if_pos hc] at hf
        cases hf
        exact zr_lv [] rfl hj8
      · rw [if_neg hc] at hf
        refine zr_aload_n 0 dJ7_fill_53178_10 rfl ?_
        refine zr_iload_n 2 dJ7_fill_53178_11 rfl ?_
        refine zr_iload_n 1 dJ7_fill_53178_12 rfl ?_
        replace hf := zb1_s hf
        obtain ⟨m9, h10, hf⟩ := hf
        refine zr_iast h10 dJ7_fill_53178_13 ?_
        refine zr_iinc (j := 2) (x2_3 + 1) [(2, .int (x2_3 + 1)), (0, .ref x0), (1, .int x1), (3, .int v1)] dJ7_fill_53178_14 rfl rfl (Nat.le_of_ble_eq_true rfl) rfl ?_
        refine zr_goto 5 dJ7_fill_53178_17 (by decide) ?_
        exact zr_lv [1, 2, 0, 3] rfl (ih6 (x2_3 + 1) m9 hf)
  exact zr_lv [2, 3, 1, 0] rfl (hL11 _ 0 μ hf)
theorem zl_42 : Cond.code yX0_apart cX0_apart 3 (some .int) ∈ zt := zt_at 1233 (by decide +kernel)
theorem zvs_X0_apart : zvS yX0_apart cX0_apart 3 (some .int) 3 := ⟨zl_42, zl_31, ⟨by decide +kernel, by decide +kernel, by decide +kernel⟩, by decide⟩
theorem zl_43 : Cond.methodLink RX0 64 yX0_apart ∈ zt := zt_at 1231 (by decide +kernel)
theorem zl_44 : Cond.static yX0_apart ∈ zt := zt_at 1232 (by decide +kernel)
theorem zl_45 : Cond.fieldLinkNest RX0 68 "TwoEchoes" "RANGE" "[I" "TwoEchoes" ∈ zn := zn_at 1235 (by decide +kernel)
theorem dX0_sayOn_0 : decode cX0_sayOn 0 = .ok (.iconst 0, 1) := by decide +kernel
theorem dX0_sayOn_1 : decode cX0_sayOn 1 = .ok (.istore 5, 2) := by decide +kernel
theorem dX0_sayOn_3 : decode cX0_sayOn 3 = .ok (.iload 5, 2) := by decide +kernel
theorem dX0_sayOn_5 : decode cX0_sayOn 5 = .ok (.aload_n 1, 1) := by decide +kernel
theorem dX0_sayOn_6 : decode cX0_sayOn 6 = .ok (.getfield 21, 3) := by decide +kernel
theorem dX0_sayOn_9 : decode cX0_sayOn 9 = .ok (.if_icmp .ge 83, 3) := by decide +kernel
theorem dX0_sayOn_12 : decode cX0_sayOn 12 = .ok (.aload_n 1, 1) := by decide +kernel
theorem dX0_sayOn_13 : decode cX0_sayOn 13 = .ok (.iload_n 2, 1) := by decide +kernel
theorem dX0_sayOn_14 : decode cX0_sayOn 14 = .ok (.iload 5, 2) := by decide +kernel
theorem dX0_sayOn_16 : decode cX0_sayOn 16 = .ok (.invokestatic 64, 3) := by decide +kernel
theorem dX0_sayOn_19 : decode cX0_sayOn 19 = .ok (.istore 6, 2) := by decide +kernel
theorem dX0_sayOn_21 : decode cX0_sayOn 21 = .ok (.iload 6, 2) := by decide +kernel
theorem dX0_sayOn_23 : decode cX0_sayOn 23 = .ok (.getstatic 68, 3) := by decide +kernel
theorem dX0_sayOn_26 : decode cX0_sayOn 26 = .ok (.iload_n 3, 1) := by decide +kernel
theorem dX0_sayOn_27 : decode cX0_sayOn 27 = .ok (.iaload, 1) := by decide +kernel
theorem dX0_sayOn_28 : decode cX0_sayOn 28 = .ok (.if_icmp .le 6, 3) := by decide +kernel
theorem dX0_sayOn_31 : decode cX0_sayOn 31 = .ok (.goto 55, 3) := by decide +kernel
theorem dX0_sayOn_34 : decode cX0_sayOn 34 = .ok (.aload_n 0, 1) := by decide +kernel
theorem dX0_sayOn_35 : decode cX0_sayOn 35 = .ok (.getfield 9, 3) := by decide +kernel
theorem dX0_sayOn_38 : decode cX0_sayOn 38 = .ok (.iload_n 2, 1) := by decide +kernel
theorem dX0_sayOn_39 : decode cX0_sayOn 39 = .ok (.iaload, 1) := by decide +kernel
theorem dX0_sayOn_40 : decode cX0_sayOn 40 = .ok (.iload 4, 2) := by decide +kernel
theorem dX0_sayOn_42 : decode cX0_sayOn 42 = .ok (.ifCond .eq 7, 3) := by decide +kernel
theorem dX0_sayOn_45 : decode cX0_sayOn 45 = .ok (.iconst 1, 1) := by decide +kernel
theorem dX0_sayOn_46 : decode cX0_sayOn 46 = .ok (.goto 5, 3) := by decide +kernel
theorem dX0_sayOn_49 : decode cX0_sayOn 49 = .ok (.iload 6, 2) := by decide +kernel
theorem dX0_sayOn_51 : decode cX0_sayOn 51 = .ok (.iadd, 1) := by decide +kernel
theorem dX0_sayOn_52 : decode cX0_sayOn 52 = .ok (.istore 7, 2) := by decide +kernel
theorem dX0_sayOn_54 : decode cX0_sayOn 54 = .ok (.aload_n 0, 1) := by decide +kernel
theorem dX0_sayOn_55 : decode cX0_sayOn 55 = .ok (.getfield 9, 3) := by decide +kernel
theorem dX0_sayOn_58 : decode cX0_sayOn 58 = .ok (.iload 5, 2) := by decide +kernel
theorem dX0_sayOn_60 : decode cX0_sayOn 60 = .ok (.iaload, 1) := by decide +kernel
theorem dX0_sayOn_61 : decode cX0_sayOn 61 = .ok (.iconst (-1), 1) := by decide +kernel
theorem dX0_sayOn_62 : decode cX0_sayOn 62 = .ok (.if_icmp .eq 15, 3) := by decide +kernel
theorem dX0_sayOn_65 : decode cX0_sayOn 65 = .ok (.iload 7, 2) := by decide +kernel
theorem dX0_sayOn_67 : decode cX0_sayOn 67 = .ok (.aload_n 0, 1) := by decide +kernel
theorem dX0_sayOn_68 : decode cX0_sayOn 68 = .ok (.getfield 9, 3) := by decide +kernel
theorem dX0_sayOn_71 : decode cX0_sayOn 71 = .ok (.iload 5, 2) := by decide +kernel
theorem dX0_sayOn_73 : decode cX0_sayOn 73 = .ok (.iaload, 1) := by decide +kernel
theorem dX0_sayOn_74 : decode cX0_sayOn 74 = .ok (.if_icmp .ge 12, 3) := by decide +kernel
theorem dX0_sayOn_77 : decode cX0_sayOn 77 = .ok (.aload_n 0, 1) := by decide +kernel
theorem dX0_sayOn_78 : decode cX0_sayOn 78 = .ok (.getfield 9, 3) := by decide +kernel
theorem dX0_sayOn_81 : decode cX0_sayOn 81 = .ok (.iload 5, 2) := by decide +kernel
theorem dX0_sayOn_83 : decode cX0_sayOn 83 = .ok (.iload 7, 2) := by decide +kernel
theorem dX0_sayOn_85 : decode cX0_sayOn 85 = .ok (.iastore, 1) := by decide +kernel
theorem dX0_sayOn_86 : decode cX0_sayOn 86 = .ok (.iinc 5 1, 3) := by decide +kernel
theorem dX0_sayOn_89 : decode cX0_sayOn 89 = .ok (.goto (-86), 3) := by decide +kernel
theorem dX0_sayOn_92 : decode cX0_sayOn 92 = .ok (.return_, 1) := by decide +kernel
noncomputable def fX0_sayOn_l3 (x1 : Nat) (x2 : Int32) (x3 : Int32) (x0 : Nat) (x4 : Int32) (F3 : Int32 → zM → Option (zM)) (x5_1 : Int32) (m2 : zM) : Option (zM) :=
  zb1 (zm_gI m2 9 x1 4) fun v7 =>
  if v7 ≤ x5_1 then (
  some m2)
  else (
  zb1 (fX0_apart m2 x1 x2 x5_1) fun v10 =>
  zb1 (zm_aI m2 0 (m2.2.2 0) x3) fun v11 =>
  zc1 (if v10 ≤ v11 then (
  zb1 (zm_gR m2 0 x0 0) fun v15 =>
  zb1 (zm_aI m2 0 v15 x2) fun v17 =>
  zb1 (if x4 = 0 then (
  some v10)
  else (
  some 1) : Option (Int32)) fun (s19 : Int32) =>
  zb1 (zm_gR m2 0 x0 0) fun v21 =>
  zb1 (zm_aI m2 0 v21 x5_1) fun v23 =>
  if v23 = (-1) then (
  zb1 (zm_gR m2 0 x0 0) fun v25 =>
  zb1 (zm_sI m2 0 v25 x5_1 (v17 + s19)) fun m27 =>
  some m27)
  else (
  zb1 (zm_gR m2 0 x0 0) fun v29 =>
  zb1 (zm_aI m2 0 v29 x5_1) fun v31 =>
  if v31 ≤ (v17 + s19) then (
  some m2)
  else (
  zb1 (zm_gR m2 0 x0 0) fun v33 =>
  zb1 (zm_sI m2 0 v33 x5_1 (v17 + s19)) fun m35 =>
  some m35)))
  else (
  some m2) : Option (zM)) fun (m13 : zM) =>
  F3 (x5_1 + 1) m13)
noncomputable def fX0_sayOn (μ : zM) (x0 : Nat) (x1 : Nat) (x2 : Int32) (x3 : Int32) (x4 : Int32) : Option (zM) := zgd (zm_ck μ 0 x0) <|
  zb1 (zf2 (fX0_sayOn_l3 x1 x2 x3 x0 x4) zfu 0 μ : Option (zM)) fun (m5 : zM) =>
  some m5
theorem fX0_sayOn_ck {μ : zM} {x0 : Nat} {x1 : Nat} {x2 : Int32} {x3 : Int32} {x4 : Int32} {z : zM} (h : fX0_sayOn μ x0 x1 x2 x3 x4 = some z) : zm_ck μ 0 x0 = true := (zgd_s h).1
set_option maxHeartbeats 4000000 in
set_option maxRecDepth 100000 in
theorem cX0_sayOn_ok {μ : zM} {x0 : Nat} {x1 : Nat} {x2 : Int32} {x3 : Int32} {x4 : Int32} {mo : zM} (hf : fX0_sayOn μ x0 x1 x2 x3 x4 = some mo) : zC yX0_sayOn cX0_sayOn 8 (none) 2 0 0 [.ref x0, .ref x1, .int x2, .int x3, .int x4] μ (none) mo := by
  replace hf := (zgd_s hf).2
  refine zC.of (by decide) (Nat.le_of_ble_eq_true rfl) (fun K hin => ?_)
  clear hin
  show zz K cX0_sayOn (8, RX0, none, 2, 0, 0, none, mo) 0 0 0 [(0, .ref x0), (1, .ref x1), (2, .int x2), (3, .int x3), (4, .int x4)] [] μ
  refine zr_iconst 0 dX0_sayOn_0 (by decide) ?_
  refine zr_istore [(5, .int 0), (0, .ref x0), (1, .ref x1), (2, .int x2), (3, .int x3), (4, .int x4)] dX0_sayOn_1 (Nat.le_of_ble_eq_true rfl) rfl ?_
  replace hf := zb1_s hf
  obtain ⟨m5, hg, hf⟩ := hf
  have hj6 : zz K cX0_sayOn (8, RX0, none, 2, 0, 0, none, mo) 0 0 92 [] [] m5 := by
    cases hf
    exact zr_vret dX0_sayOn_92
  clear hf
  have hf := hg
  clear hg
  have hL37 : ∀ (n : Nat) (x5_1 : Int32) (m2 : zM), zf2 (fX0_sayOn_l3 x1 x2 x3 x0 x4) n x5_1 m2 = some m5 → zz K cX0_sayOn (8, RX0, none, 2, 0, 0, none, mo) 0 0 3 [(0, .ref x0), (1, .ref x1), (2, .int x2), (3, .int x3), (4, .int x4), (5, .int x5_1)] [] m2 := by
    intro n
    induction n with
    | zero => intro x5_1 m2 hf; cases hf
    | succ n ih4 =>
      intro x5_1 m2 hf
      replace hf := zf2_s hf
      generalize zf2 (fX0_sayOn_l3 x1 x2 x3 x0 x4) n = F3 at hf ih4
      unfold fX0_sayOn_l3 at hf
      refine zr_iload 5 dX0_sayOn_3 rfl ?_
      refine zr_aload_n 1 dX0_sayOn_5 rfl ?_
      replace hf := zb1_s hf
      obtain ⟨v7, h8, hf⟩ := hf
      refine zr_get (zm_gI_g h8) zk9 (by decide) zl_23 dX0_sayOn_6 ?_
      refine zr_icmp_ge 92 dX0_sayOn_9 (by decide) (fun hc => ?_) (fun hc => ?_)
      · rw [if_pos hc] at hf
        cases hf
        exact zr_lv [] rfl hj6
      · rw [if_neg hc] at hf
        refine zr_aload_n 1 dX0_sayOn_12 rfl ?_
        refine zr_iload_n 2 dX0_sayOn_13 rfl ?_
        refine zr_iload 5 dX0_sayOn_14 rfl ?_
        replace hf := zb1_s hf
        obtain ⟨v10, h9, hf⟩ := hf
        refine zr_callS [.ref x1, .int x2, .int x5_1] (cX0_apart_ok h9) zvs_X0_apart zl_44 zl_43 rfl (Nat.le_of_ble_eq_true rfl) (Nat.le_of_ble_eq_true rfl) (Nat.le_of_ble_eq_true rfl) (Nat.le_of_ble_eq_true rfl) dX0_sayOn_16 rfl ?_
        refine zr_istore [(6, .int v10), (0, .ref x0), (1, .ref x1), (2, .int x2), (3, .int x3), (4, .int x4), (5, .int x5_1)] dX0_sayOn_19 (Nat.le_of_ble_eq_true rfl) rfl ?_
        refine zr_iload 0 dX0_sayOn_21 rfl ?_
        refine zr_getsN (k := 0) (by decide) zl_45 dX0_sayOn_23 ?_
        refine zr_iload_n 4 dX0_sayOn_26 rfl ?_
        replace hf := zb1_s hf
        obtain ⟨v11, h12, hf⟩ := hf
        refine zr_iald h12 dX0_sayOn_27 ?_
        replace hf := zc1_s hf
        obtain ⟨m13, hg, hf⟩ := hf
        have hj14 : zz K cX0_sayOn (8, RX0, none, 2, 0, 0, none, mo) 0 0 86 [(0, .ref x0), (1, .ref x1), (2, .int x2), (3, .int x3), (4, .int x4), (5, .int x5_1)] [] m13 := by
          refine zr_iinc (j := 5) (x5_1 + 1) [(5, .int (x5_1 + 1)), (0, .ref x0), (1, .ref x1), (2, .int x2), (3, .int x3), (4, .int x4)] dX0_sayOn_86 rfl rfl (Nat.le_of_ble_eq_true rfl) rfl ?_
          refine zr_goto 3 dX0_sayOn_89 (by decide) ?_
          exact zr_lv [1, 2, 3, 4, 5, 0] rfl (ih4 (x5_1 + 1) m13 hf)
        clear hf
        have hf := hg
        clear hg
        refine zr_icmp_le 34 dX0_sayOn_28 (by decide) (fun hc => ?_) (fun hc => ?_)
        · rw [if_pos hc] at hf
          refine zr_aload_n 1 dX0_sayOn_34 rfl ?_
          replace hf := zb1_s hf
          obtain ⟨v15, h16, hf⟩ := hf
          refine zr_get (zm_gR_g h16) zk0 (by decide) zl_4 dX0_sayOn_35 ?_
          refine zr_iload_n 3 dX0_sayOn_38 rfl ?_
          replace hf := zb1_s hf
          obtain ⟨v17, h18, hf⟩ := hf
          refine zr_iald h18 dX0_sayOn_39 ?_
          refine zr_iload 5 dX0_sayOn_40 rfl ?_
          replace hf := zb1_s hf
          obtain ⟨s19, hg, hf⟩ := hf
          have hj20 : zz K cX0_sayOn (8, RX0, none, 2, 0, 0, none, mo) 0 0 51 [(0, .ref x0), (1, .ref x1), (2, .int x2), (3, .int x3), (4, .int x4), (5, .int x5_1)] [.int s19, .int v17] m2 := by
            refine zr_iadd dX0_sayOn_51 ?_
            refine zr_istore [(7, .int (v17 + s19)), (0, .ref x0), (1, .ref x1), (2, .int x2), (3, .int x3), (4, .int x4), (5, .int x5_1)] dX0_sayOn_52 (Nat.le_of_ble_eq_true rfl) rfl ?_
            refine zr_aload_n 1 dX0_sayOn_54 rfl ?_
            replace hf := zb1_s hf
            obtain ⟨v21, h22, hf⟩ := hf
            refine zr_get (zm_gR_g h22) zk0 (by decide) zl_4 dX0_sayOn_55 ?_
            refine zr_iload 6 dX0_sayOn_58 rfl ?_
            replace hf := zb1_s hf
            obtain ⟨v23, h24, hf⟩ := hf
            refine zr_iald h24 dX0_sayOn_60 ?_
            refine zr_iconst (-1) dX0_sayOn_61 (by decide) ?_
            refine zr_icmp_eq 77 dX0_sayOn_62 (by decide) (fun hc => ?_) (fun hc => ?_)
            · rw [if_pos hc] at hf
              refine zr_aload_n 1 dX0_sayOn_77 rfl ?_
              replace hf := zb1_s hf
              obtain ⟨v25, h26, hf⟩ := hf
              refine zr_get (zm_gR_g h26) zk0 (by decide) zl_4 dX0_sayOn_78 ?_
              refine zr_iload 6 dX0_sayOn_81 rfl ?_
              refine zr_iload 0 dX0_sayOn_83 rfl ?_
              replace hf := zb1_s hf
              obtain ⟨m27, h28, hf⟩ := hf
              refine zr_iast h28 dX0_sayOn_85 ?_
              cases hf
              exact zr_lv [1, 2, 3, 4, 5, 6] rfl hj14
            · rw [if_neg hc] at hf
              refine zr_iload 0 dX0_sayOn_65 rfl ?_
              refine zr_aload_n 1 dX0_sayOn_67 rfl ?_
              replace hf := zb1_s hf
              obtain ⟨v29, h30, hf⟩ := hf
              refine zr_get (zm_gR_g h30) zk0 (by decide) zl_4 dX0_sayOn_68 ?_
              refine zr_iload 6 dX0_sayOn_71 rfl ?_
              replace hf := zb1_s hf
              obtain ⟨v31, h32, hf⟩ := hf
              refine zr_iald h32 dX0_sayOn_73 ?_
              refine zr_icmp_ge 86 dX0_sayOn_74 (by decide) (fun hc => ?_) (fun hc => ?_)
              · rw [if_pos hc] at hf
                cases hf
                exact zr_lv [1, 2, 3, 4, 5, 6] rfl hj14
              · rw [if_neg hc] at hf
                refine zr_aload_n 1 dX0_sayOn_77 rfl ?_
                replace hf := zb1_s hf
                obtain ⟨v33, h34, hf⟩ := hf
                refine zr_get (zm_gR_g h34) zk0 (by decide) zl_4 dX0_sayOn_78 ?_
                refine zr_iload 6 dX0_sayOn_81 rfl ?_
                refine zr_iload 0 dX0_sayOn_83 rfl ?_
                replace hf := zb1_s hf
                obtain ⟨m35, h36, hf⟩ := hf
                refine zr_iast h36 dX0_sayOn_85 ?_
                cases hf
                exact zr_lv [1, 2, 3, 4, 5, 6] rfl hj14
          clear hf
          have hf := hg
          clear hg
          refine zr_if_eq 49 dX0_sayOn_42 (by decide) (fun hc => ?_) (fun hc => ?_)
          · rw [if_pos hc] at hf
            refine zr_iload 0 dX0_sayOn_49 rfl ?_
            cases hf
            exact zr_lv [1, 2, 3, 4, 5, 6] rfl hj20
          · rw [if_neg hc] at hf
            refine zr_iconst 1 dX0_sayOn_45 (by decide) ?_
            refine zr_goto 51 dX0_sayOn_46 (by decide) ?_
            cases hf
            exact zr_lv [1, 2, 3, 4, 5, 6] rfl hj20
        · rw [if_neg hc] at hf
          refine zr_goto 86 dX0_sayOn_31 (by decide) ?_
          cases hf
          exact zr_lv [1, 2, 3, 4, 5, 6] rfl hj14
  exact zr_lv [1, 2, 3, 4, 5, 0] rfl (hL37 _ 0 μ hf)
theorem zl_46 : Cond.code yJ7_fill_53178 cJ7_fill_53178 4 (none) ∈ zt := zt_at 544 (by decide +kernel)
theorem zl_47 : Cond.initialized RJ7 ∈ zt := zt_at 142 (by decide +kernel)
theorem zvs_J7_fill_53178 : zvS yJ7_fill_53178 cJ7_fill_53178 4 (none) 2 := ⟨zl_46, zl_47, ⟨by decide +kernel, by decide +kernel, by decide +kernel⟩, by decide⟩
theorem zl_48 : Cond.methodLink RX0 54 yJ7_fill_53178 ∈ zt := zt_at 1226 (by decide +kernel)
theorem zl_49 : Cond.static yJ7_fill_53178 ∈ zt := zt_at 543 (by decide +kernel)
theorem zl_50 : Cond.code yX0_sayOn cX0_sayOn 8 (none) ∈ zt := zt_at 1230 (by decide +kernel)
theorem zvs_X0_sayOn : zvS yX0_sayOn cX0_sayOn 8 (none) 4 := ⟨zl_50, zl_31, ⟨by decide +kernel, by decide +kernel, by decide +kernel⟩, by decide⟩
theorem zl_51 : Cond.methodLink RX0 60 yX0_sayOn ∈ zt := zt_at 1227 (by decide +kernel)
theorem zl_52 : Cond.instanceMethod yX0_sayOn ∈ zt := zt_at 1229 (by decide +kernel)
theorem zl_53 : Cond.selects RX0 yX0_sayOn yX0_sayOn ∈ zt := zt_at 43 (by decide +kernel)
theorem dX0_reach_0 : decode cX0_reach 0 = .ok (.aload_n 0, 1) := by decide +kernel
theorem dX0_reach_1 : decode cX0_reach 1 = .ok (.getfield 9, 3) := by decide +kernel
theorem dX0_reach_4 : decode cX0_reach 4 = .ok (.iconst (-1), 1) := by decide +kernel
theorem dX0_reach_5 : decode cX0_reach 5 = .ok (.invokestatic 54, 3) := by decide +kernel
theorem dX0_reach_8 : decode cX0_reach 8 = .ok (.aload_n 0, 1) := by decide +kernel
theorem dX0_reach_9 : decode cX0_reach 9 = .ok (.getfield 9, 3) := by decide +kernel
theorem dX0_reach_12 : decode cX0_reach 12 = .ok (.iload_n 2, 1) := by decide +kernel
theorem dX0_reach_13 : decode cX0_reach 13 = .ok (.iconst 0, 1) := by decide +kernel
theorem dX0_reach_14 : decode cX0_reach 14 = .ok (.iastore, 1) := by decide +kernel
theorem dX0_reach_15 : decode cX0_reach 15 = .ok (.iconst 1, 1) := by decide +kernel
theorem dX0_reach_16 : decode cX0_reach 16 = .ok (.istore 5, 2) := by decide +kernel
theorem dX0_reach_18 : decode cX0_reach 18 = .ok (.iload 5, 2) := by decide +kernel
theorem dX0_reach_20 : decode cX0_reach 20 = .ok (.aload_n 1, 1) := by decide +kernel
theorem dX0_reach_21 : decode cX0_reach 21 = .ok (.getfield 21, 3) := by decide +kernel
theorem dX0_reach_24 : decode cX0_reach 24 = .ok (.if_icmp .ge 48, 3) := by decide +kernel
theorem dX0_reach_27 : decode cX0_reach 27 = .ok (.iconst 0, 1) := by decide +kernel
theorem dX0_reach_28 : decode cX0_reach 28 = .ok (.istore 6, 2) := by decide +kernel
theorem dX0_reach_30 : decode cX0_reach 30 = .ok (.iload 6, 2) := by decide +kernel
theorem dX0_reach_32 : decode cX0_reach 32 = .ok (.aload_n 1, 1) := by decide +kernel
theorem dX0_reach_33 : decode cX0_reach 33 = .ok (.getfield 21, 3) := by decide +kernel
theorem dX0_reach_36 : decode cX0_reach 36 = .ok (.if_icmp .ge 30, 3) := by decide +kernel
theorem dX0_reach_39 : decode cX0_reach 39 = .ok (.aload_n 0, 1) := by decide +kernel
theorem dX0_reach_40 : decode cX0_reach 40 = .ok (.getfield 9, 3) := by decide +kernel
theorem dX0_reach_43 : decode cX0_reach 43 = .ok (.iload 6, 2) := by decide +kernel
theorem dX0_reach_45 : decode cX0_reach 45 = .ok (.iaload, 1) := by decide +kernel
theorem dX0_reach_46 : decode cX0_reach 46 = .ok (.iconst (-1), 1) := by decide +kernel
theorem dX0_reach_47 : decode cX0_reach 47 = .ok (.if_icmp .eq 13, 3) := by decide +kernel
theorem dX0_reach_50 : decode cX0_reach 50 = .ok (.aload_n 0, 1) := by decide +kernel
theorem dX0_reach_51 : decode cX0_reach 51 = .ok (.aload_n 1, 1) := by decide +kernel
theorem dX0_reach_52 : decode cX0_reach 52 = .ok (.iload 6, 2) := by decide +kernel
theorem dX0_reach_54 : decode cX0_reach 54 = .ok (.iload_n 3, 1) := by decide +kernel
theorem dX0_reach_55 : decode cX0_reach 55 = .ok (.iload 4, 2) := by decide +kernel
theorem dX0_reach_57 : decode cX0_reach 57 = .ok (.invokevirtual 60, 3) := by decide +kernel
theorem dX0_reach_60 : decode cX0_reach 60 = .ok (.iinc 6 1, 3) := by decide +kernel
theorem dX0_reach_63 : decode cX0_reach 63 = .ok (.goto (-33), 3) := by decide +kernel
theorem dX0_reach_66 : decode cX0_reach 66 = .ok (.iinc 5 1, 3) := by decide +kernel
theorem dX0_reach_69 : decode cX0_reach 69 = .ok (.goto (-51), 3) := by decide +kernel
theorem dX0_reach_72 : decode cX0_reach 72 = .ok (.return_, 1) := by decide +kernel
noncomputable def fX0_reach_l30 (x1 : Nat) (x0 : Nat) (x3 : Int32) (x4 : Int32) (F19 : Int32 → zM → Option (zM)) (x6_17 : Int32) (m18 : zM) : Option (zM) :=
  zb1 (zm_gI m18 9 x1 4) fun v23 =>
  if v23 ≤ x6_17 then (
  some m18)
  else (
  zb1 (zm_gR m18 0 x0 0) fun v25 =>
  zb1 (zm_aI m18 0 v25 x6_17) fun v27 =>
  zc1 (if v27 = (-1) then (
  some m18)
  else (
  zb1 (fX0_sayOn m18 x0 x1 x6_17 x3 x4) fun m32 =>
  some m32) : Option (zM)) fun (m29 : zM) =>
  F19 (x6_17 + 1) m29)
noncomputable def fX0_reach_l18 (x1 : Nat) (x0 : Nat) (x3 : Int32) (x4 : Int32) (F11 : Int32 → zM → Option (zM)) (x5_9 : Int32) (m10 : zM) : Option (zM) :=
  zb1 (zm_gI m10 9 x1 4) fun v15 =>
  if v15 ≤ x5_9 then (
  some m10)
  else (
  zb1 (zf2 (fX0_reach_l30 x1 x0 x3 x4) zfu 0 m10 : Option (zM)) fun (m21 : zM) =>
  F11 (x5_9 + 1) m21)
noncomputable def fX0_reach (μ : zM) (x0 : Nat) (x1 : Nat) (x2 : Int32) (x3 : Int32) (x4 : Int32) : Option (zM) := zgd (zm_ck μ 0 x0) <|
  zb1 (zm_gR μ 0 x0 0) fun v1 =>
  zb1 (fJ7_fill_53178 μ v1 (-1)) fun m4 =>
  zb1 (zm_gR m4 0 x0 0) fun v5 =>
  zb1 (zm_sI m4 0 v5 x2 0) fun m7 =>
  zb1 (zf2 (fX0_reach_l18 x1 x0 x3 x4) zfu 1 m7 : Option (zM)) fun (m13 : zM) =>
  some m13
theorem fX0_reach_ck {μ : zM} {x0 : Nat} {x1 : Nat} {x2 : Int32} {x3 : Int32} {x4 : Int32} {z : zM} (h : fX0_reach μ x0 x1 x2 x3 x4 = some z) : zm_ck μ 0 x0 = true := (zgd_s h).1
set_option maxHeartbeats 4000000 in
set_option maxRecDepth 100000 in
theorem cX0_reach_ok {μ : zM} {x0 : Nat} {x1 : Nat} {x2 : Int32} {x3 : Int32} {x4 : Int32} {mo : zM} (hf : fX0_reach μ x0 x1 x2 x3 x4 = some mo) : zC yX0_reach cX0_reach 7 (none) 3 0 0 [.ref x0, .ref x1, .int x2, .int x3, .int x4] μ (none) mo := by
  replace hf := (zgd_s hf).2
  refine zC.of (by decide) (Nat.le_of_ble_eq_true rfl) (fun K hin => ?_)
  clear hin
  show zz K cX0_reach (7, RX0, none, 3, 0, 0, none, mo) 0 0 0 [(0, .ref x0), (1, .ref x1), (2, .int x2), (3, .int x3), (4, .int x4)] [] μ
  refine zr_aload_n 0 dX0_reach_0 rfl ?_
  replace hf := zb1_s hf
  obtain ⟨v1, h2, hf⟩ := hf
  refine zr_get (zm_gR_g h2) zk0 (by decide) zl_4 dX0_reach_1 ?_
  refine zr_iconst (-1) dX0_reach_4 (by decide) ?_
  replace hf := zb1_s hf
  obtain ⟨m4, h3, hf⟩ := hf
  refine zr_callS [.ref v1, .int (-1)] (cJ7_fill_53178_ok h3) zvs_J7_fill_53178 zl_49 zl_48 rfl (Nat.le_of_ble_eq_true rfl) (Nat.le_of_ble_eq_true rfl) (Nat.le_of_ble_eq_true rfl) (Nat.le_of_ble_eq_true rfl) dX0_reach_5 rfl ?_
  refine zr_aload_n 0 dX0_reach_8 rfl ?_
  replace hf := zb1_s hf
  obtain ⟨v5, h6, hf⟩ := hf
  refine zr_get (zm_gR_g h6) zk0 (by decide) zl_4 dX0_reach_9 ?_
  refine zr_iload_n 2 dX0_reach_12 rfl ?_
  refine zr_iconst 0 dX0_reach_13 (by decide) ?_
  replace hf := zb1_s hf
  obtain ⟨m7, h8, hf⟩ := hf
  refine zr_iast h8 dX0_reach_14 ?_
  refine zr_iconst 1 dX0_reach_15 (by decide) ?_
  refine zr_istore [(5, .int 1), (0, .ref x0), (1, .ref x1), (2, .int x2), (3, .int x3), (4, .int x4)] dX0_reach_16 (Nat.le_of_ble_eq_true rfl) rfl ?_
  replace hf := zb1_s hf
  obtain ⟨m13, hg, hf⟩ := hf
  have hj14 : zz K cX0_reach (7, RX0, none, 3, 0, 0, none, mo) 0 0 72 [] [] m13 := by
    cases hf
    exact zr_vret dX0_reach_72
  clear hf
  have hf := hg
  clear hg
  have hL34 : ∀ (n : Nat) (x5_9 : Int32) (m10 : zM), zf2 (fX0_reach_l18 x1 x0 x3 x4) n x5_9 m10 = some m13 → zz K cX0_reach (7, RX0, none, 3, 0, 0, none, mo) 0 0 18 [(0, .ref x0), (1, .ref x1), (3, .int x3), (4, .int x4), (5, .int x5_9)] [] m10 := by
    intro n
    induction n with
    | zero => intro x5_9 m10 hf; cases hf
    | succ n ih12 =>
      intro x5_9 m10 hf
      replace hf := zf2_s hf
      generalize zf2 (fX0_reach_l18 x1 x0 x3 x4) n = F11 at hf ih12
      unfold fX0_reach_l18 at hf
      refine zr_iload 4 dX0_reach_18 rfl ?_
      refine zr_aload_n 1 dX0_reach_20 rfl ?_
      replace hf := zb1_s hf
      obtain ⟨v15, h16, hf⟩ := hf
      refine zr_get (zm_gI_g h16) zk9 (by decide) zl_23 dX0_reach_21 ?_
      refine zr_icmp_ge 72 dX0_reach_24 (by decide) (fun hc => ?_) (fun hc => ?_)
      · rw [if_pos hc] at hf
        cases hf
        exact zr_lv [] rfl hj14
      · rw [if_neg hc] at hf
        refine zr_iconst 0 dX0_reach_27 (by decide) ?_
        refine zr_istore [(6, .int 0), (0, .ref x0), (1, .ref x1), (3, .int x3), (4, .int x4), (5, .int x5_9)] dX0_reach_28 (Nat.le_of_ble_eq_true rfl) rfl ?_
        replace hf := zb1_s hf
        obtain ⟨m21, hg, hf⟩ := hf
        have hj22 : zz K cX0_reach (7, RX0, none, 3, 0, 0, none, mo) 0 0 66 [(0, .ref x0), (1, .ref x1), (3, .int x3), (4, .int x4), (5, .int x5_9)] [] m21 := by
          refine zr_iinc (j := 4) (x5_9 + 1) [(5, .int (x5_9 + 1)), (0, .ref x0), (1, .ref x1), (3, .int x3), (4, .int x4)] dX0_reach_66 rfl rfl (Nat.le_of_ble_eq_true rfl) rfl ?_
          refine zr_goto 18 dX0_reach_69 (by decide) ?_
          exact zr_lv [1, 2, 3, 4, 0] rfl (ih12 (x5_9 + 1) m21 hf)
        clear hf
        have hf := hg
        clear hg
        have hL33 : ∀ (n : Nat) (x6_17 : Int32) (m18 : zM), zf2 (fX0_reach_l30 x1 x0 x3 x4) n x6_17 m18 = some m21 → zz K cX0_reach (7, RX0, none, 3, 0, 0, none, mo) 0 0 30 [(0, .ref x0), (1, .ref x1), (3, .int x3), (4, .int x4), (5, .int x5_9), (6, .int x6_17)] [] m18 := by
          intro n
          induction n with
          | zero => intro x6_17 m18 hf; cases hf
          | succ n ih20 =>
            intro x6_17 m18 hf
            replace hf := zf2_s hf
            generalize zf2 (fX0_reach_l30 x1 x0 x3 x4) n = F19 at hf ih20
            unfold fX0_reach_l30 at hf
            refine zr_iload 5 dX0_reach_30 rfl ?_
            refine zr_aload_n 1 dX0_reach_32 rfl ?_
            replace hf := zb1_s hf
            obtain ⟨v23, h24, hf⟩ := hf
            refine zr_get (zm_gI_g h24) zk9 (by decide) zl_23 dX0_reach_33 ?_
            refine zr_icmp_ge 66 dX0_reach_36 (by decide) (fun hc => ?_) (fun hc => ?_)
            · rw [if_pos hc] at hf
              cases hf
              exact zr_lv [0, 1, 2, 3, 4] rfl hj22
            · rw [if_neg hc] at hf
              refine zr_aload_n 0 dX0_reach_39 rfl ?_
              replace hf := zb1_s hf
              obtain ⟨v25, h26, hf⟩ := hf
              refine zr_get (zm_gR_g h26) zk0 (by decide) zl_4 dX0_reach_40 ?_
              refine zr_iload 5 dX0_reach_43 rfl ?_
              replace hf := zb1_s hf
              obtain ⟨v27, h28, hf⟩ := hf
              refine zr_iald h28 dX0_reach_45 ?_
              refine zr_iconst (-1) dX0_reach_46 (by decide) ?_
              replace hf := zc1_s hf
              obtain ⟨m29, hg, hf⟩ := hf
              have hj30 : zz K cX0_reach (7, RX0, none, 3, 0, 0, none, mo) 0 0 60 [(0, .ref x0), (1, .ref x1), (3, .int x3), (4, .int x4), (5, .int x5_9), (6, .int x6_17)] [] m29 := by
                refine zr_iinc (j := 5) (x6_17 + 1) [(6, .int (x6_17 + 1)), (0, .ref x0), (1, .ref x1), (3, .int x3), (4, .int x4), (5, .int x5_9)] dX0_reach_60 rfl rfl (Nat.le_of_ble_eq_true rfl) rfl ?_
                refine zr_goto 30 dX0_reach_63 (by decide) ?_
                exact zr_lv [1, 2, 3, 4, 5, 0] rfl (ih20 (x6_17 + 1) m29 hf)
              clear hf
              have hf := hg
              clear hg
              refine zr_icmp_eq 60 dX0_reach_47 (by decide) (fun hc => ?_) (fun hc => ?_)
              · rw [if_pos hc] at hf
                cases hf
                exact zr_lv [0, 1, 2, 3, 4, 5] rfl hj30
              · rw [if_neg hc] at hf
                refine zr_aload_n 0 dX0_reach_50 rfl ?_
                refine zr_aload_n 1 dX0_reach_51 rfl ?_
                refine zr_iload 5 dX0_reach_52 rfl ?_
                refine zr_iload_n 2 dX0_reach_54 rfl ?_
                refine zr_iload 3 dX0_reach_55 rfl ?_
                replace hf := zb1_s hf
                obtain ⟨m32, h31, hf⟩ := hf
                refine zr_callV (ci := 0) [.ref x1, .int x6_17, .int x3, .int x4] (cX0_sayOn_ok h31) zvs_X0_sayOn zl_52 zl_53 (fX0_sayOn_ck h31) rfl rfl zl_51 rfl (Nat.le_of_ble_eq_true rfl) (Nat.le_of_ble_eq_true rfl) (Nat.le_of_ble_eq_true rfl) (Nat.le_of_ble_eq_true rfl) dX0_reach_57 rfl ?_
                cases hf
                exact zr_lv [0, 1, 2, 3, 4, 5] rfl hj30
        exact zr_lv [1, 2, 3, 4, 5, 0] rfl (hL33 _ 0 m10 hf)
  exact zr_lv [1, 2, 4, 5, 0] rfl (hL34 _ 1 m7 hf)
theorem dX0_howManyReached_0 : decode cX0_howManyReached 0 = .ok (.iconst 0, 1) := by decide +kernel
theorem dX0_howManyReached_1 : decode cX0_howManyReached 1 = .ok (.istore_n 1, 1) := by decide +kernel
theorem dX0_howManyReached_2 : decode cX0_howManyReached 2 = .ok (.iconst 0, 1) := by decide +kernel
theorem dX0_howManyReached_3 : decode cX0_howManyReached 3 = .ok (.istore_n 2, 1) := by decide +kernel
theorem dX0_howManyReached_4 : decode cX0_howManyReached 4 = .ok (.iload_n 2, 1) := by decide +kernel
theorem dX0_howManyReached_5 : decode cX0_howManyReached 5 = .ok (.bipush 6, 2) := by decide +kernel
theorem dX0_howManyReached_7 : decode cX0_howManyReached 7 = .ok (.if_icmp .ge 22, 3) := by decide +kernel
theorem dX0_howManyReached_10 : decode cX0_howManyReached 10 = .ok (.aload_n 0, 1) := by decide +kernel
theorem dX0_howManyReached_11 : decode cX0_howManyReached 11 = .ok (.getfield 9, 3) := by decide +kernel
theorem dX0_howManyReached_14 : decode cX0_howManyReached 14 = .ok (.iload_n 2, 1) := by decide +kernel
theorem dX0_howManyReached_15 : decode cX0_howManyReached 15 = .ok (.iaload, 1) := by decide +kernel
theorem dX0_howManyReached_16 : decode cX0_howManyReached 16 = .ok (.iconst (-1), 1) := by decide +kernel
theorem dX0_howManyReached_17 : decode cX0_howManyReached 17 = .ok (.if_icmp .eq 6, 3) := by decide +kernel
theorem dX0_howManyReached_20 : decode cX0_howManyReached 20 = .ok (.iinc 1 1, 3) := by decide +kernel
theorem dX0_howManyReached_23 : decode cX0_howManyReached 23 = .ok (.iinc 2 1, 3) := by decide +kernel
theorem dX0_howManyReached_26 : decode cX0_howManyReached 26 = .ok (.goto (-22), 3) := by decide +kernel
theorem dX0_howManyReached_29 : decode cX0_howManyReached 29 = .ok (.iload_n 1, 1) := by decide +kernel
theorem dX0_howManyReached_30 : decode cX0_howManyReached 30 = .ok (.ireturn, 1) := by decide +kernel
noncomputable def fX0_howManyReached_l4 (μ : zM) (x0 : Nat) (F3 : Int32 → Int32 → Option (Int32)) (x1_1 : Int32) (x2_2 : Int32) : Option (Int32) :=
  if 6 ≤ x2_2 then (
  some x1_1)
  else (
  zb1 (zm_gR μ 0 x0 0) fun v7 =>
  zb1 (zm_aI μ 0 v7 x2_2) fun v9 =>
  zb1 (if v9 = (-1) then (
  some x1_1)
  else (
  some (x1_1 + 1)) : Option (Int32)) fun (x1_11 : Int32) =>
  F3 x1_11 (x2_2 + 1))
noncomputable def fX0_howManyReached (μ : zM) (x0 : Nat) : Option (Int32) := zgd (zm_ck μ 0 x0) <|
  zb1 (zf2 (fX0_howManyReached_l4 μ x0) zfu 0 0 : Option (Int32)) fun (x1_5 : Int32) =>
  some x1_5
theorem fX0_howManyReached_ck {μ : zM} {x0 : Nat} {z : Int32} (h : fX0_howManyReached μ x0 = some z) : zm_ck μ 0 x0 = true := (zgd_s h).1
set_option maxHeartbeats 4000000 in
set_option maxRecDepth 100000 in
theorem cX0_howManyReached_ok {μ : zM} {x0 : Nat} {r : Int32} (hf : fX0_howManyReached μ x0 = some r) : zC yX0_howManyReached cX0_howManyReached 3 (some .int) 0 0 0 [.ref x0] μ (some (.int r)) μ := by
  replace hf := (zgd_s hf).2
  refine zC.of (by decide) (Nat.le_of_ble_eq_true rfl) (fun K hin => ?_)
  clear hin
  show zz K cX0_howManyReached (3, RX0, some .int, 0, 0, 0, some (.int r), μ) 0 0 0 [(0, .ref x0)] [] μ
  refine zr_iconst 0 dX0_howManyReached_0 (by decide) ?_
  refine zr_istore_n [(1, .int 0), (0, .ref x0)] dX0_howManyReached_1 (Nat.le_of_ble_eq_true rfl) rfl ?_
  refine zr_iconst 0 dX0_howManyReached_2 (by decide) ?_
  refine zr_istore_n [(2, .int 0), (1, .int 0), (0, .ref x0)] dX0_howManyReached_3 (Nat.le_of_ble_eq_true rfl) rfl ?_
  replace hf := zb1_s hf
  obtain ⟨x1_5, hg, hf⟩ := hf
  have hj6 : zz K cX0_howManyReached (3, RX0, some .int, 0, 0, 0, some (.int r), μ) 0 0 29 [(1, .int x1_5)] [] μ := by
    refine zr_iload_n 0 dX0_howManyReached_29 rfl ?_
    cases hf
    exact zr_iret dX0_howManyReached_30
  clear hf
  have hf := hg
  clear hg
  have hL13 : ∀ (n : Nat) (x1_1 : Int32) (x2_2 : Int32), zf2 (fX0_howManyReached_l4 μ x0) n x1_1 x2_2 = some x1_5 → zz K cX0_howManyReached (3, RX0, some .int, 0, 0, 0, some (.int r), μ) 0 0 4 [(0, .ref x0), (1, .int x1_1), (2, .int x2_2)] [] μ := by
    intro n
    induction n with
    | zero => intro x1_1 x2_2 hf; cases hf
    | succ n ih4 =>
      intro x1_1 x2_2 hf
      replace hf := zf2_s hf
      generalize zf2 (fX0_howManyReached_l4 μ x0) n = F3 at hf ih4
      unfold fX0_howManyReached_l4 at hf
      refine zr_iload_n 2 dX0_howManyReached_4 rfl ?_
      refine zr_bipush 6 dX0_howManyReached_5 (by decide) ?_
      refine zr_icmp_ge 29 dX0_howManyReached_7 (by decide) (fun hc => ?_) (fun hc => ?_)
      · rw [if_pos hc] at hf
        cases hf
        exact zr_lv [1] rfl hj6
      · rw [if_neg hc] at hf
        refine zr_aload_n 0 dX0_howManyReached_10 rfl ?_
        replace hf := zb1_s hf
        obtain ⟨v7, h8, hf⟩ := hf
        refine zr_get (zm_gR_g h8) zk0 (by decide) zl_4 dX0_howManyReached_11 ?_
        refine zr_iload_n 2 dX0_howManyReached_14 rfl ?_
        replace hf := zb1_s hf
        obtain ⟨v9, h10, hf⟩ := hf
        refine zr_iald h10 dX0_howManyReached_15 ?_
        refine zr_iconst (-1) dX0_howManyReached_16 (by decide) ?_
        replace hf := zb1_s hf
        obtain ⟨x1_11, hg, hf⟩ := hf
        have hj12 : zz K cX0_howManyReached (3, RX0, some .int, 0, 0, 0, some (.int r), μ) 0 0 23 [(0, .ref x0), (1, .int x1_11), (2, .int x2_2)] [] μ := by
          refine zr_iinc (j := 2) (x2_2 + 1) [(2, .int (x2_2 + 1)), (0, .ref x0), (1, .int x1_11)] dX0_howManyReached_23 rfl rfl (Nat.le_of_ble_eq_true rfl) rfl ?_
          refine zr_goto 4 dX0_howManyReached_26 (by decide) ?_
          exact zr_lv [1, 2, 0] rfl (ih4 x1_11 (x2_2 + 1) hf)
        clear hf
        have hf := hg
        clear hg
        refine zr_icmp_eq 23 dX0_howManyReached_17 (by decide) (fun hc => ?_) (fun hc => ?_)
        · rw [if_pos hc] at hf
          cases hf
          exact zr_lv [0, 1, 2] rfl hj12
        · rw [if_neg hc] at hf
          refine zr_iinc (j := 1) (x1_1 + 1) [(1, .int (x1_1 + 1)), (0, .ref x0), (2, .int x2_2)] dX0_howManyReached_20 rfl rfl (Nat.le_of_ble_eq_true rfl) rfl ?_
          cases hf
          exact zr_lv [1, 0, 2] rfl hj12
  exact zr_lv [2, 1, 0] rfl (hL13 _ 0 0 hf)
theorem zl_54 : Cond.methodLink RX0 71 Lib.Math.max.name ∈ zt := zt_at 1240 (by decide +kernel)
theorem zl_55 : Cond.static Lib.Math.max.name ∈ zt := zt_at 755 (by decide +kernel)
theorem zl_56 : Cond.code Lib.Math.max.name Lib.Math.max.code 2 (some .int) ∈ zt := zt_at 756 (by decide +kernel)
theorem dX0_lastReached_0 : decode cX0_lastReached 0 = .ok (.iconst 0, 1) := by decide +kernel
theorem dX0_lastReached_1 : decode cX0_lastReached 1 = .ok (.istore_n 1, 1) := by decide +kernel
theorem dX0_lastReached_2 : decode cX0_lastReached 2 = .ok (.iconst 0, 1) := by decide +kernel
theorem dX0_lastReached_3 : decode cX0_lastReached 3 = .ok (.istore_n 2, 1) := by decide +kernel
theorem dX0_lastReached_4 : decode cX0_lastReached 4 = .ok (.iload_n 2, 1) := by decide +kernel
theorem dX0_lastReached_5 : decode cX0_lastReached 5 = .ok (.bipush 6, 2) := by decide +kernel
theorem dX0_lastReached_7 : decode cX0_lastReached 7 = .ok (.if_icmp .ge 20, 3) := by decide +kernel
theorem dX0_lastReached_10 : decode cX0_lastReached 10 = .ok (.iload_n 1, 1) := by decide +kernel
theorem dX0_lastReached_11 : decode cX0_lastReached 11 = .ok (.aload_n 0, 1) := by decide +kernel
theorem dX0_lastReached_12 : decode cX0_lastReached 12 = .ok (.getfield 9, 3) := by decide +kernel
theorem dX0_lastReached_15 : decode cX0_lastReached 15 = .ok (.iload_n 2, 1) := by decide +kernel
theorem dX0_lastReached_16 : decode cX0_lastReached 16 = .ok (.iaload, 1) := by decide +kernel
theorem dX0_lastReached_17 : decode cX0_lastReached 17 = .ok (.invokestatic 71, 3) := by decide +kernel
theorem dX0_lastReached_20 : decode cX0_lastReached 20 = .ok (.istore_n 1, 1) := by decide +kernel
theorem dX0_lastReached_21 : decode cX0_lastReached 21 = .ok (.iinc 2 1, 3) := by decide +kernel
theorem dX0_lastReached_24 : decode cX0_lastReached 24 = .ok (.goto (-20), 3) := by decide +kernel
theorem dX0_lastReached_27 : decode cX0_lastReached 27 = .ok (.iload_n 1, 1) := by decide +kernel
theorem dX0_lastReached_28 : decode cX0_lastReached 28 = .ok (.ireturn, 1) := by decide +kernel
noncomputable def fX0_lastReached_l4 (μ : zM) (x0 : Nat) (F3 : Int32 → Int32 → Option (Int32)) (x1_1 : Int32) (x2_2 : Int32) : Option (Int32) :=
  if 6 ≤ x2_2 then (
  some x1_1)
  else (
  zb1 (zm_gR μ 0 x0 0) fun v7 =>
  zb1 (zm_aI μ 0 v7 x2_2) fun v9 =>
  F3 (if x1_1 < v9 then v9 else x1_1 : Int32) (x2_2 + 1))
noncomputable def fX0_lastReached (μ : zM) (x0 : Nat) : Option (Int32) := zgd (zm_ck μ 0 x0) <|
  zb1 (zf2 (fX0_lastReached_l4 μ x0) zfu 0 0 : Option (Int32)) fun (x1_5 : Int32) =>
  some x1_5
theorem fX0_lastReached_ck {μ : zM} {x0 : Nat} {z : Int32} (h : fX0_lastReached μ x0 = some z) : zm_ck μ 0 x0 = true := (zgd_s h).1
set_option maxHeartbeats 4000000 in
set_option maxRecDepth 100000 in
theorem cX0_lastReached_ok {μ : zM} {x0 : Nat} {r : Int32} (hf : fX0_lastReached μ x0 = some r) : zC yX0_lastReached cX0_lastReached 3 (some .int) 1 0 0 [.ref x0] μ (some (.int r)) μ := by
  replace hf := (zgd_s hf).2
  refine zC.of (by decide) (Nat.le_of_ble_eq_true rfl) (fun K hin => ?_)
  clear hin
  show zz K cX0_lastReached (3, RX0, some .int, 1, 0, 0, some (.int r), μ) 0 0 0 [(0, .ref x0)] [] μ
  refine zr_iconst 0 dX0_lastReached_0 (by decide) ?_
  refine zr_istore_n [(1, .int 0), (0, .ref x0)] dX0_lastReached_1 (Nat.le_of_ble_eq_true rfl) rfl ?_
  refine zr_iconst 0 dX0_lastReached_2 (by decide) ?_
  refine zr_istore_n [(2, .int 0), (1, .int 0), (0, .ref x0)] dX0_lastReached_3 (Nat.le_of_ble_eq_true rfl) rfl ?_
  replace hf := zb1_s hf
  obtain ⟨x1_5, hg, hf⟩ := hf
  have hj6 : zz K cX0_lastReached (3, RX0, some .int, 1, 0, 0, some (.int r), μ) 0 0 27 [(1, .int x1_5)] [] μ := by
    refine zr_iload_n 0 dX0_lastReached_27 rfl ?_
    cases hf
    exact zr_iret dX0_lastReached_28
  clear hf
  have hf := hg
  clear hg
  have hL11 : ∀ (n : Nat) (x1_1 : Int32) (x2_2 : Int32), zf2 (fX0_lastReached_l4 μ x0) n x1_1 x2_2 = some x1_5 → zz K cX0_lastReached (3, RX0, some .int, 1, 0, 0, some (.int r), μ) 0 0 4 [(0, .ref x0), (1, .int x1_1), (2, .int x2_2)] [] μ := by
    intro n
    induction n with
    | zero => intro x1_1 x2_2 hf; cases hf
    | succ n ih4 =>
      intro x1_1 x2_2 hf
      replace hf := zf2_s hf
      generalize zf2 (fX0_lastReached_l4 μ x0) n = F3 at hf ih4
      unfold fX0_lastReached_l4 at hf
      refine zr_iload_n 2 dX0_lastReached_4 rfl ?_
      refine zr_bipush 6 dX0_lastReached_5 (by decide) ?_
      refine zr_icmp_ge 27 dX0_lastReached_7 (by decide) (fun hc => ?_) (fun hc => ?_)
      · rw [if_pos hc] at hf
        cases hf
        exact zr_lv [1] rfl hj6
      · rw [if_neg hc] at hf
        refine zr_iload_n 1 dX0_lastReached_10 rfl ?_
        refine zr_aload_n 0 dX0_lastReached_11 rfl ?_
        replace hf := zb1_s hf
        obtain ⟨v7, h8, hf⟩ := hf
        refine zr_get (zm_gR_g h8) zk0 (by decide) zl_4 dX0_lastReached_12 ?_
        refine zr_iload_n 2 dX0_lastReached_15 rfl ?_
        replace hf := zb1_s hf
        obtain ⟨v9, h10, hf⟩ := hf
        refine zr_iald h10 dX0_lastReached_16 ?_
        refine zr_mmax zl_54 zl_55 zl_11 zl_56 (Nat.le_of_ble_eq_true rfl) (Nat.le_of_ble_eq_true rfl) (Nat.le_of_ble_eq_true rfl) (Nat.le_of_ble_eq_true rfl) dX0_lastReached_17 ?_
        refine zr_istore_n [(1, .int (if x1_1 < v9 then v9 else x1_1 : Int32)), (0, .ref x0), (2, .int x2_2)] dX0_lastReached_20 (Nat.le_of_ble_eq_true rfl) rfl ?_
        refine zr_iinc (j := 2) (x2_2 + 1) [(2, .int (x2_2 + 1)), (1, .int (if x1_1 < v9 then v9 else x1_1 : Int32)), (0, .ref x0)] dX0_lastReached_21 rfl rfl (Nat.le_of_ble_eq_true rfl) rfl ?_
        refine zr_goto 4 dX0_lastReached_24 (by decide) ?_
        exact zr_lv [2, 1, 0] rfl (ih4 (if x1_1 < v9 then v9 else x1_1 : Int32) (x2_2 + 1) hf)
  exact zr_lv [2, 1, 0] rfl (hL11 _ 0 0 hf)
theorem zl_57 : Cond.constant RJ6 265 1431655765 ∈ zt := zt_at 902 (by decide +kernel)
theorem zl_58 : Cond.constant RJ6 266 858993459 ∈ zt := zt_at 903 (by decide +kernel)
theorem zl_59 : Cond.constant RJ6 267 252645135 ∈ zt := zt_at 904 (by decide +kernel)
theorem dJ6_bitCount_0f7a4_0 : decode cJ6_bitCount_0f7a4 0 = .ok (.iload_n 0, 1) := by decide +kernel
theorem dJ6_bitCount_0f7a4_1 : decode cJ6_bitCount_0f7a4 1 = .ok (.iload_n 0, 1) := by decide +kernel
theorem dJ6_bitCount_0f7a4_2 : decode cJ6_bitCount_0f7a4 2 = .ok (.iconst 1, 1) := by decide +kernel
theorem dJ6_bitCount_0f7a4_3 : decode cJ6_bitCount_0f7a4 3 = .ok (.iushr, 1) := by decide +kernel
theorem dJ6_bitCount_0f7a4_4 : decode cJ6_bitCount_0f7a4 4 = .ok (.ldc_w 265, 3) := by decide +kernel
theorem dJ6_bitCount_0f7a4_7 : decode cJ6_bitCount_0f7a4 7 = .ok (.iand, 1) := by decide +kernel
theorem dJ6_bitCount_0f7a4_8 : decode cJ6_bitCount_0f7a4 8 = .ok (.isub, 1) := by decide +kernel
theorem dJ6_bitCount_0f7a4_9 : decode cJ6_bitCount_0f7a4 9 = .ok (.istore_n 0, 1) := by decide +kernel
theorem dJ6_bitCount_0f7a4_10 : decode cJ6_bitCount_0f7a4 10 = .ok (.iload_n 0, 1) := by decide +kernel
theorem dJ6_bitCount_0f7a4_11 : decode cJ6_bitCount_0f7a4 11 = .ok (.ldc_w 266, 3) := by decide +kernel
theorem dJ6_bitCount_0f7a4_14 : decode cJ6_bitCount_0f7a4 14 = .ok (.iand, 1) := by decide +kernel
theorem dJ6_bitCount_0f7a4_15 : decode cJ6_bitCount_0f7a4 15 = .ok (.iload_n 0, 1) := by decide +kernel
theorem dJ6_bitCount_0f7a4_16 : decode cJ6_bitCount_0f7a4 16 = .ok (.iconst 2, 1) := by decide +kernel
theorem dJ6_bitCount_0f7a4_17 : decode cJ6_bitCount_0f7a4 17 = .ok (.iushr, 1) := by decide +kernel
theorem dJ6_bitCount_0f7a4_18 : decode cJ6_bitCount_0f7a4 18 = .ok (.ldc_w 266, 3) := by decide +kernel
theorem dJ6_bitCount_0f7a4_21 : decode cJ6_bitCount_0f7a4 21 = .ok (.iand, 1) := by decide +kernel
theorem dJ6_bitCount_0f7a4_22 : decode cJ6_bitCount_0f7a4 22 = .ok (.iadd, 1) := by decide +kernel
theorem dJ6_bitCount_0f7a4_23 : decode cJ6_bitCount_0f7a4 23 = .ok (.istore_n 0, 1) := by decide +kernel
theorem dJ6_bitCount_0f7a4_24 : decode cJ6_bitCount_0f7a4 24 = .ok (.iload_n 0, 1) := by decide +kernel
theorem dJ6_bitCount_0f7a4_25 : decode cJ6_bitCount_0f7a4 25 = .ok (.iload_n 0, 1) := by decide +kernel
theorem dJ6_bitCount_0f7a4_26 : decode cJ6_bitCount_0f7a4 26 = .ok (.iconst 4, 1) := by decide +kernel
theorem dJ6_bitCount_0f7a4_27 : decode cJ6_bitCount_0f7a4 27 = .ok (.iushr, 1) := by decide +kernel
theorem dJ6_bitCount_0f7a4_28 : decode cJ6_bitCount_0f7a4 28 = .ok (.iadd, 1) := by decide +kernel
theorem dJ6_bitCount_0f7a4_29 : decode cJ6_bitCount_0f7a4 29 = .ok (.ldc_w 267, 3) := by decide +kernel
theorem dJ6_bitCount_0f7a4_32 : decode cJ6_bitCount_0f7a4 32 = .ok (.iand, 1) := by decide +kernel
theorem dJ6_bitCount_0f7a4_33 : decode cJ6_bitCount_0f7a4 33 = .ok (.istore_n 0, 1) := by decide +kernel
theorem dJ6_bitCount_0f7a4_34 : decode cJ6_bitCount_0f7a4 34 = .ok (.iload_n 0, 1) := by decide +kernel
theorem dJ6_bitCount_0f7a4_35 : decode cJ6_bitCount_0f7a4 35 = .ok (.iload_n 0, 1) := by decide +kernel
theorem dJ6_bitCount_0f7a4_36 : decode cJ6_bitCount_0f7a4 36 = .ok (.bipush 8, 2) := by decide +kernel
theorem dJ6_bitCount_0f7a4_38 : decode cJ6_bitCount_0f7a4 38 = .ok (.iushr, 1) := by decide +kernel
theorem dJ6_bitCount_0f7a4_39 : decode cJ6_bitCount_0f7a4 39 = .ok (.iadd, 1) := by decide +kernel
theorem dJ6_bitCount_0f7a4_40 : decode cJ6_bitCount_0f7a4 40 = .ok (.istore_n 0, 1) := by decide +kernel
theorem dJ6_bitCount_0f7a4_41 : decode cJ6_bitCount_0f7a4 41 = .ok (.iload_n 0, 1) := by decide +kernel
theorem dJ6_bitCount_0f7a4_42 : decode cJ6_bitCount_0f7a4 42 = .ok (.iload_n 0, 1) := by decide +kernel
theorem dJ6_bitCount_0f7a4_43 : decode cJ6_bitCount_0f7a4 43 = .ok (.bipush 16, 2) := by decide +kernel
theorem dJ6_bitCount_0f7a4_45 : decode cJ6_bitCount_0f7a4 45 = .ok (.iushr, 1) := by decide +kernel
theorem dJ6_bitCount_0f7a4_46 : decode cJ6_bitCount_0f7a4 46 = .ok (.iadd, 1) := by decide +kernel
theorem dJ6_bitCount_0f7a4_47 : decode cJ6_bitCount_0f7a4 47 = .ok (.istore_n 0, 1) := by decide +kernel
theorem dJ6_bitCount_0f7a4_48 : decode cJ6_bitCount_0f7a4 48 = .ok (.iload_n 0, 1) := by decide +kernel
theorem dJ6_bitCount_0f7a4_49 : decode cJ6_bitCount_0f7a4 49 = .ok (.bipush 63, 2) := by decide +kernel
theorem dJ6_bitCount_0f7a4_51 : decode cJ6_bitCount_0f7a4 51 = .ok (.iand, 1) := by decide +kernel
theorem dJ6_bitCount_0f7a4_52 : decode cJ6_bitCount_0f7a4 52 = .ok (.ireturn, 1) := by decide +kernel
noncomputable def fJ6_bitCount_0f7a4 (μ : zM) (x0 : Int32) : Option (Int32) :=
  some ((((((((x0 - ((((x0 : Int32).toUInt32 >>> ((1 : Int32).toUInt32 &&& Int32.toUInt32 31)).toInt32) &&& 1431655765)) &&& 858993459) + ((((x0 - ((((x0 : Int32).toUInt32 >>> ((1 : Int32).toUInt32 &&& Int32.toUInt32 31)).toInt32) &&& 1431655765) : Int32).toUInt32 >>> ((2 : Int32).toUInt32 &&& Int32.toUInt32 31)).toInt32) &&& 858993459)) + (((((x0 - ((((x0 : Int32).toUInt32 >>> ((1 : Int32).toUInt32 &&& Int32.toUInt32 31)).toInt32) &&& 1431655765)) &&& 858993459) + ((((x0 - ((((x0 : Int32).toUInt32 >>> ((1 : Int32).toUInt32 &&& Int32.toUInt32 31)).toInt32) &&& 1431655765) : Int32).toUInt32 >>> ((2 : Int32).toUInt32 &&& Int32.toUInt32 31)).toInt32) &&& 858993459) : Int32).toUInt32 >>> ((4 : Int32).toUInt32 &&& Int32.toUInt32 31)).toInt32)) &&& 252645135) + (((((((x0 - ((((x0 : Int32).toUInt32 >>> ((1 : Int32).toUInt32 &&& Int32.toUInt32 31)).toInt32) &&& 1431655765)) &&& 858993459) + ((((x0 - ((((x0 : Int32).toUInt32 >>> ((1 : Int32).toUInt32 &&& Int32.toUInt32 31)).toInt32) &&& 1431655765) : Int32).toUInt32 >>> ((2 : Int32).toUInt32 &&& Int32.toUInt32 31)).toInt32) &&& 858993459)) + (((((x0 - ((((x0 : Int32).toUInt32 >>> ((1 : Int32).toUInt32 &&& Int32.toUInt32 31)).toInt32) &&& 1431655765)) &&& 858993459) + ((((x0 - ((((x0 : Int32).toUInt32 >>> ((1 : Int32).toUInt32 &&& Int32.toUInt32 31)).toInt32) &&& 1431655765) : Int32).toUInt32 >>> ((2 : Int32).toUInt32 &&& Int32.toUInt32 31)).toInt32) &&& 858993459) : Int32).toUInt32 >>> ((4 : Int32).toUInt32 &&& Int32.toUInt32 31)).toInt32)) &&& 252645135 : Int32).toUInt32 >>> ((8 : Int32).toUInt32 &&& Int32.toUInt32 31)).toInt32)) + ((((((((x0 - ((((x0 : Int32).toUInt32 >>> ((1 : Int32).toUInt32 &&& Int32.toUInt32 31)).toInt32) &&& 1431655765)) &&& 858993459) + ((((x0 - ((((x0 : Int32).toUInt32 >>> ((1 : Int32).toUInt32 &&& Int32.toUInt32 31)).toInt32) &&& 1431655765) : Int32).toUInt32 >>> ((2 : Int32).toUInt32 &&& Int32.toUInt32 31)).toInt32) &&& 858993459)) + (((((x0 - ((((x0 : Int32).toUInt32 >>> ((1 : Int32).toUInt32 &&& Int32.toUInt32 31)).toInt32) &&& 1431655765)) &&& 858993459) + ((((x0 - ((((x0 : Int32).toUInt32 >>> ((1 : Int32).toUInt32 &&& Int32.toUInt32 31)).toInt32) &&& 1431655765) : Int32).toUInt32 >>> ((2 : Int32).toUInt32 &&& Int32.toUInt32 31)).toInt32) &&& 858993459) : Int32).toUInt32 >>> ((4 : Int32).toUInt32 &&& Int32.toUInt32 31)).toInt32)) &&& 252645135) + (((((((x0 - ((((x0 : Int32).toUInt32 >>> ((1 : Int32).toUInt32 &&& Int32.toUInt32 31)).toInt32) &&& 1431655765)) &&& 858993459) + ((((x0 - ((((x0 : Int32).toUInt32 >>> ((1 : Int32).toUInt32 &&& Int32.toUInt32 31)).toInt32) &&& 1431655765) : Int32).toUInt32 >>> ((2 : Int32).toUInt32 &&& Int32.toUInt32 31)).toInt32) &&& 858993459)) + (((((x0 - ((((x0 : Int32).toUInt32 >>> ((1 : Int32).toUInt32 &&& Int32.toUInt32 31)).toInt32) &&& 1431655765)) &&& 858993459) + ((((x0 - ((((x0 : Int32).toUInt32 >>> ((1 : Int32).toUInt32 &&& Int32.toUInt32 31)).toInt32) &&& 1431655765) : Int32).toUInt32 >>> ((2 : Int32).toUInt32 &&& Int32.toUInt32 31)).toInt32) &&& 858993459) : Int32).toUInt32 >>> ((4 : Int32).toUInt32 &&& Int32.toUInt32 31)).toInt32)) &&& 252645135 : Int32).toUInt32 >>> ((8 : Int32).toUInt32 &&& Int32.toUInt32 31)).toInt32) : Int32).toUInt32 >>> ((16 : Int32).toUInt32 &&& Int32.toUInt32 31)).toInt32)) &&& 63)
set_option maxHeartbeats 4000000 in
set_option maxRecDepth 100000 in
theorem cJ6_bitCount_0f7a4_ok {μ : zM} {x0 : Int32} {r : Int32} (hf : fJ6_bitCount_0f7a4 μ x0 = some r) : zC yJ6_bitCount_0f7a4 cJ6_bitCount_0f7a4 1 (some .int) 0 0 0 [.int x0] μ (some (.int r)) μ := by
  unfold fJ6_bitCount_0f7a4 at hf
  refine zC.of (by decide) (Nat.le_of_ble_eq_true rfl) (fun K hin => ?_)
  clear hin
  show zz K cJ6_bitCount_0f7a4 (1, RJ6, some .int, 0, 0, 0, some (.int r), μ) 0 0 0 [(0, .int x0)] [] μ
  refine zr_iload_n 0 dJ6_bitCount_0f7a4_0 rfl ?_
  refine zr_iload_n 0 dJ6_bitCount_0f7a4_1 rfl ?_
  refine zr_iconst 1 dJ6_bitCount_0f7a4_2 (by decide) ?_
  refine zr_iushr dJ6_bitCount_0f7a4_3 ?_
  refine zr_ldcw zl_57 dJ6_bitCount_0f7a4_4 ?_
  refine zr_iand dJ6_bitCount_0f7a4_7 ?_
  refine zr_isub dJ6_bitCount_0f7a4_8 ?_
  refine zr_istore_n [(0, .int (x0 - ((((x0 : Int32).toUInt32 >>> ((1 : Int32).toUInt32 &&& Int32.toUInt32 31)).toInt32) &&& 1431655765)))] dJ6_bitCount_0f7a4_9 (Nat.le_of_ble_eq_true rfl) rfl ?_
  refine zr_iload_n 0 dJ6_bitCount_0f7a4_10 rfl ?_
  refine zr_ldcw zl_58 dJ6_bitCount_0f7a4_11 ?_
  refine zr_iand dJ6_bitCount_0f7a4_14 ?_
  refine zr_iload_n 0 dJ6_bitCount_0f7a4_15 rfl ?_
  refine zr_iconst 2 dJ6_bitCount_0f7a4_16 (by decide) ?_
  refine zr_iushr dJ6_bitCount_0f7a4_17 ?_
  refine zr_ldcw zl_58 dJ6_bitCount_0f7a4_18 ?_
  refine zr_iand dJ6_bitCount_0f7a4_21 ?_
  refine zr_iadd dJ6_bitCount_0f7a4_22 ?_
  refine zr_istore_n [(0, .int (((x0 - ((((x0 : Int32).toUInt32 >>> ((1 : Int32).toUInt32 &&& Int32.toUInt32 31)).toInt32) &&& 1431655765)) &&& 858993459) + ((((x0 - ((((x0 : Int32).toUInt32 >>> ((1 : Int32).toUInt32 &&& Int32.toUInt32 31)).toInt32) &&& 1431655765) : Int32).toUInt32 >>> ((2 : Int32).toUInt32 &&& Int32.toUInt32 31)).toInt32) &&& 858993459)))] dJ6_bitCount_0f7a4_23 (Nat.le_of_ble_eq_true rfl) rfl ?_
  refine zr_iload_n 0 dJ6_bitCount_0f7a4_24 rfl ?_
  refine zr_iload_n 0 dJ6_bitCount_0f7a4_25 rfl ?_
  refine zr_iconst 4 dJ6_bitCount_0f7a4_26 (by decide) ?_
  refine zr_iushr dJ6_bitCount_0f7a4_27 ?_
  refine zr_iadd dJ6_bitCount_0f7a4_28 ?_
  refine zr_ldcw zl_59 dJ6_bitCount_0f7a4_29 ?_
  refine zr_iand dJ6_bitCount_0f7a4_32 ?_
  refine zr_istore_n [(0, .int (((((x0 - ((((x0 : Int32).toUInt32 >>> ((1 : Int32).toUInt32 &&& Int32.toUInt32 31)).toInt32) &&& 1431655765)) &&& 858993459) + ((((x0 - ((((x0 : Int32).toUInt32 >>> ((1 : Int32).toUInt32 &&& Int32.toUInt32 31)).toInt32) &&& 1431655765) : Int32).toUInt32 >>> ((2 : Int32).toUInt32 &&& Int32.toUInt32 31)).toInt32) &&& 858993459)) + (((((x0 - ((((x0 : Int32).toUInt32 >>> ((1 : Int32).toUInt32 &&& Int32.toUInt32 31)).toInt32) &&& 1431655765)) &&& 858993459) + ((((x0 - ((((x0 : Int32).toUInt32 >>> ((1 : Int32).toUInt32 &&& Int32.toUInt32 31)).toInt32) &&& 1431655765) : Int32).toUInt32 >>> ((2 : Int32).toUInt32 &&& Int32.toUInt32 31)).toInt32) &&& 858993459) : Int32).toUInt32 >>> ((4 : Int32).toUInt32 &&& Int32.toUInt32 31)).toInt32)) &&& 252645135))] dJ6_bitCount_0f7a4_33 (Nat.le_of_ble_eq_true rfl) rfl ?_
  refine zr_iload_n 0 dJ6_bitCount_0f7a4_34 rfl ?_
  refine zr_iload_n 0 dJ6_bitCount_0f7a4_35 rfl ?_
  refine zr_bipush 8 dJ6_bitCount_0f7a4_36 (by decide) ?_
  refine zr_iushr dJ6_bitCount_0f7a4_38 ?_
  refine zr_iadd dJ6_bitCount_0f7a4_39 ?_
  refine zr_istore_n [(0, .int ((((((x0 - ((((x0 : Int32).toUInt32 >>> ((1 : Int32).toUInt32 &&& Int32.toUInt32 31)).toInt32) &&& 1431655765)) &&& 858993459) + ((((x0 - ((((x0 : Int32).toUInt32 >>> ((1 : Int32).toUInt32 &&& Int32.toUInt32 31)).toInt32) &&& 1431655765) : Int32).toUInt32 >>> ((2 : Int32).toUInt32 &&& Int32.toUInt32 31)).toInt32) &&& 858993459)) + (((((x0 - ((((x0 : Int32).toUInt32 >>> ((1 : Int32).toUInt32 &&& Int32.toUInt32 31)).toInt32) &&& 1431655765)) &&& 858993459) + ((((x0 - ((((x0 : Int32).toUInt32 >>> ((1 : Int32).toUInt32 &&& Int32.toUInt32 31)).toInt32) &&& 1431655765) : Int32).toUInt32 >>> ((2 : Int32).toUInt32 &&& Int32.toUInt32 31)).toInt32) &&& 858993459) : Int32).toUInt32 >>> ((4 : Int32).toUInt32 &&& Int32.toUInt32 31)).toInt32)) &&& 252645135) + (((((((x0 - ((((x0 : Int32).toUInt32 >>> ((1 : Int32).toUInt32 &&& Int32.toUInt32 31)).toInt32) &&& 1431655765)) &&& 858993459) + ((((x0 - ((((x0 : Int32).toUInt32 >>> ((1 : Int32).toUInt32 &&& Int32.toUInt32 31)).toInt32) &&& 1431655765) : Int32).toUInt32 >>> ((2 : Int32).toUInt32 &&& Int32.toUInt32 31)).toInt32) &&& 858993459)) + (((((x0 - ((((x0 : Int32).toUInt32 >>> ((1 : Int32).toUInt32 &&& Int32.toUInt32 31)).toInt32) &&& 1431655765)) &&& 858993459) + ((((x0 - ((((x0 : Int32).toUInt32 >>> ((1 : Int32).toUInt32 &&& Int32.toUInt32 31)).toInt32) &&& 1431655765) : Int32).toUInt32 >>> ((2 : Int32).toUInt32 &&& Int32.toUInt32 31)).toInt32) &&& 858993459) : Int32).toUInt32 >>> ((4 : Int32).toUInt32 &&& Int32.toUInt32 31)).toInt32)) &&& 252645135 : Int32).toUInt32 >>> ((8 : Int32).toUInt32 &&& Int32.toUInt32 31)).toInt32)))] dJ6_bitCount_0f7a4_40 (Nat.le_of_ble_eq_true rfl) rfl ?_
  refine zr_iload_n 0 dJ6_bitCount_0f7a4_41 rfl ?_
  refine zr_iload_n 0 dJ6_bitCount_0f7a4_42 rfl ?_
  refine zr_bipush 16 dJ6_bitCount_0f7a4_43 (by decide) ?_
  refine zr_iushr dJ6_bitCount_0f7a4_45 ?_
  refine zr_iadd dJ6_bitCount_0f7a4_46 ?_
  refine zr_istore_n [(0, .int (((((((x0 - ((((x0 : Int32).toUInt32 >>> ((1 : Int32).toUInt32 &&& Int32.toUInt32 31)).toInt32) &&& 1431655765)) &&& 858993459) + ((((x0 - ((((x0 : Int32).toUInt32 >>> ((1 : Int32).toUInt32 &&& Int32.toUInt32 31)).toInt32) &&& 1431655765) : Int32).toUInt32 >>> ((2 : Int32).toUInt32 &&& Int32.toUInt32 31)).toInt32) &&& 858993459)) + (((((x0 - ((((x0 : Int32).toUInt32 >>> ((1 : Int32).toUInt32 &&& Int32.toUInt32 31)).toInt32) &&& 1431655765)) &&& 858993459) + ((((x0 - ((((x0 : Int32).toUInt32 >>> ((1 : Int32).toUInt32 &&& Int32.toUInt32 31)).toInt32) &&& 1431655765) : Int32).toUInt32 >>> ((2 : Int32).toUInt32 &&& Int32.toUInt32 31)).toInt32) &&& 858993459) : Int32).toUInt32 >>> ((4 : Int32).toUInt32 &&& Int32.toUInt32 31)).toInt32)) &&& 252645135) + (((((((x0 - ((((x0 : Int32).toUInt32 >>> ((1 : Int32).toUInt32 &&& Int32.toUInt32 31)).toInt32) &&& 1431655765)) &&& 858993459) + ((((x0 - ((((x0 : Int32).toUInt32 >>> ((1 : Int32).toUInt32 &&& Int32.toUInt32 31)).toInt32) &&& 1431655765) : Int32).toUInt32 >>> ((2 : Int32).toUInt32 &&& Int32.toUInt32 31)).toInt32) &&& 858993459)) + (((((x0 - ((((x0 : Int32).toUInt32 >>> ((1 : Int32).toUInt32 &&& Int32.toUInt32 31)).toInt32) &&& 1431655765)) &&& 858993459) + ((((x0 - ((((x0 : Int32).toUInt32 >>> ((1 : Int32).toUInt32 &&& Int32.toUInt32 31)).toInt32) &&& 1431655765) : Int32).toUInt32 >>> ((2 : Int32).toUInt32 &&& Int32.toUInt32 31)).toInt32) &&& 858993459) : Int32).toUInt32 >>> ((4 : Int32).toUInt32 &&& Int32.toUInt32 31)).toInt32)) &&& 252645135 : Int32).toUInt32 >>> ((8 : Int32).toUInt32 &&& Int32.toUInt32 31)).toInt32)) + ((((((((x0 - ((((x0 : Int32).toUInt32 >>> ((1 : Int32).toUInt32 &&& Int32.toUInt32 31)).toInt32) &&& 1431655765)) &&& 858993459) + ((((x0 - ((((x0 : Int32).toUInt32 >>> ((1 : Int32).toUInt32 &&& Int32.toUInt32 31)).toInt32) &&& 1431655765) : Int32).toUInt32 >>> ((2 : Int32).toUInt32 &&& Int32.toUInt32 31)).toInt32) &&& 858993459)) + (((((x0 - ((((x0 : Int32).toUInt32 >>> ((1 : Int32).toUInt32 &&& Int32.toUInt32 31)).toInt32) &&& 1431655765)) &&& 858993459) + ((((x0 - ((((x0 : Int32).toUInt32 >>> ((1 : Int32).toUInt32 &&& Int32.toUInt32 31)).toInt32) &&& 1431655765) : Int32).toUInt32 >>> ((2 : Int32).toUInt32 &&& Int32.toUInt32 31)).toInt32) &&& 858993459) : Int32).toUInt32 >>> ((4 : Int32).toUInt32 &&& Int32.toUInt32 31)).toInt32)) &&& 252645135) + (((((((x0 - ((((x0 : Int32).toUInt32 >>> ((1 : Int32).toUInt32 &&& Int32.toUInt32 31)).toInt32) &&& 1431655765)) &&& 858993459) + ((((x0 - ((((x0 : Int32).toUInt32 >>> ((1 : Int32).toUInt32 &&& Int32.toUInt32 31)).toInt32) &&& 1431655765) : Int32).toUInt32 >>> ((2 : Int32).toUInt32 &&& Int32.toUInt32 31)).toInt32) &&& 858993459)) + (((((x0 - ((((x0 : Int32).toUInt32 >>> ((1 : Int32).toUInt32 &&& Int32.toUInt32 31)).toInt32) &&& 1431655765)) &&& 858993459) + ((((x0 - ((((x0 : Int32).toUInt32 >>> ((1 : Int32).toUInt32 &&& Int32.toUInt32 31)).toInt32) &&& 1431655765) : Int32).toUInt32 >>> ((2 : Int32).toUInt32 &&& Int32.toUInt32 31)).toInt32) &&& 858993459) : Int32).toUInt32 >>> ((4 : Int32).toUInt32 &&& Int32.toUInt32 31)).toInt32)) &&& 252645135 : Int32).toUInt32 >>> ((8 : Int32).toUInt32 &&& Int32.toUInt32 31)).toInt32) : Int32).toUInt32 >>> ((16 : Int32).toUInt32 &&& Int32.toUInt32 31)).toInt32)))] dJ6_bitCount_0f7a4_47 (Nat.le_of_ble_eq_true rfl) rfl ?_
  refine zr_iload_n 0 dJ6_bitCount_0f7a4_48 rfl ?_
  refine zr_bipush 63 dJ6_bitCount_0f7a4_49 (by decide) ?_
  refine zr_iand dJ6_bitCount_0f7a4_51 ?_
  cases hf
  exact zr_iret dJ6_bitCount_0f7a4_52
theorem zl_60 : Cond.methodLink RX0 88 yX9_way ∈ zt := zt_at 1259 (by decide +kernel)
theorem dX0_isGuarded_0 : decode cX0_isGuarded 0 = .ok (.iconst 0, 1) := by decide +kernel
theorem dX0_isGuarded_1 : decode cX0_isGuarded 1 = .ok (.istore 4, 2) := by decide +kernel
theorem dX0_isGuarded_3 : decode cX0_isGuarded 3 = .ok (.iload 4, 2) := by decide +kernel
theorem dX0_isGuarded_5 : decode cX0_isGuarded 5 = .ok (.aload_n 0, 1) := by decide +kernel
theorem dX0_isGuarded_6 : decode cX0_isGuarded 6 = .ok (.getfield 21, 3) := by decide +kernel
theorem dX0_isGuarded_9 : decode cX0_isGuarded 9 = .ok (.if_icmp .ge 41, 3) := by decide +kernel
theorem dX0_isGuarded_12 : decode cX0_isGuarded 12 = .ok (.iload_n 2, 1) := by decide +kernel
theorem dX0_isGuarded_13 : decode cX0_isGuarded 13 = .ok (.iload 4, 2) := by decide +kernel
theorem dX0_isGuarded_15 : decode cX0_isGuarded 15 = .ok (.ishr, 1) := by decide +kernel
theorem dX0_isGuarded_16 : decode cX0_isGuarded 16 = .ok (.iconst 1, 1) := by decide +kernel
theorem dX0_isGuarded_17 : decode cX0_isGuarded 17 = .ok (.iand, 1) := by decide +kernel
theorem dX0_isGuarded_18 : decode cX0_isGuarded 18 = .ok (.ifCond .eq 26, 3) := by decide +kernel
theorem dX0_isGuarded_21 : decode cX0_isGuarded 21 = .ok (.aload_n 0, 1) := by decide +kernel
theorem dX0_isGuarded_22 : decode cX0_isGuarded 22 = .ok (.iload_n 1, 1) := by decide +kernel
theorem dX0_isGuarded_23 : decode cX0_isGuarded 23 = .ok (.aload_n 0, 1) := by decide +kernel
theorem dX0_isGuarded_24 : decode cX0_isGuarded 24 = .ok (.getfield 27, 3) := by decide +kernel
theorem dX0_isGuarded_27 : decode cX0_isGuarded 27 = .ok (.iload 4, 2) := by decide +kernel
theorem dX0_isGuarded_29 : decode cX0_isGuarded 29 = .ok (.iaload, 1) := by decide +kernel
theorem dX0_isGuarded_30 : decode cX0_isGuarded 30 = .ok (.iconst 0, 1) := by decide +kernel
theorem dX0_isGuarded_31 : decode cX0_isGuarded 31 = .ok (.invokevirtual 88, 3) := by decide +kernel
theorem dX0_isGuarded_34 : decode cX0_isGuarded 34 = .ok (.getstatic 68, 3) := by decide +kernel
theorem dX0_isGuarded_37 : decode cX0_isGuarded 37 = .ok (.iload_n 3, 1) := by decide +kernel
theorem dX0_isGuarded_38 : decode cX0_isGuarded 38 = .ok (.iaload, 1) := by decide +kernel
theorem dX0_isGuarded_39 : decode cX0_isGuarded 39 = .ok (.if_icmp .gt 5, 3) := by decide +kernel
theorem dX0_isGuarded_42 : decode cX0_isGuarded 42 = .ok (.iconst 1, 1) := by decide +kernel
theorem dX0_isGuarded_43 : decode cX0_isGuarded 43 = .ok (.ireturn, 1) := by decide +kernel
theorem dX0_isGuarded_44 : decode cX0_isGuarded 44 = .ok (.iinc 4 1, 3) := by decide +kernel
theorem dX0_isGuarded_47 : decode cX0_isGuarded 47 = .ok (.goto (-44), 3) := by decide +kernel
theorem dX0_isGuarded_50 : decode cX0_isGuarded 50 = .ok (.iconst 0, 1) := by decide +kernel
theorem dX0_isGuarded_51 : decode cX0_isGuarded 51 = .ok (.ireturn, 1) := by decide +kernel
noncomputable def fX0_isGuarded_l3 (μ : zM) (x0 : Nat) (x2 : Int32) (x1 : Int32) (x3 : Int32) (F2 : Int32 → Option (Int32)) (x4_1 : Int32) : Option (Int32) :=
  zb1 (zm_gI μ 9 x0 4) fun v4 =>
  if v4 ≤ x4_1 then (
  some 0)
  else (
  if ((x2 >>> (x4_1 &&& 31)) &&& 1) = 0 then (
  F2 (x4_1 + 1))
  else (
  zb1 (zm_gR μ 9 x0 6) fun v6 =>
  zb1 (zm_aI μ 0 v6 x4_1) fun v8 =>
  zb1 (fX9_way μ x0 x1 v8 0) fun v11 =>
  zb1 (zm_aI μ 0 (μ.2.2 0) x3) fun v12 =>
  if v12 < v11 then (
  F2 (x4_1 + 1))
  else (
  some 1)))
noncomputable def fX0_isGuarded (μ : zM) (x0 : Nat) (x1 : Int32) (x2 : Int32) (x3 : Int32) : Option (Int32) :=
  zf1 (fX0_isGuarded_l3 μ x0 x2 x1 x3) zfu 0
set_option maxHeartbeats 4000000 in
set_option maxRecDepth 100000 in
theorem cX0_isGuarded_ok {μ : zM} {x0 : Nat} {x1 : Int32} {x2 : Int32} {x3 : Int32} {r : Int32} (hf : fX0_isGuarded μ x0 x1 x2 x3 = some r) : zC yX0_isGuarded cX0_isGuarded 5 (some .boolean) 2 0 0 [.ref x0, .int x1, .int x2, .int x3] μ (some (.int r)) μ := by
  unfold fX0_isGuarded at hf
  refine zC.of (by decide) (Nat.le_of_ble_eq_true rfl) (fun K hin => ?_)
  clear hin
  show zz K cX0_isGuarded (5, RX0, some .boolean, 2, 0, 0, some (.int r), μ) 0 0 0 [(0, .ref x0), (1, .int x1), (2, .int x2), (3, .int x3)] [] μ
  refine zr_iconst 0 dX0_isGuarded_0 (by decide) ?_
  refine zr_istore [(4, .int 0), (0, .ref x0), (1, .int x1), (2, .int x2), (3, .int x3)] dX0_isGuarded_1 (Nat.le_of_ble_eq_true rfl) rfl ?_
  have hL14 : ∀ (n : Nat) (x4_1 : Int32), zf1 (fX0_isGuarded_l3 μ x0 x2 x1 x3) n x4_1 = some r → zz K cX0_isGuarded (5, RX0, some .boolean, 2, 0, 0, some (.int r), μ) 0 0 3 [(0, .ref x0), (1, .int x1), (2, .int x2), (3, .int x3), (4, .int x4_1)] [] μ := by
    intro n
    induction n with
    | zero => intro x4_1 hf; cases hf
    | succ n ih3 =>
      intro x4_1 hf
      replace hf := zf1_s hf
      generalize zf1 (fX0_isGuarded_l3 μ x0 x2 x1 x3) n = F2 at hf ih3
      unfold fX0_isGuarded_l3 at hf
      refine zr_iload 4 dX0_isGuarded_3 rfl ?_
      refine zr_aload_n 0 dX0_isGuarded_5 rfl ?_
      replace hf := zb1_s hf
      obtain ⟨v4, h5, hf⟩ := hf
      refine zr_get (zm_gI_g h5) zk9 (by decide) zl_23 dX0_isGuarded_6 ?_
      refine zr_icmp_ge 50 dX0_isGuarded_9 (by decide) (fun hc => ?_) (fun hc => ?_)
      · rw [if_pos hc] at hf
        refine zr_iconst 0 dX0_isGuarded_50 (by decide) ?_
        cases hf
        exact zr_zret rfl dX0_isGuarded_51
      · rw [if_neg hc] at hf
        refine zr_iload_n 2 dX0_isGuarded_12 rfl ?_
        refine zr_iload 4 dX0_isGuarded_13 rfl ?_
        refine zr_ishr dX0_isGuarded_15 ?_
        refine zr_iconst 1 dX0_isGuarded_16 (by decide) ?_
        refine zr_iand dX0_isGuarded_17 ?_
        refine zr_if_eq 44 dX0_isGuarded_18 (by decide) (fun hc => ?_) (fun hc => ?_)
        · rw [if_pos hc] at hf
          refine zr_iinc (j := 4) (x4_1 + 1) [(4, .int (x4_1 + 1)), (0, .ref x0), (1, .int x1), (2, .int x2), (3, .int x3)] dX0_isGuarded_44 rfl rfl (Nat.le_of_ble_eq_true rfl) rfl ?_
          refine zr_goto 3 dX0_isGuarded_47 (by decide) ?_
          exact zr_lv [1, 2, 3, 4, 0] rfl (ih3 (x4_1 + 1) hf)
        · rw [if_neg hc] at hf
          refine zr_aload_n 0 dX0_isGuarded_21 rfl ?_
          refine zr_iload_n 1 dX0_isGuarded_22 rfl ?_
          refine zr_aload_n 0 dX0_isGuarded_23 rfl ?_
          replace hf := zb1_s hf
          obtain ⟨v6, h7, hf⟩ := hf
          refine zr_get (zm_gR_g h7) zk9 (by decide) zl_24 dX0_isGuarded_24 ?_
          refine zr_iload 4 dX0_isGuarded_27 rfl ?_
          replace hf := zb1_s hf
          obtain ⟨v8, h9, hf⟩ := hf
          refine zr_iald h9 dX0_isGuarded_29 ?_
          refine zr_iconst 0 dX0_isGuarded_30 (by decide) ?_
          replace hf := zb1_s hf
          obtain ⟨v11, h10, hf⟩ := hf
          refine zr_callV (ci := 9) [.int x1, .int v8, .int 0] (cX9_way_ok h10) zvs_X9_way zl_20 zl_21 (fX9_way_ck h10) rfl rfl zl_60 rfl (Nat.le_of_ble_eq_true rfl) (Nat.le_of_ble_eq_true rfl) (Nat.le_of_ble_eq_true rfl) (Nat.le_of_ble_eq_true rfl) dX0_isGuarded_31 rfl ?_
          refine zr_getsN (k := 0) (by decide) zl_45 dX0_isGuarded_34 ?_
          refine zr_iload_n 3 dX0_isGuarded_37 rfl ?_
          replace hf := zb1_s hf
          obtain ⟨v12, h13, hf⟩ := hf
          refine zr_iald h13 dX0_isGuarded_38 ?_
          refine zr_icmp_gt 44 dX0_isGuarded_39 (by decide) (fun hc => ?_) (fun hc => ?_)
          · rw [if_pos hc] at hf
            refine zr_iinc (j := 4) (x4_1 + 1) [(4, .int (x4_1 + 1)), (0, .ref x0), (1, .int x1), (2, .int x2), (3, .int x3)] dX0_isGuarded_44 rfl rfl (Nat.le_of_ble_eq_true rfl) rfl ?_
            refine zr_goto 3 dX0_isGuarded_47 (by decide) ?_
            exact zr_lv [1, 2, 3, 4, 0] rfl (ih3 (x4_1 + 1) hf)
          · rw [if_neg hc] at hf
            refine zr_iconst 1 dX0_isGuarded_42 (by decide) ?_
            cases hf
            exact zr_zret rfl dX0_isGuarded_43
  exact zr_lv [1, 2, 3, 4, 0] rfl (hL14 _ 0 hf)
theorem zl_61 : Cond.code yX0_isGuarded cX0_isGuarded 5 (some .boolean) ∈ zt := zt_at 1258 (by decide +kernel)
theorem zvs_X0_isGuarded : zvS yX0_isGuarded cX0_isGuarded 5 (some .boolean) 4 := ⟨zl_61, zl_31, ⟨by decide +kernel, by decide +kernel, by decide +kernel⟩, by decide⟩
theorem zl_62 : Cond.methodLink RX0 84 yX0_isGuarded ∈ zt := zt_at 1256 (by decide +kernel)
theorem zl_63 : Cond.static yX0_isGuarded ∈ zt := zt_at 1257 (by decide +kernel)
theorem dX0_areGuards_0 : decode cX0_areGuards 0 = .ok (.iconst 0, 1) := by decide +kernel
theorem dX0_areGuards_1 : decode cX0_areGuards 1 = .ok (.istore_n 3, 1) := by decide +kernel
theorem dX0_areGuards_2 : decode cX0_areGuards 2 = .ok (.iload_n 3, 1) := by decide +kernel
theorem dX0_areGuards_3 : decode cX0_areGuards 3 = .ok (.aload_n 0, 1) := by decide +kernel
theorem dX0_areGuards_4 : decode cX0_areGuards 4 = .ok (.getfield 34, 3) := by decide +kernel
theorem dX0_areGuards_7 : decode cX0_areGuards 7 = .ok (.if_icmp .gt 21, 3) := by decide +kernel
theorem dX0_areGuards_10 : decode cX0_areGuards 10 = .ok (.aload_n 0, 1) := by decide +kernel
theorem dX0_areGuards_11 : decode cX0_areGuards 11 = .ok (.iload_n 3, 1) := by decide +kernel
theorem dX0_areGuards_12 : decode cX0_areGuards 12 = .ok (.iload_n 1, 1) := by decide +kernel
theorem dX0_areGuards_13 : decode cX0_areGuards 13 = .ok (.iload_n 2, 1) := by decide +kernel
theorem dX0_areGuards_14 : decode cX0_areGuards 14 = .ok (.invokestatic 84, 3) := by decide +kernel
theorem dX0_areGuards_17 : decode cX0_areGuards 17 = .ok (.ifCond .ne 5, 3) := by decide +kernel
theorem dX0_areGuards_20 : decode cX0_areGuards 20 = .ok (.iconst 0, 1) := by decide +kernel
theorem dX0_areGuards_21 : decode cX0_areGuards 21 = .ok (.ireturn, 1) := by decide +kernel
theorem dX0_areGuards_22 : decode cX0_areGuards 22 = .ok (.iinc 3 1, 3) := by decide +kernel
theorem dX0_areGuards_25 : decode cX0_areGuards 25 = .ok (.goto (-23), 3) := by decide +kernel
theorem dX0_areGuards_28 : decode cX0_areGuards 28 = .ok (.iconst 1, 1) := by decide +kernel
theorem dX0_areGuards_29 : decode cX0_areGuards 29 = .ok (.ireturn, 1) := by decide +kernel
noncomputable def fX0_areGuards_l2 (μ : zM) (x0 : Nat) (x1 : Int32) (x2 : Int32) (F2 : Int32 → Option (Int32)) (x3_1 : Int32) : Option (Int32) :=
  zb1 (zm_gI μ 9 x0 0) fun v4 =>
  if v4 < x3_1 then (
  some 1)
  else (
  zb1 (fX0_isGuarded μ x0 x3_1 x1 x2) fun v7 =>
  if v7 = 0 then (
  some 0)
  else (
  F2 (x3_1 + 1)))
noncomputable def fX0_areGuards (μ : zM) (x0 : Nat) (x1 : Int32) (x2 : Int32) : Option (Int32) :=
  zf1 (fX0_areGuards_l2 μ x0 x1 x2) zfu 0
set_option maxHeartbeats 4000000 in
set_option maxRecDepth 100000 in
theorem cX0_areGuards_ok {μ : zM} {x0 : Nat} {x1 : Int32} {x2 : Int32} {r : Int32} (hf : fX0_areGuards μ x0 x1 x2 = some r) : zC yX0_areGuards cX0_areGuards 4 (some .boolean) 3 0 0 [.ref x0, .int x1, .int x2] μ (some (.int r)) μ := by
  unfold fX0_areGuards at hf
  refine zC.of (by decide) (Nat.le_of_ble_eq_true rfl) (fun K hin => ?_)
  clear hin
  show zz K cX0_areGuards (4, RX0, some .boolean, 3, 0, 0, some (.int r), μ) 0 0 0 [(0, .ref x0), (1, .int x1), (2, .int x2)] [] μ
  refine zr_iconst 0 dX0_areGuards_0 (by decide) ?_
  refine zr_istore_n [(3, .int 0), (0, .ref x0), (1, .int x1), (2, .int x2)] dX0_areGuards_1 (Nat.le_of_ble_eq_true rfl) rfl ?_
  have hL8 : ∀ (n : Nat) (x3_1 : Int32), zf1 (fX0_areGuards_l2 μ x0 x1 x2) n x3_1 = some r → zz K cX0_areGuards (4, RX0, some .boolean, 3, 0, 0, some (.int r), μ) 0 0 2 [(0, .ref x0), (1, .int x1), (2, .int x2), (3, .int x3_1)] [] μ := by
    intro n
    induction n with
    | zero => intro x3_1 hf; cases hf
    | succ n ih3 =>
      intro x3_1 hf
      replace hf := zf1_s hf
      generalize zf1 (fX0_areGuards_l2 μ x0 x1 x2) n = F2 at hf ih3
      unfold fX0_areGuards_l2 at hf
      refine zr_iload_n 3 dX0_areGuards_2 rfl ?_
      refine zr_aload_n 0 dX0_areGuards_3 rfl ?_
      replace hf := zb1_s hf
      obtain ⟨v4, h5, hf⟩ := hf
      refine zr_get (zm_gI_g h5) zk9 (by decide) zl_29 dX0_areGuards_4 ?_
      refine zr_icmp_gt 28 dX0_areGuards_7 (by decide) (fun hc => ?_) (fun hc => ?_)
      · rw [if_pos hc] at hf
        refine zr_iconst 1 dX0_areGuards_28 (by decide) ?_
        cases hf
        exact zr_zret rfl dX0_areGuards_29
      · rw [if_neg hc] at hf
        refine zr_aload_n 0 dX0_areGuards_10 rfl ?_
        refine zr_iload_n 3 dX0_areGuards_11 rfl ?_
        refine zr_iload_n 1 dX0_areGuards_12 rfl ?_
        refine zr_iload_n 2 dX0_areGuards_13 rfl ?_
        replace hf := zb1_s hf
        obtain ⟨v7, h6, hf⟩ := hf
        refine zr_callS [.ref x0, .int x3_1, .int x1, .int x2] (cX0_isGuarded_ok h6) zvs_X0_isGuarded zl_63 zl_62 rfl (Nat.le_of_ble_eq_true rfl) (Nat.le_of_ble_eq_true rfl) (Nat.le_of_ble_eq_true rfl) (Nat.le_of_ble_eq_true rfl) dX0_areGuards_14 rfl ?_
        refine zr_if_ne 22 dX0_areGuards_17 (by decide) (fun hc => ?_) (fun hc => ?_)
        · rw [if_neg hc] at hf
          refine zr_iinc (j := 3) (x3_1 + 1) [(3, .int (x3_1 + 1)), (0, .ref x0), (1, .int x1), (2, .int x2)] dX0_areGuards_22 rfl rfl (Nat.le_of_ble_eq_true rfl) rfl ?_
          refine zr_goto 2 dX0_areGuards_25 (by decide) ?_
          exact zr_lv [1, 2, 3, 0] rfl (ih3 (x3_1 + 1) hf)
        · rw [if_pos hc] at hf
          refine zr_iconst 0 dX0_areGuards_20 (by decide) ?_
          cases hf
          exact zr_zret rfl dX0_areGuards_21
  exact zr_lv [1, 2, 3, 0] rfl (hL8 _ 0 hf)
theorem zl_64 : Cond.code yJ6_bitCount_0f7a4 cJ6_bitCount_0f7a4 1 (some .int) ∈ zt := zt_at 901 (by decide +kernel)
theorem zl_65 : Cond.initialized RJ6 ∈ zt := zt_at 148 (by decide +kernel)
theorem zvs_J6_bitCount_0f7a4 : zvS yJ6_bitCount_0f7a4 cJ6_bitCount_0f7a4 1 (some .int) 1 := ⟨zl_64, zl_65, ⟨by decide +kernel, by decide +kernel, by decide +kernel⟩, by decide⟩
theorem zl_66 : Cond.methodLink RX0 75 yJ6_bitCount_0f7a4 ∈ zt := zt_at 1252 (by decide +kernel)
theorem zl_67 : Cond.static yJ6_bitCount_0f7a4 ∈ zt := zt_at 900 (by decide +kernel)
theorem zl_68 : Cond.code yX0_areGuards cX0_areGuards 4 (some .boolean) ∈ zt := zt_at 1255 (by decide +kernel)
theorem zvs_X0_areGuards : zvS yX0_areGuards cX0_areGuards 4 (some .boolean) 3 := ⟨zl_68, zl_31, ⟨by decide +kernel, by decide +kernel, by decide +kernel⟩, by decide⟩
theorem zl_69 : Cond.methodLink RX0 80 yX0_areGuards ∈ zt := zt_at 1253 (by decide +kernel)
theorem zl_70 : Cond.static yX0_areGuards ∈ zt := zt_at 1254 (by decide +kernel)
theorem dX0_fewestGuards_0 : decode cX0_fewestGuards 0 = .ok (.iconst (-1), 1) := by decide +kernel
theorem dX0_fewestGuards_1 : decode cX0_fewestGuards 1 = .ok (.istore_n 2, 1) := by decide +kernel
theorem dX0_fewestGuards_2 : decode cX0_fewestGuards 2 = .ok (.bipush 7, 2) := by decide +kernel
theorem dX0_fewestGuards_4 : decode cX0_fewestGuards 4 = .ok (.istore_n 3, 1) := by decide +kernel
theorem dX0_fewestGuards_5 : decode cX0_fewestGuards 5 = .ok (.iconst 0, 1) := by decide +kernel
theorem dX0_fewestGuards_6 : decode cX0_fewestGuards 6 = .ok (.istore 4, 2) := by decide +kernel
theorem dX0_fewestGuards_8 : decode cX0_fewestGuards 8 = .ok (.iload 4, 2) := by decide +kernel
theorem dX0_fewestGuards_10 : decode cX0_fewestGuards 10 = .ok (.iconst 1, 1) := by decide +kernel
theorem dX0_fewestGuards_11 : decode cX0_fewestGuards 11 = .ok (.aload_n 0, 1) := by decide +kernel
theorem dX0_fewestGuards_12 : decode cX0_fewestGuards 12 = .ok (.getfield 21, 3) := by decide +kernel
theorem dX0_fewestGuards_15 : decode cX0_fewestGuards 15 = .ok (.ishl, 1) := by decide +kernel
theorem dX0_fewestGuards_16 : decode cX0_fewestGuards 16 = .ok (.if_icmp .ge 38, 3) := by decide +kernel
theorem dX0_fewestGuards_19 : decode cX0_fewestGuards 19 = .ok (.iload 4, 2) := by decide +kernel
theorem dX0_fewestGuards_21 : decode cX0_fewestGuards 21 = .ok (.invokestatic 75, 3) := by decide +kernel
theorem dX0_fewestGuards_24 : decode cX0_fewestGuards 24 = .ok (.istore 5, 2) := by decide +kernel
theorem dX0_fewestGuards_26 : decode cX0_fewestGuards 26 = .ok (.iload 5, 2) := by decide +kernel
theorem dX0_fewestGuards_28 : decode cX0_fewestGuards 28 = .ok (.iload_n 3, 1) := by decide +kernel
theorem dX0_fewestGuards_29 : decode cX0_fewestGuards 29 = .ok (.if_icmp .ge 19, 3) := by decide +kernel
theorem dX0_fewestGuards_32 : decode cX0_fewestGuards 32 = .ok (.aload_n 0, 1) := by decide +kernel
theorem dX0_fewestGuards_33 : decode cX0_fewestGuards 33 = .ok (.iload 4, 2) := by decide +kernel
theorem dX0_fewestGuards_35 : decode cX0_fewestGuards 35 = .ok (.iload_n 1, 1) := by decide +kernel
theorem dX0_fewestGuards_36 : decode cX0_fewestGuards 36 = .ok (.invokestatic 80, 3) := by decide +kernel
theorem dX0_fewestGuards_39 : decode cX0_fewestGuards 39 = .ok (.ifCond .eq 9, 3) := by decide +kernel
theorem dX0_fewestGuards_42 : decode cX0_fewestGuards 42 = .ok (.iload 5, 2) := by decide +kernel
theorem dX0_fewestGuards_44 : decode cX0_fewestGuards 44 = .ok (.istore_n 3, 1) := by decide +kernel
theorem dX0_fewestGuards_45 : decode cX0_fewestGuards 45 = .ok (.iload 4, 2) := by decide +kernel
theorem dX0_fewestGuards_47 : decode cX0_fewestGuards 47 = .ok (.istore_n 2, 1) := by decide +kernel
theorem dX0_fewestGuards_48 : decode cX0_fewestGuards 48 = .ok (.iinc 4 1, 3) := by decide +kernel
theorem dX0_fewestGuards_51 : decode cX0_fewestGuards 51 = .ok (.goto (-43), 3) := by decide +kernel
theorem dX0_fewestGuards_54 : decode cX0_fewestGuards 54 = .ok (.iload_n 2, 1) := by decide +kernel
theorem dX0_fewestGuards_55 : decode cX0_fewestGuards 55 = .ok (.ireturn, 1) := by decide +kernel
noncomputable def fX0_fewestGuards_l8 (μ : zM) (x0 : Nat) (x1 : Int32) (F4 : Int32 → Int32 → Int32 → Option (Int32)) (x2_1 : Int32) (x3_2 : Int32) (x4_3 : Int32) : Option (Int32) :=
  zb1 (zm_gI μ 9 x0 4) fun v8 =>
  if (1 <<< (v8 &&& 31)) ≤ x4_3 then (
  some x2_1)
  else (
  zb1 (fJ6_bitCount_0f7a4 μ x4_3) fun v11 =>
  zb2 (if x3_2 ≤ v11 then (
  some (x2_1, x3_2))
  else (
  zb1 (fX0_areGuards μ x0 x4_3 x1) fun v16 =>
  if v16 = 0 then (
  some (x2_1, x3_2))
  else (
  some (x4_3, v11))) : Option (Int32 × Int32)) fun (x2_12 : Int32) (x3_13 : Int32) =>
  F4 x2_12 x3_13 (x4_3 + 1))
noncomputable def fX0_fewestGuards (μ : zM) (x0 : Nat) (x1 : Int32) : Option (Int32) :=
  zb1 (zf3 (fX0_fewestGuards_l8 μ x0 x1) zfu (-1) 7 0 : Option (Int32)) fun (x2_6 : Int32) =>
  some x2_6
set_option maxHeartbeats 4000000 in
set_option maxRecDepth 100000 in
theorem cX0_fewestGuards_ok {μ : zM} {x0 : Nat} {x1 : Int32} {r : Int32} (hf : fX0_fewestGuards μ x0 x1 = some r) : zC yX0_fewestGuards cX0_fewestGuards 6 (some .int) 4 0 0 [.ref x0, .int x1] μ (some (.int r)) μ := by
  unfold fX0_fewestGuards at hf
  refine zC.of (by decide) (Nat.le_of_ble_eq_true rfl) (fun K hin => ?_)
  clear hin
  show zz K cX0_fewestGuards (6, RX0, some .int, 4, 0, 0, some (.int r), μ) 0 0 0 [(0, .ref x0), (1, .int x1)] [] μ
  refine zr_iconst (-1) dX0_fewestGuards_0 (by decide) ?_
  refine zr_istore_n [(2, .int (-1)), (0, .ref x0), (1, .int x1)] dX0_fewestGuards_1 (Nat.le_of_ble_eq_true rfl) rfl ?_
  refine zr_bipush 7 dX0_fewestGuards_2 (by decide) ?_
  refine zr_istore_n [(3, .int 7), (2, .int (-1)), (0, .ref x0), (1, .int x1)] dX0_fewestGuards_4 (Nat.le_of_ble_eq_true rfl) rfl ?_
  refine zr_iconst 0 dX0_fewestGuards_5 (by decide) ?_
  refine zr_istore [(4, .int 0), (3, .int 7), (2, .int (-1)), (0, .ref x0), (1, .int x1)] dX0_fewestGuards_6 (Nat.le_of_ble_eq_true rfl) rfl ?_
  replace hf := zb1_s hf
  obtain ⟨x2_6, hg, hf⟩ := hf
  have hj7 : zz K cX0_fewestGuards (6, RX0, some .int, 4, 0, 0, some (.int r), μ) 0 0 54 [(2, .int x2_6)] [] μ := by
    refine zr_iload_n 0 dX0_fewestGuards_54 rfl ?_
    cases hf
    exact zr_iret dX0_fewestGuards_55
  clear hf
  have hf := hg
  clear hg
  have hL17 : ∀ (n : Nat) (x2_1 : Int32) (x3_2 : Int32) (x4_3 : Int32), zf3 (fX0_fewestGuards_l8 μ x0 x1) n x2_1 x3_2 x4_3 = some x2_6 → zz K cX0_fewestGuards (6, RX0, some .int, 4, 0, 0, some (.int r), μ) 0 0 8 [(0, .ref x0), (1, .int x1), (2, .int x2_1), (3, .int x3_2), (4, .int x4_3)] [] μ := by
    intro n
    induction n with
    | zero => intro x2_1 x3_2 x4_3 hf; cases hf
    | succ n ih5 =>
      intro x2_1 x3_2 x4_3 hf
      replace hf := zf3_s hf
      generalize zf3 (fX0_fewestGuards_l8 μ x0 x1) n = F4 at hf ih5
      unfold fX0_fewestGuards_l8 at hf
      refine zr_iload 4 dX0_fewestGuards_8 rfl ?_
      refine zr_iconst 1 dX0_fewestGuards_10 (by decide) ?_
      refine zr_aload_n 0 dX0_fewestGuards_11 rfl ?_
      replace hf := zb1_s hf
      obtain ⟨v8, h9, hf⟩ := hf
      refine zr_get (zm_gI_g h9) zk9 (by decide) zl_23 dX0_fewestGuards_12 ?_
      refine zr_ishl dX0_fewestGuards_15 ?_
      refine zr_icmp_ge 54 dX0_fewestGuards_16 (by decide) (fun hc => ?_) (fun hc => ?_)
      · rw [if_pos hc] at hf
        cases hf
        exact zr_lv [2] rfl hj7
      · rw [if_neg hc] at hf
        refine zr_iload 4 dX0_fewestGuards_19 rfl ?_
        replace hf := zb1_s hf
        obtain ⟨v11, h10, hf⟩ := hf
        refine zr_callS [.int x4_3] (cJ6_bitCount_0f7a4_ok h10) zvs_J6_bitCount_0f7a4 zl_67 zl_66 rfl (Nat.le_of_ble_eq_true rfl) (Nat.le_of_ble_eq_true rfl) (Nat.le_of_ble_eq_true rfl) (Nat.le_of_ble_eq_true rfl) dX0_fewestGuards_21 rfl ?_
        refine zr_istore [(5, .int v11), (0, .ref x0), (1, .int x1), (2, .int x2_1), (3, .int x3_2), (4, .int x4_3)] dX0_fewestGuards_24 (Nat.le_of_ble_eq_true rfl) rfl ?_
        refine zr_iload 0 dX0_fewestGuards_26 rfl ?_
        refine zr_iload_n 4 dX0_fewestGuards_28 rfl ?_
        replace hf := zb2_s hf
        obtain ⟨x2_12, x3_13, hg, hf⟩ := hf
        have hj14 : zz K cX0_fewestGuards (6, RX0, some .int, 4, 0, 0, some (.int r), μ) 0 0 48 [(0, .ref x0), (1, .int x1), (2, .int x2_12), (3, .int x3_13), (4, .int x4_3)] [] μ := by
          refine zr_iinc (j := 4) (x4_3 + 1) [(4, .int (x4_3 + 1)), (0, .ref x0), (1, .int x1), (2, .int x2_12), (3, .int x3_13)] dX0_fewestGuards_48 rfl rfl (Nat.le_of_ble_eq_true rfl) rfl ?_
          refine zr_goto 8 dX0_fewestGuards_51 (by decide) ?_
          exact zr_lv [1, 2, 3, 4, 0] rfl (ih5 x2_12 x3_13 (x4_3 + 1) hf)
        clear hf
        have hf := hg
        clear hg
        refine zr_icmp_ge 48 dX0_fewestGuards_29 (by decide) (fun hc => ?_) (fun hc => ?_)
        · rw [if_pos hc] at hf
          cases hf
          exact zr_lv [1, 2, 3, 4, 5] rfl hj14
        · rw [if_neg hc] at hf
          refine zr_aload_n 1 dX0_fewestGuards_32 rfl ?_
          refine zr_iload 5 dX0_fewestGuards_33 rfl ?_
          refine zr_iload_n 2 dX0_fewestGuards_35 rfl ?_
          replace hf := zb1_s hf
          obtain ⟨v16, h15, hf⟩ := hf
          refine zr_callS [.ref x0, .int x4_3, .int x1] (cX0_areGuards_ok h15) zvs_X0_areGuards zl_70 zl_69 rfl (Nat.le_of_ble_eq_true rfl) (Nat.le_of_ble_eq_true rfl) (Nat.le_of_ble_eq_true rfl) (Nat.le_of_ble_eq_true rfl) dX0_fewestGuards_36 rfl ?_
          refine zr_if_eq 48 dX0_fewestGuards_39 (by decide) (fun hc => ?_) (fun hc => ?_)
          · rw [if_pos hc] at hf
            cases hf
            exact zr_lv [1, 2, 3, 4, 5] rfl hj14
          · rw [if_neg hc] at hf
            refine zr_iload 0 dX0_fewestGuards_42 rfl ?_
            refine zr_istore_n [(3, .int v11), (5, .int v11), (0, .ref x0), (1, .int x1), (2, .int x2_1), (4, .int x4_3)] dX0_fewestGuards_44 (Nat.le_of_ble_eq_true rfl) rfl ?_
            refine zr_iload 5 dX0_fewestGuards_45 rfl ?_
            refine zr_istore_n [(2, .int x4_3), (3, .int v11), (5, .int v11), (0, .ref x0), (1, .int x1), (4, .int x4_3)] dX0_fewestGuards_47 (Nat.le_of_ble_eq_true rfl) rfl ?_
            cases hf
            exact zr_lv [3, 4, 0, 1, 5] rfl hj14
  exact zr_lv [3, 4, 2, 1, 0] rfl (hL17 _ (-1) 7 0 hf)
theorem dX0_farness_0 : decode cX0_farness 0 = .ok (.iconst 0, 1) := by decide +kernel
theorem dX0_farness_1 : decode cX0_farness 1 = .ok (.istore_n 3, 1) := by decide +kernel
theorem dX0_farness_2 : decode cX0_farness 2 = .ok (.iconst 0, 1) := by decide +kernel
theorem dX0_farness_3 : decode cX0_farness 3 = .ok (.istore 4, 2) := by decide +kernel
theorem dX0_farness_5 : decode cX0_farness 5 = .ok (.iconst 0, 1) := by decide +kernel
theorem dX0_farness_6 : decode cX0_farness 6 = .ok (.istore 5, 2) := by decide +kernel
theorem dX0_farness_8 : decode cX0_farness 8 = .ok (.iload 5, 2) := by decide +kernel
theorem dX0_farness_10 : decode cX0_farness 10 = .ok (.aload_n 0, 1) := by decide +kernel
theorem dX0_farness_11 : decode cX0_farness 11 = .ok (.getfield 21, 3) := by decide +kernel
theorem dX0_farness_14 : decode cX0_farness 14 = .ok (.if_icmp .ge 38, 3) := by decide +kernel
theorem dX0_farness_17 : decode cX0_farness 17 = .ok (.aload_n 0, 1) := by decide +kernel
theorem dX0_farness_18 : decode cX0_farness 18 = .ok (.iload_n 1, 1) := by decide +kernel
theorem dX0_farness_19 : decode cX0_farness 19 = .ok (.aload_n 0, 1) := by decide +kernel
theorem dX0_farness_20 : decode cX0_farness 20 = .ok (.getfield 27, 3) := by decide +kernel
theorem dX0_farness_23 : decode cX0_farness 23 = .ok (.iload 5, 2) := by decide +kernel
theorem dX0_farness_25 : decode cX0_farness 25 = .ok (.iaload, 1) := by decide +kernel
theorem dX0_farness_26 : decode cX0_farness 26 = .ok (.iconst 0, 1) := by decide +kernel
theorem dX0_farness_27 : decode cX0_farness 27 = .ok (.invokevirtual 88, 3) := by decide +kernel
theorem dX0_farness_30 : decode cX0_farness 30 = .ok (.istore 6, 2) := by decide +kernel
theorem dX0_farness_32 : decode cX0_farness 32 = .ok (.iload_n 3, 1) := by decide +kernel
theorem dX0_farness_33 : decode cX0_farness 33 = .ok (.iload 6, 2) := by decide +kernel
theorem dX0_farness_35 : decode cX0_farness 35 = .ok (.iadd, 1) := by decide +kernel
theorem dX0_farness_36 : decode cX0_farness 36 = .ok (.istore_n 3, 1) := by decide +kernel
theorem dX0_farness_37 : decode cX0_farness 37 = .ok (.iload 4, 2) := by decide +kernel
theorem dX0_farness_39 : decode cX0_farness 39 = .ok (.iload 6, 2) := by decide +kernel
theorem dX0_farness_41 : decode cX0_farness 41 = .ok (.invokestatic 71, 3) := by decide +kernel
theorem dX0_farness_44 : decode cX0_farness 44 = .ok (.istore 4, 2) := by decide +kernel
theorem dX0_farness_46 : decode cX0_farness 46 = .ok (.iinc 5 1, 3) := by decide +kernel
theorem dX0_farness_49 : decode cX0_farness 49 = .ok (.goto (-41), 3) := by decide +kernel
theorem dX0_farness_52 : decode cX0_farness 52 = .ok (.iload_n 2, 1) := by decide +kernel
theorem dX0_farness_53 : decode cX0_farness 53 = .ok (.ifCond .eq 8, 3) := by decide +kernel
theorem dX0_farness_56 : decode cX0_farness 56 = .ok (.iload 4, 2) := by decide +kernel
theorem dX0_farness_58 : decode cX0_farness 58 = .ok (.goto 4, 3) := by decide +kernel
theorem dX0_farness_61 : decode cX0_farness 61 = .ok (.iload_n 3, 1) := by decide +kernel
theorem dX0_farness_62 : decode cX0_farness 62 = .ok (.ireturn, 1) := by decide +kernel
noncomputable def fX0_farness_l8 (μ : zM) (x0 : Nat) (x1 : Int32) (F4 : Int32 → Int32 → Int32 → Option (Int32 × Int32)) (x3_1 : Int32) (x4_2 : Int32) (x5_3 : Int32) : Option (Int32 × Int32) :=
  zb1 (zm_gI μ 9 x0 4) fun v9 =>
  if v9 ≤ x5_3 then (
  some (x3_1, x4_2))
  else (
  zb1 (zm_gR μ 9 x0 6) fun v11 =>
  zb1 (zm_aI μ 0 v11 x5_3) fun v13 =>
  zb1 (fX9_way μ x0 x1 v13 0) fun v16 =>
  F4 (x3_1 + v16) (if x4_2 < v16 then v16 else x4_2 : Int32) (x5_3 + 1))
noncomputable def fX0_farness (μ : zM) (x0 : Nat) (x1 : Int32) (x2 : Int32) : Option (Int32) :=
  zb2 (zf3 (fX0_farness_l8 μ x0 x1) zfu 0 0 0 : Option (Int32 × Int32)) fun (x3_6 : Int32) (x4_7 : Int32) =>
  zb1 (if x2 = 0 then (
  some x3_6)
  else (
  some x4_7) : Option (Int32)) fun (s18 : Int32) =>
  some s18
set_option maxHeartbeats 4000000 in
set_option maxRecDepth 100000 in
theorem cX0_farness_ok {μ : zM} {x0 : Nat} {x1 : Int32} {x2 : Int32} {r : Int32} (hf : fX0_farness μ x0 x1 x2 = some r) : zC yX0_farness cX0_farness 7 (some .int) 2 0 0 [.ref x0, .int x1, .int x2] μ (some (.int r)) μ := by
  unfold fX0_farness at hf
  refine zC.of (by decide) (Nat.le_of_ble_eq_true rfl) (fun K hin => ?_)
  clear hin
  show zz K cX0_farness (7, RX0, some .int, 2, 0, 0, some (.int r), μ) 0 0 0 [(0, .ref x0), (1, .int x1), (2, .int x2)] [] μ
  refine zr_iconst 0 dX0_farness_0 (by decide) ?_
  refine zr_istore_n [(3, .int 0), (0, .ref x0), (1, .int x1), (2, .int x2)] dX0_farness_1 (Nat.le_of_ble_eq_true rfl) rfl ?_
  refine zr_iconst 0 dX0_farness_2 (by decide) ?_
  refine zr_istore [(4, .int 0), (3, .int 0), (0, .ref x0), (1, .int x1), (2, .int x2)] dX0_farness_3 (Nat.le_of_ble_eq_true rfl) rfl ?_
  refine zr_iconst 0 dX0_farness_5 (by decide) ?_
  refine zr_istore [(5, .int 0), (4, .int 0), (3, .int 0), (0, .ref x0), (1, .int x1), (2, .int x2)] dX0_farness_6 (Nat.le_of_ble_eq_true rfl) rfl ?_
  replace hf := zb2_s hf
  obtain ⟨x3_6, x4_7, hg, hf⟩ := hf
  have hj8 : zz K cX0_farness (7, RX0, some .int, 2, 0, 0, some (.int r), μ) 0 0 52 [(2, .int x2), (3, .int x3_6), (4, .int x4_7)] [] μ := by
    refine zr_iload_n 0 dX0_farness_52 rfl ?_
    replace hf := zb1_s hf
    obtain ⟨s18, hg, hf⟩ := hf
    have hj19 : zz K cX0_farness (7, RX0, some .int, 2, 0, 0, some (.int r), μ) 0 0 62 [] [.int s18] μ := by
      cases hf
      exact zr_iret dX0_farness_62
    clear hf
    have hf := hg
    clear hg
    refine zr_if_eq 61 dX0_farness_53 (by decide) (fun hc => ?_) (fun hc => ?_)
    · rw [if_pos hc] at hf
      refine zr_iload_n 1 dX0_farness_61 rfl ?_
      cases hf
      exact zr_lv [] rfl hj19
    · rw [if_neg hc] at hf
      refine zr_iload 2 dX0_farness_56 rfl ?_
      refine zr_goto 62 dX0_farness_58 (by decide) ?_
      cases hf
      exact zr_lv [] rfl hj19
  clear hf
  have hf := hg
  clear hg
  have hL17 : ∀ (n : Nat) (x3_1 : Int32) (x4_2 : Int32) (x5_3 : Int32), zf3 (fX0_farness_l8 μ x0 x1) n x3_1 x4_2 x5_3 = some (x3_6, x4_7) → zz K cX0_farness (7, RX0, some .int, 2, 0, 0, some (.int r), μ) 0 0 8 [(0, .ref x0), (1, .int x1), (2, .int x2), (3, .int x3_1), (4, .int x4_2), (5, .int x5_3)] [] μ := by
    intro n
    induction n with
    | zero => intro x3_1 x4_2 x5_3 hf; cases hf
    | succ n ih5 =>
      intro x3_1 x4_2 x5_3 hf
      replace hf := zf3_s hf
      generalize zf3 (fX0_farness_l8 μ x0 x1) n = F4 at hf ih5
      unfold fX0_farness_l8 at hf
      refine zr_iload 5 dX0_farness_8 rfl ?_
      refine zr_aload_n 0 dX0_farness_10 rfl ?_
      replace hf := zb1_s hf
      obtain ⟨v9, h10, hf⟩ := hf
      refine zr_get (zm_gI_g h10) zk9 (by decide) zl_23 dX0_farness_11 ?_
      refine zr_icmp_ge 52 dX0_farness_14 (by decide) (fun hc => ?_) (fun hc => ?_)
      · rw [if_pos hc] at hf
        cases hf
        exact zr_lv [2, 3, 4] rfl hj8
      · rw [if_neg hc] at hf
        refine zr_aload_n 0 dX0_farness_17 rfl ?_
        refine zr_iload_n 1 dX0_farness_18 rfl ?_
        refine zr_aload_n 0 dX0_farness_19 rfl ?_
        replace hf := zb1_s hf
        obtain ⟨v11, h12, hf⟩ := hf
        refine zr_get (zm_gR_g h12) zk9 (by decide) zl_24 dX0_farness_20 ?_
        refine zr_iload 5 dX0_farness_23 rfl ?_
        replace hf := zb1_s hf
        obtain ⟨v13, h14, hf⟩ := hf
        refine zr_iald h14 dX0_farness_25 ?_
        refine zr_iconst 0 dX0_farness_26 (by decide) ?_
        replace hf := zb1_s hf
        obtain ⟨v16, h15, hf⟩ := hf
        refine zr_callV (ci := 9) [.int x1, .int v13, .int 0] (cX9_way_ok h15) zvs_X9_way zl_20 zl_21 (fX9_way_ck h15) rfl rfl zl_60 rfl (Nat.le_of_ble_eq_true rfl) (Nat.le_of_ble_eq_true rfl) (Nat.le_of_ble_eq_true rfl) (Nat.le_of_ble_eq_true rfl) dX0_farness_27 rfl ?_
        refine zr_istore [(6, .int v16), (0, .ref x0), (1, .int x1), (2, .int x2), (3, .int x3_1), (4, .int x4_2), (5, .int x5_3)] dX0_farness_30 (Nat.le_of_ble_eq_true rfl) rfl ?_
        refine zr_iload_n 4 dX0_farness_32 rfl ?_
        refine zr_iload 0 dX0_farness_33 rfl ?_
        refine zr_iadd dX0_farness_35 ?_
        refine zr_istore_n [(3, .int (x3_1 + v16)), (6, .int v16), (0, .ref x0), (1, .int x1), (2, .int x2), (4, .int x4_2), (5, .int x5_3)] dX0_farness_36 (Nat.le_of_ble_eq_true rfl) rfl ?_
        refine zr_iload 5 dX0_farness_37 rfl ?_
        refine zr_iload 1 dX0_farness_39 rfl ?_
        refine zr_mmax zl_54 zl_55 zl_11 zl_56 (Nat.le_of_ble_eq_true rfl) (Nat.le_of_ble_eq_true rfl) (Nat.le_of_ble_eq_true rfl) (Nat.le_of_ble_eq_true rfl) dX0_farness_41 ?_
        refine zr_istore [(4, .int (if x4_2 < v16 then v16 else x4_2 : Int32)), (3, .int (x3_1 + v16)), (6, .int v16), (0, .ref x0), (1, .int x1), (2, .int x2), (5, .int x5_3)] dX0_farness_44 (Nat.le_of_ble_eq_true rfl) rfl ?_
        refine zr_iinc (j := 6) (x5_3 + 1) [(5, .int (x5_3 + 1)), (4, .int (if x4_2 < v16 then v16 else x4_2 : Int32)), (3, .int (x3_1 + v16)), (6, .int v16), (0, .ref x0), (1, .int x1), (2, .int x2)] dX0_farness_46 rfl rfl (Nat.le_of_ble_eq_true rfl) rfl ?_
        refine zr_goto 8 dX0_farness_49 (by decide) ?_
        exact zr_lv [4, 5, 6, 2, 1, 0] rfl (ih5 (x3_1 + v16) (if x4_2 < v16 then v16 else x4_2 : Int32) (x5_3 + 1) hf)
  exact zr_lv [3, 4, 5, 2, 1, 0] rfl (hL17 _ 0 0 0 hf)
theorem zl_71 : Cond.code yX0_farness cX0_farness 7 (some .int) ∈ zt := zt_at 1269 (by decide +kernel)
theorem zvs_X0_farness : zvS yX0_farness cX0_farness 7 (some .int) 3 := ⟨zl_71, zl_31, ⟨by decide +kernel, by decide +kernel, by decide +kernel⟩, by decide⟩
theorem zl_72 : Cond.methodLink RX0 92 yX0_farness ∈ zt := zt_at 1267 (by decide +kernel)
theorem zl_73 : Cond.static yX0_farness ∈ zt := zt_at 1268 (by decide +kernel)
theorem dX0_nearestPlace_0 : decode cX0_nearestPlace 0 = .ok (.iconst 0, 1) := by decide +kernel
theorem dX0_nearestPlace_1 : decode cX0_nearestPlace 1 = .ok (.istore_n 2, 1) := by decide +kernel
theorem dX0_nearestPlace_2 : decode cX0_nearestPlace 2 = .ok (.iconst 1, 1) := by decide +kernel
theorem dX0_nearestPlace_3 : decode cX0_nearestPlace 3 = .ok (.istore_n 3, 1) := by decide +kernel
theorem dX0_nearestPlace_4 : decode cX0_nearestPlace 4 = .ok (.iload_n 3, 1) := by decide +kernel
theorem dX0_nearestPlace_5 : decode cX0_nearestPlace 5 = .ok (.aload_n 0, 1) := by decide +kernel
theorem dX0_nearestPlace_6 : decode cX0_nearestPlace 6 = .ok (.getfield 34, 3) := by decide +kernel
theorem dX0_nearestPlace_9 : decode cX0_nearestPlace 9 = .ok (.if_icmp .gt 26, 3) := by decide +kernel
theorem dX0_nearestPlace_12 : decode cX0_nearestPlace 12 = .ok (.aload_n 0, 1) := by decide +kernel
theorem dX0_nearestPlace_13 : decode cX0_nearestPlace 13 = .ok (.iload_n 3, 1) := by decide +kernel
theorem dX0_nearestPlace_14 : decode cX0_nearestPlace 14 = .ok (.iload_n 1, 1) := by decide +kernel
theorem dX0_nearestPlace_15 : decode cX0_nearestPlace 15 = .ok (.invokestatic 92, 3) := by decide +kernel
theorem dX0_nearestPlace_18 : decode cX0_nearestPlace 18 = .ok (.aload_n 0, 1) := by decide +kernel
theorem dX0_nearestPlace_19 : decode cX0_nearestPlace 19 = .ok (.iload_n 2, 1) := by decide +kernel
theorem dX0_nearestPlace_20 : decode cX0_nearestPlace 20 = .ok (.iload_n 1, 1) := by decide +kernel
theorem dX0_nearestPlace_21 : decode cX0_nearestPlace 21 = .ok (.invokestatic 92, 3) := by decide +kernel
theorem dX0_nearestPlace_24 : decode cX0_nearestPlace 24 = .ok (.if_icmp .ge 5, 3) := by decide +kernel
theorem dX0_nearestPlace_27 : decode cX0_nearestPlace 27 = .ok (.iload_n 3, 1) := by decide +kernel
theorem dX0_nearestPlace_28 : decode cX0_nearestPlace 28 = .ok (.istore_n 2, 1) := by decide +kernel
theorem dX0_nearestPlace_29 : decode cX0_nearestPlace 29 = .ok (.iinc 3 1, 3) := by decide +kernel
theorem dX0_nearestPlace_32 : decode cX0_nearestPlace 32 = .ok (.goto (-28), 3) := by decide +kernel
theorem dX0_nearestPlace_35 : decode cX0_nearestPlace 35 = .ok (.iload_n 2, 1) := by decide +kernel
theorem dX0_nearestPlace_36 : decode cX0_nearestPlace 36 = .ok (.ireturn, 1) := by decide +kernel
noncomputable def fX0_nearestPlace_l4 (μ : zM) (x0 : Nat) (x1 : Int32) (F3 : Int32 → Int32 → Option (Int32)) (x2_1 : Int32) (x3_2 : Int32) : Option (Int32) :=
  zb1 (zm_gI μ 9 x0 0) fun v7 =>
  if v7 < x3_2 then (
  some x2_1)
  else (
  zb1 (fX0_farness μ x0 x3_2 x1) fun v10 =>
  zb1 (fX0_farness μ x0 x2_1 x1) fun v12 =>
  zb1 (if v12 ≤ v10 then (
  some x2_1)
  else (
  some x3_2) : Option (Int32)) fun (x2_13 : Int32) =>
  F3 x2_13 (x3_2 + 1))
noncomputable def fX0_nearestPlace (μ : zM) (x0 : Nat) (x1 : Int32) : Option (Int32) :=
  zb1 (zf2 (fX0_nearestPlace_l4 μ x0 x1) zfu 0 1 : Option (Int32)) fun (x2_5 : Int32) =>
  some x2_5
set_option maxHeartbeats 4000000 in
set_option maxRecDepth 100000 in
theorem cX0_nearestPlace_ok {μ : zM} {x0 : Nat} {x1 : Int32} {r : Int32} (hf : fX0_nearestPlace μ x0 x1 = some r) : zC yX0_nearestPlace cX0_nearestPlace 4 (some .int) 3 0 0 [.ref x0, .int x1] μ (some (.int r)) μ := by
  unfold fX0_nearestPlace at hf
  refine zC.of (by decide) (Nat.le_of_ble_eq_true rfl) (fun K hin => ?_)
  clear hin
  show zz K cX0_nearestPlace (4, RX0, some .int, 3, 0, 0, some (.int r), μ) 0 0 0 [(0, .ref x0), (1, .int x1)] [] μ
  refine zr_iconst 0 dX0_nearestPlace_0 (by decide) ?_
  refine zr_istore_n [(2, .int 0), (0, .ref x0), (1, .int x1)] dX0_nearestPlace_1 (Nat.le_of_ble_eq_true rfl) rfl ?_
  refine zr_iconst 1 dX0_nearestPlace_2 (by decide) ?_
  refine zr_istore_n [(3, .int 1), (2, .int 0), (0, .ref x0), (1, .int x1)] dX0_nearestPlace_3 (Nat.le_of_ble_eq_true rfl) rfl ?_
  replace hf := zb1_s hf
  obtain ⟨x2_5, hg, hf⟩ := hf
  have hj6 : zz K cX0_nearestPlace (4, RX0, some .int, 3, 0, 0, some (.int r), μ) 0 0 35 [(2, .int x2_5)] [] μ := by
    refine zr_iload_n 0 dX0_nearestPlace_35 rfl ?_
    cases hf
    exact zr_iret dX0_nearestPlace_36
  clear hf
  have hf := hg
  clear hg
  have hL15 : ∀ (n : Nat) (x2_1 : Int32) (x3_2 : Int32), zf2 (fX0_nearestPlace_l4 μ x0 x1) n x2_1 x3_2 = some x2_5 → zz K cX0_nearestPlace (4, RX0, some .int, 3, 0, 0, some (.int r), μ) 0 0 4 [(0, .ref x0), (1, .int x1), (2, .int x2_1), (3, .int x3_2)] [] μ := by
    intro n
    induction n with
    | zero => intro x2_1 x3_2 hf; cases hf
    | succ n ih4 =>
      intro x2_1 x3_2 hf
      replace hf := zf2_s hf
      generalize zf2 (fX0_nearestPlace_l4 μ x0 x1) n = F3 at hf ih4
      unfold fX0_nearestPlace_l4 at hf
      refine zr_iload_n 3 dX0_nearestPlace_4 rfl ?_
      refine zr_aload_n 0 dX0_nearestPlace_5 rfl ?_
      replace hf := zb1_s hf
      obtain ⟨v7, h8, hf⟩ := hf
      refine zr_get (zm_gI_g h8) zk9 (by decide) zl_29 dX0_nearestPlace_6 ?_
      refine zr_icmp_gt 35 dX0_nearestPlace_9 (by decide) (fun hc => ?_) (fun hc => ?_)
      · rw [if_pos hc] at hf
        cases hf
        exact zr_lv [2] rfl hj6
      · rw [if_neg hc] at hf
        refine zr_aload_n 0 dX0_nearestPlace_12 rfl ?_
        refine zr_iload_n 3 dX0_nearestPlace_13 rfl ?_
        refine zr_iload_n 1 dX0_nearestPlace_14 rfl ?_
        replace hf := zb1_s hf
        obtain ⟨v10, h9, hf⟩ := hf
        refine zr_callS [.ref x0, .int x3_2, .int x1] (cX0_farness_ok h9) zvs_X0_farness zl_73 zl_72 rfl (Nat.le_of_ble_eq_true rfl) (Nat.le_of_ble_eq_true rfl) (Nat.le_of_ble_eq_true rfl) (Nat.le_of_ble_eq_true rfl) dX0_nearestPlace_15 rfl ?_
        refine zr_aload_n 0 dX0_nearestPlace_18 rfl ?_
        refine zr_iload_n 2 dX0_nearestPlace_19 rfl ?_
        refine zr_iload_n 1 dX0_nearestPlace_20 rfl ?_
        replace hf := zb1_s hf
        obtain ⟨v12, h11, hf⟩ := hf
        refine zr_callS [.ref x0, .int x2_1, .int x1] (cX0_farness_ok h11) zvs_X0_farness zl_73 zl_72 rfl (Nat.le_of_ble_eq_true rfl) (Nat.le_of_ble_eq_true rfl) (Nat.le_of_ble_eq_true rfl) (Nat.le_of_ble_eq_true rfl) dX0_nearestPlace_21 rfl ?_
        replace hf := zb1_s hf
        obtain ⟨x2_13, hg, hf⟩ := hf
        have hj14 : zz K cX0_nearestPlace (4, RX0, some .int, 3, 0, 0, some (.int r), μ) 0 0 29 [(0, .ref x0), (1, .int x1), (2, .int x2_13), (3, .int x3_2)] [] μ := by
          refine zr_iinc (j := 3) (x3_2 + 1) [(3, .int (x3_2 + 1)), (0, .ref x0), (1, .int x1), (2, .int x2_13)] dX0_nearestPlace_29 rfl rfl (Nat.le_of_ble_eq_true rfl) rfl ?_
          refine zr_goto 4 dX0_nearestPlace_32 (by decide) ?_
          exact zr_lv [1, 2, 3, 0] rfl (ih4 x2_13 (x3_2 + 1) hf)
        clear hf
        have hf := hg
        clear hg
        refine zr_icmp_ge 29 dX0_nearestPlace_24 (by decide) (fun hc => ?_) (fun hc => ?_)
        · rw [if_pos hc] at hf
          cases hf
          exact zr_lv [0, 1, 2, 3] rfl hj14
        · rw [if_neg hc] at hf
          refine zr_iload_n 3 dX0_nearestPlace_27 rfl ?_
          refine zr_istore_n [(2, .int x3_2), (0, .ref x0), (1, .int x1), (3, .int x3_2)] dX0_nearestPlace_28 (Nat.le_of_ble_eq_true rfl) rfl ?_
          cases hf
          exact zr_lv [1, 2, 0, 3] rfl hj14
  exact zr_lv [2, 3, 1, 0] rfl (hL15 _ 0 1 hf)
theorem dX0_isNearer_0 : decode cX0_isNearer 0 = .ok (.aload_n 0, 1) := by decide +kernel
theorem dX0_isNearer_1 : decode cX0_isNearer 1 = .ok (.iload_n 1, 1) := by decide +kernel
theorem dX0_isNearer_2 : decode cX0_isNearer 2 = .ok (.iload_n 3, 1) := by decide +kernel
theorem dX0_isNearer_3 : decode cX0_isNearer 3 = .ok (.invokestatic 64, 3) := by decide +kernel
theorem dX0_isNearer_6 : decode cX0_isNearer 6 = .ok (.istore 4, 2) := by decide +kernel
theorem dX0_isNearer_8 : decode cX0_isNearer 8 = .ok (.aload_n 0, 1) := by decide +kernel
theorem dX0_isNearer_9 : decode cX0_isNearer 9 = .ok (.iload_n 2, 1) := by decide +kernel
theorem dX0_isNearer_10 : decode cX0_isNearer 10 = .ok (.iload_n 3, 1) := by decide +kernel
theorem dX0_isNearer_11 : decode cX0_isNearer 11 = .ok (.invokestatic 64, 3) := by decide +kernel
theorem dX0_isNearer_14 : decode cX0_isNearer 14 = .ok (.istore 5, 2) := by decide +kernel
theorem dX0_isNearer_16 : decode cX0_isNearer 16 = .ok (.iload 4, 2) := by decide +kernel
theorem dX0_isNearer_18 : decode cX0_isNearer 18 = .ok (.iload 5, 2) := by decide +kernel
theorem dX0_isNearer_20 : decode cX0_isNearer 20 = .ok (.if_icmp .lt 15, 3) := by decide +kernel
theorem dX0_isNearer_23 : decode cX0_isNearer 23 = .ok (.iload 4, 2) := by decide +kernel
theorem dX0_isNearer_25 : decode cX0_isNearer 25 = .ok (.iload 5, 2) := by decide +kernel
theorem dX0_isNearer_27 : decode cX0_isNearer 27 = .ok (.if_icmp .ne 12, 3) := by decide +kernel
theorem dX0_isNearer_30 : decode cX0_isNearer 30 = .ok (.iload_n 1, 1) := by decide +kernel
theorem dX0_isNearer_31 : decode cX0_isNearer 31 = .ok (.iload_n 2, 1) := by decide +kernel
theorem dX0_isNearer_32 : decode cX0_isNearer 32 = .ok (.if_icmp .ge 7, 3) := by decide +kernel
theorem dX0_isNearer_35 : decode cX0_isNearer 35 = .ok (.iconst 1, 1) := by decide +kernel
theorem dX0_isNearer_36 : decode cX0_isNearer 36 = .ok (.goto 4, 3) := by decide +kernel
theorem dX0_isNearer_39 : decode cX0_isNearer 39 = .ok (.iconst 0, 1) := by decide +kernel
theorem dX0_isNearer_40 : decode cX0_isNearer 40 = .ok (.ireturn, 1) := by decide +kernel
noncomputable def fX0_isNearer (μ : zM) (x0 : Nat) (x1 : Int32) (x2 : Int32) (x3 : Int32) : Option (Int32) :=
  zb1 (fX0_apart μ x0 x1 x3) fun v2 =>
  zb1 (fX0_apart μ x0 x2 x3) fun v4 =>
  zb1 (if v2 < v4 then (
  some 1)
  else (
  if v2 = v4 then (
  if x2 ≤ x1 then (
  some 0)
  else (
  some 1))
  else (
  some 0)) : Option (Int32)) fun (s5 : Int32) =>
  zb1 (zbz s5) fun v7 =>
  some v7
set_option maxHeartbeats 4000000 in
set_option maxRecDepth 100000 in
theorem cX0_isNearer_ok {μ : zM} {x0 : Nat} {x1 : Int32} {x2 : Int32} {x3 : Int32} {r : Int32} (hf : fX0_isNearer μ x0 x1 x2 x3 = some r) : zC yX0_isNearer cX0_isNearer 6 (some .boolean) 2 0 0 [.ref x0, .int x1, .int x2, .int x3] μ (some (.int r)) μ := by
  unfold fX0_isNearer at hf
  refine zC.of (by decide) (Nat.le_of_ble_eq_true rfl) (fun K hin => ?_)
  clear hin
  show zz K cX0_isNearer (6, RX0, some .boolean, 2, 0, 0, some (.int r), μ) 0 0 0 [(0, .ref x0), (1, .int x1), (2, .int x2), (3, .int x3)] [] μ
  refine zr_aload_n 0 dX0_isNearer_0 rfl ?_
  refine zr_iload_n 1 dX0_isNearer_1 rfl ?_
  refine zr_iload_n 3 dX0_isNearer_2 rfl ?_
  replace hf := zb1_s hf
  obtain ⟨v2, h1, hf⟩ := hf
  refine zr_callS [.ref x0, .int x1, .int x3] (cX0_apart_ok h1) zvs_X0_apart zl_44 zl_43 rfl (Nat.le_of_ble_eq_true rfl) (Nat.le_of_ble_eq_true rfl) (Nat.le_of_ble_eq_true rfl) (Nat.le_of_ble_eq_true rfl) dX0_isNearer_3 rfl ?_
  refine zr_istore [(4, .int v2), (0, .ref x0), (1, .int x1), (2, .int x2), (3, .int x3)] dX0_isNearer_6 (Nat.le_of_ble_eq_true rfl) rfl ?_
  refine zr_aload_n 1 dX0_isNearer_8 rfl ?_
  refine zr_iload_n 3 dX0_isNearer_9 rfl ?_
  refine zr_iload_n 4 dX0_isNearer_10 rfl ?_
  replace hf := zb1_s hf
  obtain ⟨v4, h3, hf⟩ := hf
  refine zr_callS [.ref x0, .int x2, .int x3] (cX0_apart_ok h3) zvs_X0_apart zl_44 zl_43 rfl (Nat.le_of_ble_eq_true rfl) (Nat.le_of_ble_eq_true rfl) (Nat.le_of_ble_eq_true rfl) (Nat.le_of_ble_eq_true rfl) dX0_isNearer_11 rfl ?_
  refine zr_istore [(5, .int v4), (4, .int v2), (0, .ref x0), (1, .int x1), (2, .int x2), (3, .int x3)] dX0_isNearer_14 (Nat.le_of_ble_eq_true rfl) rfl ?_
  refine zr_iload 1 dX0_isNearer_16 rfl ?_
  refine zr_iload 0 dX0_isNearer_18 rfl ?_
  replace hf := zb1_s hf
  obtain ⟨s5, hg, hf⟩ := hf
  have hj6 : zz K cX0_isNearer (6, RX0, some .boolean, 2, 0, 0, some (.int r), μ) 0 0 40 [] [.int s5] μ := by
    replace hf := zb1_s hf
    obtain ⟨v7, hn8, hf⟩ := hf
    replace hn8 := zbz_s hn8
    obtain ⟨hn8, rfl⟩ := hn8
    cases hf
    exact zr_zret hn8 dX0_isNearer_40
  clear hf
  have hf := hg
  clear hg
  refine zr_icmp_lt 35 dX0_isNearer_20 (by decide) (fun hc => ?_) (fun hc => ?_)
  · rw [if_pos hc] at hf
    refine zr_iconst 1 dX0_isNearer_35 (by decide) ?_
    refine zr_goto 40 dX0_isNearer_36 (by decide) ?_
    cases hf
    exact zr_lv [] rfl hj6
  · rw [if_neg hc] at hf
    refine zr_iload 1 dX0_isNearer_23 rfl ?_
    refine zr_iload 0 dX0_isNearer_25 rfl ?_
    refine zr_icmp_ne 39 dX0_isNearer_27 (by decide) (fun hc => ?_) (fun hc => ?_)
    · rw [if_neg hc] at hf
      refine zr_iconst 0 dX0_isNearer_39 (by decide) ?_
      cases hf
      exact zr_lv [] rfl hj6
    · rw [if_pos hc] at hf
      refine zr_iload_n 3 dX0_isNearer_30 rfl ?_
      refine zr_iload_n 4 dX0_isNearer_31 rfl ?_
      refine zr_icmp_ge 39 dX0_isNearer_32 (by decide) (fun hc => ?_) (fun hc => ?_)
      · rw [if_pos hc] at hf
        refine zr_iconst 0 dX0_isNearer_39 (by decide) ?_
        cases hf
        exact zr_lv [] rfl hj6
      · rw [if_neg hc] at hf
        refine zr_iconst 1 dX0_isNearer_35 (by decide) ?_
        refine zr_goto 40 dX0_isNearer_36 (by decide) ?_
        cases hf
        exact zr_lv [] rfl hj6
