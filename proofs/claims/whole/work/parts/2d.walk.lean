theorem zl_227 : Cond.methodLink RX9 3 Lib.objectInit ∈ zt := zt_at 170 (by decide +kernel)
theorem zl_228 : Cond.fieldLink RX9 18 "TwoEchoes$Valley" "weight" "[I" ∈ zt := zt_at 184 (by decide +kernel)
theorem zl_229 : Cond.fieldLink RX9 21 "TwoEchoes$Valley" "kind" "[I" ∈ zt := zt_at 193 (by decide +kernel)
theorem zl_230 : Cond.fieldLink RX9 24 "TwoEchoes$Valley" "place" "[I" ∈ zt := zt_at 196 (by decide +kernel)
theorem zl_231 : Cond.fieldLink RX9 27 "TwoEchoes$Valley" "wish" "[I" ∈ zt := zt_at 199 (by decide +kernel)
theorem zl_232 : Cond.fieldLink RX9 30 "TwoEchoes$Valley" "skyKind" "[I" ∈ zt := zt_at 204 (by decide +kernel)
theorem zl_233 : Cond.fieldLink RX9 33 "TwoEchoes$Valley" "skyFrom" "[I" ∈ zt := zt_at 205 (by decide +kernel)
theorem zl_234 : Cond.fieldLink RX9 36 "TwoEchoes$Valley" "skyUpTo" "[I" ∈ zt := zt_at 206 (by decide +kernel)
theorem dX9_init_0 : decode cX9_init 0 = .ok (.aload_n 0, 1) := by decide +kernel
theorem dX9_init_1 : decode cX9_init 1 = .ok (.invokespecial 3, 3) := by decide +kernel
theorem dX9_init_4 : decode cX9_init 4 = .ok (.aload_n 0, 1) := by decide +kernel
theorem dX9_init_5 : decode cX9_init 5 = .ok (.bipush 8, 2) := by decide +kernel
theorem dX9_init_7 : decode cX9_init 7 = .ok (.newarray .int, 2) := by decide +kernel
theorem dX9_init_9 : decode cX9_init 9 = .ok (.putfield 9, 3) := by decide +kernel
theorem dX9_init_12 : decode cX9_init 12 = .ok (.aload_n 0, 1) := by decide +kernel
theorem dX9_init_13 : decode cX9_init 13 = .ok (.bipush 8, 2) := by decide +kernel
theorem dX9_init_15 : decode cX9_init 15 = .ok (.newarray .int, 2) := by decide +kernel
theorem dX9_init_17 : decode cX9_init 17 = .ok (.putfield 15, 3) := by decide +kernel
theorem dX9_init_20 : decode cX9_init 20 = .ok (.aload_n 0, 1) := by decide +kernel
theorem dX9_init_21 : decode cX9_init 21 = .ok (.bipush 8, 2) := by decide +kernel
theorem dX9_init_23 : decode cX9_init 23 = .ok (.newarray .int, 2) := by decide +kernel
theorem dX9_init_25 : decode cX9_init 25 = .ok (.putfield 18, 3) := by decide +kernel
theorem dX9_init_28 : decode cX9_init 28 = .ok (.aload_n 0, 1) := by decide +kernel
theorem dX9_init_29 : decode cX9_init 29 = .ok (.bipush 6, 2) := by decide +kernel
theorem dX9_init_31 : decode cX9_init 31 = .ok (.newarray .int, 2) := by decide +kernel
theorem dX9_init_33 : decode cX9_init 33 = .ok (.putfield 21, 3) := by decide +kernel
theorem dX9_init_36 : decode cX9_init 36 = .ok (.aload_n 0, 1) := by decide +kernel
theorem dX9_init_37 : decode cX9_init 37 = .ok (.bipush 6, 2) := by decide +kernel
theorem dX9_init_39 : decode cX9_init 39 = .ok (.newarray .int, 2) := by decide +kernel
theorem dX9_init_41 : decode cX9_init 41 = .ok (.putfield 24, 3) := by decide +kernel
theorem dX9_init_44 : decode cX9_init 44 = .ok (.aload_n 0, 1) := by decide +kernel
theorem dX9_init_45 : decode cX9_init 45 = .ok (.bipush 6, 2) := by decide +kernel
theorem dX9_init_47 : decode cX9_init 47 = .ok (.newarray .int, 2) := by decide +kernel
theorem dX9_init_49 : decode cX9_init 49 = .ok (.putfield 27, 3) := by decide +kernel
theorem dX9_init_52 : decode cX9_init 52 = .ok (.aload_n 0, 1) := by decide +kernel
theorem dX9_init_53 : decode cX9_init 53 = .ok (.iconst 4, 1) := by decide +kernel
theorem dX9_init_54 : decode cX9_init 54 = .ok (.newarray .int, 2) := by decide +kernel
theorem dX9_init_56 : decode cX9_init 56 = .ok (.putfield 30, 3) := by decide +kernel
theorem dX9_init_59 : decode cX9_init 59 = .ok (.aload_n 0, 1) := by decide +kernel
theorem dX9_init_60 : decode cX9_init 60 = .ok (.iconst 4, 1) := by decide +kernel
theorem dX9_init_61 : decode cX9_init 61 = .ok (.newarray .int, 2) := by decide +kernel
theorem dX9_init_63 : decode cX9_init 63 = .ok (.putfield 33, 3) := by decide +kernel
theorem dX9_init_66 : decode cX9_init 66 = .ok (.aload_n 0, 1) := by decide +kernel
theorem dX9_init_67 : decode cX9_init 67 = .ok (.iconst 4, 1) := by decide +kernel
theorem dX9_init_68 : decode cX9_init 68 = .ok (.newarray .int, 2) := by decide +kernel
theorem dX9_init_70 : decode cX9_init 70 = .ok (.putfield 36, 3) := by decide +kernel
theorem dX9_init_73 : decode cX9_init 73 = .ok (.aload_n 0, 1) := by decide +kernel
theorem dX9_init_74 : decode cX9_init 74 = .ok (.bipush 100, 2) := by decide +kernel
theorem dX9_init_76 : decode cX9_init 76 = .ok (.newarray .int, 2) := by decide +kernel
theorem dX9_init_78 : decode cX9_init 78 = .ok (.putfield 39, 3) := by decide +kernel
theorem dX9_init_81 : decode cX9_init 81 = .ok (.return_, 1) := by decide +kernel
noncomputable def fX9_init (μ : zM) (x0 : Nat) : Option (zM) :=
  zb1 (some (zm_nw μ (.inl (0, 8, .inl (fun _ => 0))))) fun m1 =>
  zb1 (zm_p m1 9 x0 1 (.ref μ.2.1)) fun m3 =>
  zb1 (some (zm_nw m3 (.inl (0, 8, .inl (fun _ => 0))))) fun m5 =>
  zb1 (zm_p m5 9 x0 2 (.ref m3.2.1)) fun m7 =>
  zb1 (some (zm_nw m7 (.inl (0, 8, .inl (fun _ => 0))))) fun m9 =>
  zb1 (zm_p m9 9 x0 3 (.ref m7.2.1)) fun m11 =>
  zb1 (some (zm_nw m11 (.inl (0, 6, .inl (fun _ => 0))))) fun m13 =>
  zb1 (zm_p m13 9 x0 5 (.ref m11.2.1)) fun m15 =>
  zb1 (some (zm_nw m15 (.inl (0, 6, .inl (fun _ => 0))))) fun m17 =>
  zb1 (zm_p m17 9 x0 6 (.ref m15.2.1)) fun m19 =>
  zb1 (some (zm_nw m19 (.inl (0, 6, .inl (fun _ => 0))))) fun m21 =>
  zb1 (zm_p m21 9 x0 7 (.ref m19.2.1)) fun m23 =>
  zb1 (some (zm_nw m23 (.inl (0, 4, .inl (fun _ => 0))))) fun m25 =>
  zb1 (zm_p m25 9 x0 9 (.ref m23.2.1)) fun m27 =>
  zb1 (some (zm_nw m27 (.inl (0, 4, .inl (fun _ => 0))))) fun m29 =>
  zb1 (zm_p m29 9 x0 10 (.ref m27.2.1)) fun m31 =>
  zb1 (some (zm_nw m31 (.inl (0, 4, .inl (fun _ => 0))))) fun m33 =>
  zb1 (zm_p m33 9 x0 11 (.ref m31.2.1)) fun m35 =>
  zb1 (some (zm_nw m35 (.inl (0, 100, .inl (fun _ => 0))))) fun m37 =>
  zb1 (zm_p m37 9 x0 12 (.ref m35.2.1)) fun m39 =>
  some m39
set_option maxHeartbeats 4000000 in
set_option maxRecDepth 100000 in
theorem cX9_init_ok {μ : zM} {x0 : Nat} {mo : zM} (hf : fX9_init μ x0 = some mo) : zC yX9_init cX9_init 1 (none) 1 10 154 [.ref x0] μ (none) mo := by
  unfold fX9_init at hf
  refine zC.of (by decide) (Nat.le_of_ble_eq_true rfl) (fun K hin => ?_)
  replace hin := hin rfl
  show zz K cX9_init (1, RX9, none, 1, 10, 154, none, mo) 0 0 0 [(0, .ref x0)] [] μ
  refine zr_aload_n 0 dX9_init_0 rfl ?_
  refine zr_objInit zl_227 zl_1 zl_2 (Nat.le_of_ble_eq_true rfl) (Nat.le_of_ble_eq_true rfl) dX9_init_1 ?_
  refine zr_aload_n 0 dX9_init_4 rfl ?_
  refine zr_bipush 8 dX9_init_5 (by decide) ?_
  refine zr_newa (t := 0) (N := 8) (atype := .int) (by decide) rfl zl_3 (by decide) (by decide) (by decide) (Nat.le_of_ble_eq_true rfl) (Nat.le_of_ble_eq_true rfl) dX9_init_7 ?_
  replace hf := zb1_s hf
  obtain ⟨m1, h2, hf⟩ := hf
  obtain rfl := Option.some.inj h2
  replace hf := zb1_s hf
  obtain ⟨m3, h4, hf⟩ := hf
  refine zr_putF h4 hin rfl zk9 (by decide) zl_116 rfl rfl rfl dX9_init_9 ?_
  refine zr_aload_n 0 dX9_init_12 rfl ?_
  refine zr_bipush 8 dX9_init_13 (by decide) ?_
  refine zr_newa (t := 0) (N := 8) (atype := .int) (by decide) rfl zl_3 (by decide) (by decide) (by decide) (Nat.le_of_ble_eq_true rfl) (Nat.le_of_ble_eq_true rfl) dX9_init_15 ?_
  replace hf := zb1_s hf
  obtain ⟨m5, h6, hf⟩ := hf
  obtain rfl := Option.some.inj h6
  replace hf := zb1_s hf
  obtain ⟨m7, h8, hf⟩ := hf
  refine zr_putF h8 hin rfl zk9 (by decide) zl_115 rfl rfl rfl dX9_init_17 ?_
  refine zr_aload_n 0 dX9_init_20 rfl ?_
  refine zr_bipush 8 dX9_init_21 (by decide) ?_
  refine zr_newa (t := 0) (N := 8) (atype := .int) (by decide) rfl zl_3 (by decide) (by decide) (by decide) (Nat.le_of_ble_eq_true rfl) (Nat.le_of_ble_eq_true rfl) dX9_init_23 ?_
  replace hf := zb1_s hf
  obtain ⟨m9, h10, hf⟩ := hf
  obtain rfl := Option.some.inj h10
  replace hf := zb1_s hf
  obtain ⟨m11, h12, hf⟩ := hf
  refine zr_putF h12 hin rfl zk9 (by decide) zl_228 rfl rfl rfl dX9_init_25 ?_
  refine zr_aload_n 0 dX9_init_28 rfl ?_
  refine zr_bipush 6 dX9_init_29 (by decide) ?_
  refine zr_newa (t := 0) (N := 6) (atype := .int) (by decide) rfl zl_3 (by decide) (by decide) (by decide) (Nat.le_of_ble_eq_true rfl) (Nat.le_of_ble_eq_true rfl) dX9_init_31 ?_
  replace hf := zb1_s hf
  obtain ⟨m13, h14, hf⟩ := hf
  obtain rfl := Option.some.inj h14
  replace hf := zb1_s hf
  obtain ⟨m15, h16, hf⟩ := hf
  refine zr_putF h16 hin rfl zk9 (by decide) zl_229 rfl rfl rfl dX9_init_33 ?_
  refine zr_aload_n 0 dX9_init_36 rfl ?_
  refine zr_bipush 6 dX9_init_37 (by decide) ?_
  refine zr_newa (t := 0) (N := 6) (atype := .int) (by decide) rfl zl_3 (by decide) (by decide) (by decide) (Nat.le_of_ble_eq_true rfl) (Nat.le_of_ble_eq_true rfl) dX9_init_39 ?_
  replace hf := zb1_s hf
  obtain ⟨m17, h18, hf⟩ := hf
  obtain rfl := Option.some.inj h18
  replace hf := zb1_s hf
  obtain ⟨m19, h20, hf⟩ := hf
  refine zr_putF h20 hin rfl zk9 (by decide) zl_230 rfl rfl rfl dX9_init_41 ?_
  refine zr_aload_n 0 dX9_init_44 rfl ?_
  refine zr_bipush 6 dX9_init_45 (by decide) ?_
  refine zr_newa (t := 0) (N := 6) (atype := .int) (by decide) rfl zl_3 (by decide) (by decide) (by decide) (Nat.le_of_ble_eq_true rfl) (Nat.le_of_ble_eq_true rfl) dX9_init_47 ?_
  replace hf := zb1_s hf
  obtain ⟨m21, h22, hf⟩ := hf
  obtain rfl := Option.some.inj h22
  replace hf := zb1_s hf
  obtain ⟨m23, h24, hf⟩ := hf
  refine zr_putF h24 hin rfl zk9 (by decide) zl_231 rfl rfl rfl dX9_init_49 ?_
  refine zr_aload_n 0 dX9_init_52 rfl ?_
  refine zr_iconst 4 dX9_init_53 (by decide) ?_
  refine zr_newa (t := 0) (N := 4) (atype := .int) (by decide) rfl zl_3 (by decide) (by decide) (by decide) (Nat.le_of_ble_eq_true rfl) (Nat.le_of_ble_eq_true rfl) dX9_init_54 ?_
  replace hf := zb1_s hf
  obtain ⟨m25, h26, hf⟩ := hf
  obtain rfl := Option.some.inj h26
  replace hf := zb1_s hf
  obtain ⟨m27, h28, hf⟩ := hf
  refine zr_putF h28 hin rfl zk9 (by decide) zl_232 rfl rfl rfl dX9_init_56 ?_
  refine zr_aload_n 0 dX9_init_59 rfl ?_
  refine zr_iconst 4 dX9_init_60 (by decide) ?_
  refine zr_newa (t := 0) (N := 4) (atype := .int) (by decide) rfl zl_3 (by decide) (by decide) (by decide) (Nat.le_of_ble_eq_true rfl) (Nat.le_of_ble_eq_true rfl) dX9_init_61 ?_
  replace hf := zb1_s hf
  obtain ⟨m29, h30, hf⟩ := hf
  obtain rfl := Option.some.inj h30
  replace hf := zb1_s hf
  obtain ⟨m31, h32, hf⟩ := hf
  refine zr_putF h32 hin rfl zk9 (by decide) zl_233 rfl rfl rfl dX9_init_63 ?_
  refine zr_aload_n 0 dX9_init_66 rfl ?_
  refine zr_iconst 4 dX9_init_67 (by decide) ?_
  refine zr_newa (t := 0) (N := 4) (atype := .int) (by decide) rfl zl_3 (by decide) (by decide) (by decide) (Nat.le_of_ble_eq_true rfl) (Nat.le_of_ble_eq_true rfl) dX9_init_68 ?_
  replace hf := zb1_s hf
  obtain ⟨m33, h34, hf⟩ := hf
  obtain rfl := Option.some.inj h34
  replace hf := zb1_s hf
  obtain ⟨m35, h36, hf⟩ := hf
  refine zr_putF h36 hin rfl zk9 (by decide) zl_234 rfl rfl rfl dX9_init_70 ?_
  refine zr_aload_n 0 dX9_init_73 rfl ?_
  refine zr_bipush 100 dX9_init_74 (by decide) ?_
  refine zr_newa (t := 0) (N := 100) (atype := .int) (by decide) rfl zl_3 (by decide) (by decide) (by decide) (Nat.le_of_ble_eq_true rfl) (Nat.le_of_ble_eq_true rfl) dX9_init_76 ?_
  replace hf := zb1_s hf
  obtain ⟨m37, h38, hf⟩ := hf
  obtain rfl := Option.some.inj h38
  replace hf := zb1_s hf
  obtain ⟨m39, h40, hf⟩ := hf
  refine zr_putF h40 hin rfl zk9 (by decide) zl_7 rfl rfl rfl dX9_init_78 ?_
  cases hf
  exact zr_vret dX9_init_81
theorem zl_235 : Cond.methodLink RX6 3 Lib.objectInit ∈ zt := zt_at 292 (by decide +kernel)
theorem zl_236 : Cond.fieldLink RX6 9 "TwoEchoes$Sight" "wasHeard" "[I" ∈ zt := zt_at 296 (by decide +kernel)
theorem zl_237 : Cond.fieldLink RX6 15 "TwoEchoes$Sight" "place" "[I" ∈ zt := zt_at 298 (by decide +kernel)
theorem zl_238 : Cond.fieldLink RX6 18 "TwoEchoes$Sight" "minute" "[I" ∈ zt := zt_at 300 (by decide +kernel)
theorem zl_239 : Cond.fieldLink RX6 21 "TwoEchoes$Sight" "word" "[I" ∈ zt := zt_at 302 (by decide +kernel)
theorem dX6_init_0 : decode cX6_init 0 = .ok (.aload_n 0, 1) := by decide +kernel
theorem dX6_init_1 : decode cX6_init 1 = .ok (.invokespecial 3, 3) := by decide +kernel
theorem dX6_init_4 : decode cX6_init 4 = .ok (.aload_n 0, 1) := by decide +kernel
theorem dX6_init_5 : decode cX6_init 5 = .ok (.bipush 8, 2) := by decide +kernel
theorem dX6_init_7 : decode cX6_init 7 = .ok (.newarray .int, 2) := by decide +kernel
theorem dX6_init_9 : decode cX6_init 9 = .ok (.putfield 9, 3) := by decide +kernel
theorem dX6_init_12 : decode cX6_init 12 = .ok (.aload_n 0, 1) := by decide +kernel
theorem dX6_init_13 : decode cX6_init 13 = .ok (.bipush 8, 2) := by decide +kernel
theorem dX6_init_15 : decode cX6_init 15 = .ok (.newarray .int, 2) := by decide +kernel
theorem dX6_init_17 : decode cX6_init 17 = .ok (.putfield 15, 3) := by decide +kernel
theorem dX6_init_20 : decode cX6_init 20 = .ok (.aload_n 0, 1) := by decide +kernel
theorem dX6_init_21 : decode cX6_init 21 = .ok (.bipush 8, 2) := by decide +kernel
theorem dX6_init_23 : decode cX6_init 23 = .ok (.newarray .int, 2) := by decide +kernel
theorem dX6_init_25 : decode cX6_init 25 = .ok (.putfield 18, 3) := by decide +kernel
theorem dX6_init_28 : decode cX6_init 28 = .ok (.aload_n 0, 1) := by decide +kernel
theorem dX6_init_29 : decode cX6_init 29 = .ok (.bipush 8, 2) := by decide +kernel
theorem dX6_init_31 : decode cX6_init 31 = .ok (.newarray .int, 2) := by decide +kernel
theorem dX6_init_33 : decode cX6_init 33 = .ok (.putfield 21, 3) := by decide +kernel
theorem dX6_init_36 : decode cX6_init 36 = .ok (.return_, 1) := by decide +kernel
noncomputable def fX6_init (μ : zM) (x0 : Nat) : Option (zM) :=
  zb1 (some (zm_nw μ (.inl (0, 8, .inl (fun _ => 0))))) fun m1 =>
  zb1 (zm_p m1 6 x0 1 (.ref μ.2.1)) fun m3 =>
  zb1 (some (zm_nw m3 (.inl (0, 8, .inl (fun _ => 0))))) fun m5 =>
  zb1 (zm_p m5 6 x0 2 (.ref m3.2.1)) fun m7 =>
  zb1 (some (zm_nw m7 (.inl (0, 8, .inl (fun _ => 0))))) fun m9 =>
  zb1 (zm_p m9 6 x0 3 (.ref m7.2.1)) fun m11 =>
  zb1 (some (zm_nw m11 (.inl (0, 8, .inl (fun _ => 0))))) fun m13 =>
  zb1 (zm_p m13 6 x0 4 (.ref m11.2.1)) fun m15 =>
  some m15
set_option maxHeartbeats 4000000 in
set_option maxRecDepth 100000 in
theorem cX6_init_ok {μ : zM} {x0 : Nat} {mo : zM} (hf : fX6_init μ x0 = some mo) : zC yX6_init cX6_init 1 (none) 1 4 32 [.ref x0] μ (none) mo := by
  unfold fX6_init at hf
  refine zC.of (by decide) (Nat.le_of_ble_eq_true rfl) (fun K hin => ?_)
  replace hin := hin rfl
  show zz K cX6_init (1, RX6, none, 1, 4, 32, none, mo) 0 0 0 [(0, .ref x0)] [] μ
  refine zr_aload_n 0 dX6_init_0 rfl ?_
  refine zr_objInit zl_235 zl_1 zl_2 (Nat.le_of_ble_eq_true rfl) (Nat.le_of_ble_eq_true rfl) dX6_init_1 ?_
  refine zr_aload_n 0 dX6_init_4 rfl ?_
  refine zr_bipush 8 dX6_init_5 (by decide) ?_
  refine zr_newa (t := 0) (N := 8) (atype := .int) (by decide) rfl zl_3 (by decide) (by decide) (by decide) (Nat.le_of_ble_eq_true rfl) (Nat.le_of_ble_eq_true rfl) dX6_init_7 ?_
  replace hf := zb1_s hf
  obtain ⟨m1, h2, hf⟩ := hf
  obtain rfl := Option.some.inj h2
  replace hf := zb1_s hf
  obtain ⟨m3, h4, hf⟩ := hf
  refine zr_putF h4 hin rfl zk6 (by decide) zl_236 rfl rfl rfl dX6_init_9 ?_
  refine zr_aload_n 0 dX6_init_12 rfl ?_
  refine zr_bipush 8 dX6_init_13 (by decide) ?_
  refine zr_newa (t := 0) (N := 8) (atype := .int) (by decide) rfl zl_3 (by decide) (by decide) (by decide) (Nat.le_of_ble_eq_true rfl) (Nat.le_of_ble_eq_true rfl) dX6_init_15 ?_
  replace hf := zb1_s hf
  obtain ⟨m5, h6, hf⟩ := hf
  obtain rfl := Option.some.inj h6
  replace hf := zb1_s hf
  obtain ⟨m7, h8, hf⟩ := hf
  refine zr_putF h8 hin rfl zk6 (by decide) zl_237 rfl rfl rfl dX6_init_17 ?_
  refine zr_aload_n 0 dX6_init_20 rfl ?_
  refine zr_bipush 8 dX6_init_21 (by decide) ?_
  refine zr_newa (t := 0) (N := 8) (atype := .int) (by decide) rfl zl_3 (by decide) (by decide) (by decide) (Nat.le_of_ble_eq_true rfl) (Nat.le_of_ble_eq_true rfl) dX6_init_23 ?_
  replace hf := zb1_s hf
  obtain ⟨m9, h10, hf⟩ := hf
  obtain rfl := Option.some.inj h10
  replace hf := zb1_s hf
  obtain ⟨m11, h12, hf⟩ := hf
  refine zr_putF h12 hin rfl zk6 (by decide) zl_238 rfl rfl rfl dX6_init_25 ?_
  refine zr_aload_n 0 dX6_init_28 rfl ?_
  refine zr_bipush 8 dX6_init_29 (by decide) ?_
  refine zr_newa (t := 0) (N := 8) (atype := .int) (by decide) rfl zl_3 (by decide) (by decide) (by decide) (Nat.le_of_ble_eq_true rfl) (Nat.le_of_ble_eq_true rfl) dX6_init_31 ?_
  replace hf := zb1_s hf
  obtain ⟨m13, h14, hf⟩ := hf
  obtain rfl := Option.some.inj h14
  replace hf := zb1_s hf
  obtain ⟨m15, h16, hf⟩ := hf
  refine zr_putF h16 hin rfl zk6 (by decide) zl_239 rfl rfl rfl dX6_init_33 ?_
  cases hf
  exact zr_vret dX6_init_36
theorem zl_240 : Cond.methodLink RX4 3 Lib.objectInit ∈ zt := zt_at 358 (by decide +kernel)
theorem zl_241 : Cond.classLink RX4 9 RX9 ∈ zt := zt_at 359 (by decide +kernel)
theorem zl_242 : Cond.instantiable RX9 13 ∈ zt := zt_at 166 (by decide +kernel)
theorem zl_243 : Cond.code yX9_init cX9_init 1 (none) ∈ zt := zt_at 169 (by decide +kernel)
theorem zvs_X9_init : zvS yX9_init cX9_init 1 (none) 0 := ⟨zl_243, zl_14, ⟨by decide +kernel, by decide +kernel, by decide +kernel⟩, by decide⟩
theorem zl_244 : Cond.methodLinkNest RX4 11 yX9_init "TwoEchoes" ∈ zn := zn_at 360 (by decide +kernel)
theorem zl_245 : Cond.instanceMethod yX9_init ∈ zt := zt_at 168 (by decide +kernel)
theorem zl_246 : Cond.fieldLink RX4 12 "TwoEchoes$Reader" "valley" "LTwoEchoes$Valley;" ∈ zt := zt_at 367 (by decide +kernel)
theorem zl_247 : Cond.classLink RX4 18 RX2 ∈ zt := zt_at 361 (by decide +kernel)
theorem zl_248 : Cond.instantiable RX2 4 ∈ zt := zt_at 240 (by decide +kernel)
theorem zl_249 : Cond.initialized RX2 ∈ zt := zt_at 132 (by decide +kernel)
theorem zl_250 : Cond.code yX2_init cX2_init 1 (none) ∈ zt := zt_at 243 (by decide +kernel)
theorem zvs_X2_init : zvS yX2_init cX2_init 1 (none) 0 := ⟨zl_250, zl_249, ⟨by decide +kernel, by decide +kernel, by decide +kernel⟩, by decide⟩
theorem zl_251 : Cond.methodLinkNest RX4 20 yX2_init "TwoEchoes" ∈ zn := zn_at 362 (by decide +kernel)
theorem zl_252 : Cond.instanceMethod yX2_init ∈ zt := zt_at 242 (by decide +kernel)
theorem zl_253 : Cond.fieldLink RX4 21 "TwoEchoes$Reader" "day" "LTwoEchoes$Day;" ∈ zt := zt_at 369 (by decide +kernel)
theorem zl_254 : Cond.classLink RX4 25 RX3 ∈ zt := zt_at 363 (by decide +kernel)
theorem zl_255 : Cond.instantiable RX3 4 ∈ zt := zt_at 266 (by decide +kernel)
theorem zl_256 : Cond.code yX3_init cX3_init 1 (none) ∈ zt := zt_at 269 (by decide +kernel)
theorem zvs_X3_init : zvS yX3_init cX3_init 1 (none) 0 := ⟨zl_256, zl_207, ⟨by decide +kernel, by decide +kernel, by decide +kernel⟩, by decide⟩
theorem zl_257 : Cond.methodLinkNest RX4 27 yX3_init "TwoEchoes" ∈ zn := zn_at 364 (by decide +kernel)
theorem zl_258 : Cond.instanceMethod yX3_init ∈ zt := zt_at 268 (by decide +kernel)
theorem zl_259 : Cond.fieldLink RX4 28 "TwoEchoes$Reader" "lesson" "LTwoEchoes$Lesson;" ∈ zt := zt_at 371 (by decide +kernel)
theorem zl_260 : Cond.classLink RX4 32 RX6 ∈ zt := zt_at 365 (by decide +kernel)
theorem zl_261 : Cond.instantiable RX6 5 ∈ zt := zt_at 288 (by decide +kernel)
theorem zl_262 : Cond.initialized RX6 ∈ zt := zt_at 134 (by decide +kernel)
theorem zl_263 : Cond.code yX6_init cX6_init 1 (none) ∈ zt := zt_at 291 (by decide +kernel)
theorem zvs_X6_init : zvS yX6_init cX6_init 1 (none) 0 := ⟨zl_263, zl_262, ⟨by decide +kernel, by decide +kernel, by decide +kernel⟩, by decide⟩
theorem zl_264 : Cond.methodLinkNest RX4 34 yX6_init "TwoEchoes" ∈ zn := zn_at 366 (by decide +kernel)
theorem zl_265 : Cond.instanceMethod yX6_init ∈ zt := zt_at 290 (by decide +kernel)
theorem zl_266 : Cond.fieldLink RX4 35 "TwoEchoes$Reader" "sight" "LTwoEchoes$Sight;" ∈ zt := zt_at 373 (by decide +kernel)
theorem zl_267 : Cond.fieldLink RX4 39 "TwoEchoes$Reader" "fault" "I" ∈ zt := zt_at 375 (by decide +kernel)
theorem zl_268 : Cond.fieldLink RX4 43 "TwoEchoes$Reader" "faultPlace" "I" ∈ zt := zt_at 377 (by decide +kernel)
theorem zl_269 : Cond.fieldLink RX4 46 "TwoEchoes$Reader" "length" "I" ∈ zt := zt_at 380 (by decide +kernel)
theorem zl_270 : Cond.fieldLink RX4 49 "TwoEchoes$Reader" "token" "I" ∈ zt := zt_at 381 (by decide +kernel)
theorem zl_271 : Cond.fieldLink RX4 52 "TwoEchoes$Reader" "start" "I" ∈ zt := zt_at 382 (by decide +kernel)
theorem zl_272 : Cond.fieldLink RX4 55 "TwoEchoes$Reader" "behind" "I" ∈ zt := zt_at 383 (by decide +kernel)
theorem zl_273 : Cond.fieldLink RX4 58 "TwoEchoes$Reader" "numbers" "[I" ∈ zt := zt_at 384 (by decide +kernel)
theorem zl_274 : Cond.fieldLink RX4 62 "TwoEchoes$Reader" "places" "[I" ∈ zt := zt_at 385 (by decide +kernel)
theorem zl_275 : Cond.fieldLink RX4 65 "TwoEchoes$Reader" "tape" "[B" ∈ zt := zt_at 379 (by decide +kernel)
theorem dX4_init_0 : decode cX4_init 0 = .ok (.aload_n 0, 1) := by decide +kernel
theorem dX4_init_1 : decode cX4_init 1 = .ok (.invokespecial 3, 3) := by decide +kernel
theorem dX4_init_4 : decode cX4_init 4 = .ok (.aload_n 0, 1) := by decide +kernel
theorem dX4_init_5 : decode cX4_init 5 = .ok (.new 9, 3) := by decide +kernel
theorem dX4_init_8 : decode cX4_init 8 = .ok (.dup, 1) := by decide +kernel
theorem dX4_init_9 : decode cX4_init 9 = .ok (.invokespecial 11, 3) := by decide +kernel
theorem dX4_init_12 : decode cX4_init 12 = .ok (.putfield 12, 3) := by decide +kernel
theorem dX4_init_15 : decode cX4_init 15 = .ok (.aload_n 0, 1) := by decide +kernel
theorem dX4_init_16 : decode cX4_init 16 = .ok (.new 18, 3) := by decide +kernel
theorem dX4_init_19 : decode cX4_init 19 = .ok (.dup, 1) := by decide +kernel
theorem dX4_init_20 : decode cX4_init 20 = .ok (.invokespecial 20, 3) := by decide +kernel
theorem dX4_init_23 : decode cX4_init 23 = .ok (.putfield 21, 3) := by decide +kernel
theorem dX4_init_26 : decode cX4_init 26 = .ok (.aload_n 0, 1) := by decide +kernel
theorem dX4_init_27 : decode cX4_init 27 = .ok (.new 25, 3) := by decide +kernel
theorem dX4_init_30 : decode cX4_init 30 = .ok (.dup, 1) := by decide +kernel
theorem dX4_init_31 : decode cX4_init 31 = .ok (.invokespecial 27, 3) := by decide +kernel
theorem dX4_init_34 : decode cX4_init 34 = .ok (.putfield 28, 3) := by decide +kernel
theorem dX4_init_37 : decode cX4_init 37 = .ok (.aload_n 0, 1) := by decide +kernel
theorem dX4_init_38 : decode cX4_init 38 = .ok (.new 32, 3) := by decide +kernel
theorem dX4_init_41 : decode cX4_init 41 = .ok (.dup, 1) := by decide +kernel
theorem dX4_init_42 : decode cX4_init 42 = .ok (.invokespecial 34, 3) := by decide +kernel
theorem dX4_init_45 : decode cX4_init 45 = .ok (.putfield 35, 3) := by decide +kernel
theorem dX4_init_48 : decode cX4_init 48 = .ok (.aload_n 0, 1) := by decide +kernel
theorem dX4_init_49 : decode cX4_init 49 = .ok (.iconst 0, 1) := by decide +kernel
theorem dX4_init_50 : decode cX4_init 50 = .ok (.putfield 39, 3) := by decide +kernel
theorem dX4_init_53 : decode cX4_init 53 = .ok (.aload_n 0, 1) := by decide +kernel
theorem dX4_init_54 : decode cX4_init 54 = .ok (.iconst (-1), 1) := by decide +kernel
theorem dX4_init_55 : decode cX4_init 55 = .ok (.putfield 43, 3) := by decide +kernel
theorem dX4_init_58 : decode cX4_init 58 = .ok (.aload_n 0, 1) := by decide +kernel
theorem dX4_init_59 : decode cX4_init 59 = .ok (.iconst 0, 1) := by decide +kernel
theorem dX4_init_60 : decode cX4_init 60 = .ok (.putfield 46, 3) := by decide +kernel
theorem dX4_init_63 : decode cX4_init 63 = .ok (.aload_n 0, 1) := by decide +kernel
theorem dX4_init_64 : decode cX4_init 64 = .ok (.iconst 0, 1) := by decide +kernel
theorem dX4_init_65 : decode cX4_init 65 = .ok (.putfield 49, 3) := by decide +kernel
theorem dX4_init_68 : decode cX4_init 68 = .ok (.aload_n 0, 1) := by decide +kernel
theorem dX4_init_69 : decode cX4_init 69 = .ok (.iconst 0, 1) := by decide +kernel
theorem dX4_init_70 : decode cX4_init 70 = .ok (.putfield 52, 3) := by decide +kernel
theorem dX4_init_73 : decode cX4_init 73 = .ok (.aload_n 0, 1) := by decide +kernel
theorem dX4_init_74 : decode cX4_init 74 = .ok (.iconst 0, 1) := by decide +kernel
theorem dX4_init_75 : decode cX4_init 75 = .ok (.putfield 55, 3) := by decide +kernel
theorem dX4_init_78 : decode cX4_init 78 = .ok (.aload_n 0, 1) := by decide +kernel
theorem dX4_init_79 : decode cX4_init 79 = .ok (.iconst 3, 1) := by decide +kernel
theorem dX4_init_80 : decode cX4_init 80 = .ok (.newarray .int, 2) := by decide +kernel
theorem dX4_init_82 : decode cX4_init 82 = .ok (.putfield 58, 3) := by decide +kernel
theorem dX4_init_85 : decode cX4_init 85 = .ok (.aload_n 0, 1) := by decide +kernel
theorem dX4_init_86 : decode cX4_init 86 = .ok (.iconst 3, 1) := by decide +kernel
theorem dX4_init_87 : decode cX4_init 87 = .ok (.newarray .int, 2) := by decide +kernel
theorem dX4_init_89 : decode cX4_init 89 = .ok (.putfield 62, 3) := by decide +kernel
theorem dX4_init_92 : decode cX4_init 92 = .ok (.aload_n 0, 1) := by decide +kernel
theorem dX4_init_93 : decode cX4_init 93 = .ok (.aload_n 1, 1) := by decide +kernel
theorem dX4_init_94 : decode cX4_init 94 = .ok (.putfield 65, 3) := by decide +kernel
theorem dX4_init_97 : decode cX4_init 97 = .ok (.return_, 1) := by decide +kernel
noncomputable def fX4_init (μ : zM) (x0 : Nat) (x1 : Nat) : Option (zM) :=
  zb1 (some (zm_nw μ (.inr (9, [.int 0, .null, .null, .null, .int 0, .null, .null, .null, .int 0, .null, .null, .null, .null])))) fun m1 =>
  zb1 (fX9_init m1 μ.2.1) fun m4 =>
  zb1 (zm_p m4 4 x0 0 (.ref μ.2.1)) fun m5 =>
  zb1 (some (zm_nw m5 (.inr (2, [.int 0, .null, .null, .null])))) fun m7 =>
  zb1 (fX2_init m7 m5.2.1) fun m10 =>
  zb1 (zm_p m10 4 x0 1 (.ref m5.2.1)) fun m11 =>
  zb1 (some (zm_nw m11 (.inr (3, [.int 0, .int 0, .null, .null])))) fun m13 =>
  zb1 (fX3_init m13 m11.2.1) fun m16 =>
  zb1 (zm_p m16 4 x0 2 (.ref m11.2.1)) fun m17 =>
  zb1 (some (zm_nw m17 (.inr (6, [.int 0, .null, .null, .null, .null])))) fun m19 =>
  zb1 (fX6_init m19 m17.2.1) fun m22 =>
  zb1 (zm_p m22 4 x0 3 (.ref m17.2.1)) fun m23 =>
  zb1 (zm_p m23 4 x0 4 (.int 0)) fun m25 =>
  zb1 (zm_p m25 4 x0 5 (.int (-1))) fun m27 =>
  zb1 (zm_p m27 4 x0 7 (.int 0)) fun m29 =>
  zb1 (zm_p m29 4 x0 8 (.int 0)) fun m31 =>
  zb1 (zm_p m31 4 x0 9 (.int 0)) fun m33 =>
  zb1 (zm_p m33 4 x0 10 (.int 0)) fun m35 =>
  zb1 (some (zm_nw m35 (.inl (0, 3, .inl (fun _ => 0))))) fun m37 =>
  zb1 (zm_p m37 4 x0 11 (.ref m35.2.1)) fun m39 =>
  zb1 (some (zm_nw m39 (.inl (0, 3, .inl (fun _ => 0))))) fun m41 =>
  zb1 (zm_p m41 4 x0 12 (.ref m39.2.1)) fun m43 =>
  zb1 (zm_p m43 4 x0 6 (.ref x1)) fun m45 =>
  some m45
set_option maxHeartbeats 4000000 in
set_option maxRecDepth 100000 in
theorem cX4_init_ok {μ : zM} {x0 : Nat} {x1 : Nat} {mo : zM} (hf : fX4_init μ x0 x1 = some mo) : zC yX4_init cX4_init 2 (none) 2 25 358 [.ref x0, .ref x1] μ (none) mo := by
  unfold fX4_init at hf
  refine zC.of (by decide) (Nat.le_of_ble_eq_true rfl) (fun K hin => ?_)
  replace hin := hin rfl
  show zz K cX4_init (2, RX4, none, 2, 25, 358, none, mo) 0 0 0 [(0, .ref x0), (1, .ref x1)] [] μ
  refine zr_aload_n 0 dX4_init_0 rfl ?_
  refine zr_objInit zl_240 zl_1 zl_2 (Nat.le_of_ble_eq_true rfl) (Nat.le_of_ble_eq_true rfl) dX4_init_1 ?_
  refine zr_aload_n 0 dX4_init_4 rfl ?_
  refine zr_new [.int 0, .null, .null, .null, .int 0, .null, .null, .null, .int 0, .null, .null, .null, .null] zk9 zl_241 zl_242 zl_14 (by decide +kernel) (Nat.le_of_ble_eq_true rfl) (Nat.le_of_ble_eq_true rfl) dX4_init_5 ?_
  replace hf := zb1_s hf
  obtain ⟨m1, h2, hf⟩ := hf
  obtain rfl := Option.some.inj h2
  refine zr_dup dX4_init_8 rfl ?_
  replace hf := zb1_s hf
  obtain ⟨m4, h3, hf⟩ := hf
  refine zr_callIN [] (cX9_init_ok h3) zvs_X9_init zl_245 rfl zl_244 rfl (Nat.le_of_ble_eq_true rfl) (Nat.le_of_ble_eq_true rfl) (Nat.le_of_ble_eq_true rfl) (Nat.le_of_ble_eq_true rfl) dX4_init_9 rfl ?_
  replace hf := zb1_s hf
  obtain ⟨m5, h6, hf⟩ := hf
  refine zr_putF h6 hin rfl zk4 (by decide) zl_246 rfl rfl rfl dX4_init_12 ?_
  refine zr_aload_n 0 dX4_init_15 rfl ?_
  refine zr_new [.int 0, .null, .null, .null] zk2 zl_247 zl_248 zl_249 (by decide +kernel) (Nat.le_of_ble_eq_true rfl) (Nat.le_of_ble_eq_true rfl) dX4_init_16 ?_
  replace hf := zb1_s hf
  obtain ⟨m7, h8, hf⟩ := hf
  obtain rfl := Option.some.inj h8
  refine zr_dup dX4_init_19 rfl ?_
  replace hf := zb1_s hf
  obtain ⟨m10, h9, hf⟩ := hf
  refine zr_callIN [] (cX2_init_ok h9) zvs_X2_init zl_252 rfl zl_251 rfl (Nat.le_of_ble_eq_true rfl) (Nat.le_of_ble_eq_true rfl) (Nat.le_of_ble_eq_true rfl) (Nat.le_of_ble_eq_true rfl) dX4_init_20 rfl ?_
  replace hf := zb1_s hf
  obtain ⟨m11, h12, hf⟩ := hf
  refine zr_putF h12 hin rfl zk4 (by decide) zl_253 rfl rfl rfl dX4_init_23 ?_
  refine zr_aload_n 0 dX4_init_26 rfl ?_
  refine zr_new [.int 0, .int 0, .null, .null] zk3 zl_254 zl_255 zl_207 (by decide +kernel) (Nat.le_of_ble_eq_true rfl) (Nat.le_of_ble_eq_true rfl) dX4_init_27 ?_
  replace hf := zb1_s hf
  obtain ⟨m13, h14, hf⟩ := hf
  obtain rfl := Option.some.inj h14
  refine zr_dup dX4_init_30 rfl ?_
  replace hf := zb1_s hf
  obtain ⟨m16, h15, hf⟩ := hf
  refine zr_callIN [] (cX3_init_ok h15) zvs_X3_init zl_258 rfl zl_257 rfl (Nat.le_of_ble_eq_true rfl) (Nat.le_of_ble_eq_true rfl) (Nat.le_of_ble_eq_true rfl) (Nat.le_of_ble_eq_true rfl) dX4_init_31 rfl ?_
  replace hf := zb1_s hf
  obtain ⟨m17, h18, hf⟩ := hf
  refine zr_putF h18 hin rfl zk4 (by decide) zl_259 rfl rfl rfl dX4_init_34 ?_
  refine zr_aload_n 0 dX4_init_37 rfl ?_
  refine zr_new [.int 0, .null, .null, .null, .null] zk6 zl_260 zl_261 zl_262 (by decide +kernel) (Nat.le_of_ble_eq_true rfl) (Nat.le_of_ble_eq_true rfl) dX4_init_38 ?_
  replace hf := zb1_s hf
  obtain ⟨m19, h20, hf⟩ := hf
  obtain rfl := Option.some.inj h20
  refine zr_dup dX4_init_41 rfl ?_
  replace hf := zb1_s hf
  obtain ⟨m22, h21, hf⟩ := hf
  refine zr_callIN [] (cX6_init_ok h21) zvs_X6_init zl_265 rfl zl_264 rfl (Nat.le_of_ble_eq_true rfl) (Nat.le_of_ble_eq_true rfl) (Nat.le_of_ble_eq_true rfl) (Nat.le_of_ble_eq_true rfl) dX4_init_42 rfl ?_
  replace hf := zb1_s hf
  obtain ⟨m23, h24, hf⟩ := hf
  refine zr_putF h24 hin rfl zk4 (by decide) zl_266 rfl rfl rfl dX4_init_45 ?_
  refine zr_aload_n 0 dX4_init_48 rfl ?_
  refine zr_iconst 0 dX4_init_49 (by decide) ?_
  replace hf := zb1_s hf
  obtain ⟨m25, h26, hf⟩ := hf
  refine zr_put h26 zk4 (by decide) zl_267 rfl rfl rfl dX4_init_50 ?_
  refine zr_aload_n 0 dX4_init_53 rfl ?_
  refine zr_iconst (-1) dX4_init_54 (by decide) ?_
  replace hf := zb1_s hf
  obtain ⟨m27, h28, hf⟩ := hf
  refine zr_put h28 zk4 (by decide) zl_268 rfl rfl rfl dX4_init_55 ?_
  refine zr_aload_n 0 dX4_init_58 rfl ?_
  refine zr_iconst 0 dX4_init_59 (by decide) ?_
  replace hf := zb1_s hf
  obtain ⟨m29, h30, hf⟩ := hf
  refine zr_put h30 zk4 (by decide) zl_269 rfl rfl rfl dX4_init_60 ?_
  refine zr_aload_n 0 dX4_init_63 rfl ?_
  refine zr_iconst 0 dX4_init_64 (by decide) ?_
  replace hf := zb1_s hf
  obtain ⟨m31, h32, hf⟩ := hf
  refine zr_put h32 zk4 (by decide) zl_270 rfl rfl rfl dX4_init_65 ?_
  refine zr_aload_n 0 dX4_init_68 rfl ?_
  refine zr_iconst 0 dX4_init_69 (by decide) ?_
  replace hf := zb1_s hf
  obtain ⟨m33, h34, hf⟩ := hf
  refine zr_put h34 zk4 (by decide) zl_271 rfl rfl rfl dX4_init_70 ?_
  refine zr_aload_n 0 dX4_init_73 rfl ?_
  refine zr_iconst 0 dX4_init_74 (by decide) ?_
  replace hf := zb1_s hf
  obtain ⟨m35, h36, hf⟩ := hf
  refine zr_put h36 zk4 (by decide) zl_272 rfl rfl rfl dX4_init_75 ?_
  refine zr_aload_n 0 dX4_init_78 rfl ?_
  refine zr_iconst 3 dX4_init_79 (by decide) ?_
  refine zr_newa (t := 0) (N := 3) (atype := .int) (by decide) rfl zl_3 (by decide) (by decide) (by decide) (Nat.le_of_ble_eq_true rfl) (Nat.le_of_ble_eq_true rfl) dX4_init_80 ?_
  replace hf := zb1_s hf
  obtain ⟨m37, h38, hf⟩ := hf
  obtain rfl := Option.some.inj h38
  replace hf := zb1_s hf
  obtain ⟨m39, h40, hf⟩ := hf
  refine zr_putF h40 hin rfl zk4 (by decide) zl_273 rfl rfl rfl dX4_init_82 ?_
  refine zr_aload_n 0 dX4_init_85 rfl ?_
  refine zr_iconst 3 dX4_init_86 (by decide) ?_
  refine zr_newa (t := 0) (N := 3) (atype := .int) (by decide) rfl zl_3 (by decide) (by decide) (by decide) (Nat.le_of_ble_eq_true rfl) (Nat.le_of_ble_eq_true rfl) dX4_init_87 ?_
  replace hf := zb1_s hf
  obtain ⟨m41, h42, hf⟩ := hf
  obtain rfl := Option.some.inj h42
  replace hf := zb1_s hf
  obtain ⟨m43, h44, hf⟩ := hf
  refine zr_putF h44 hin rfl zk4 (by decide) zl_274 rfl rfl rfl dX4_init_89 ?_
  refine zr_aload_n 0 dX4_init_92 rfl ?_
  refine zr_aload_n 1 dX4_init_93 rfl ?_
  replace hf := zb1_s hf
  obtain ⟨m45, h46, hf⟩ := hf
  refine zr_putF h46 hin rfl zk4 (by decide) zl_275 rfl rfl rfl dX4_init_94 ?_
  cases hf
  exact zr_vret dX4_init_97
theorem zl_276 : Cond.fieldLink RX9 49 "TwoEchoes$Valley" "skies" "I" ∈ zt := zt_at 202 (by decide +kernel)
theorem zl_277 : Cond.methodLink RX9 52 yJ7_fill_53178 ∈ zt := zt_at 542 (by decide +kernel)
theorem dX9_clear_0 : decode cX9_clear 0 = .ok (.aload_n 0, 1) := by decide +kernel
theorem dX9_clear_1 : decode cX9_clear 1 = .ok (.bipush 12, 2) := by decide +kernel
theorem dX9_clear_3 : decode cX9_clear 3 = .ok (.putfield 42, 3) := by decide +kernel
theorem dX9_clear_6 : decode cX9_clear 6 = .ok (.iconst 0, 1) := by decide +kernel
theorem dX9_clear_7 : decode cX9_clear 7 = .ok (.istore_n 1, 1) := by decide +kernel
theorem dX9_clear_8 : decode cX9_clear 8 = .ok (.iload_n 1, 1) := by decide +kernel
theorem dX9_clear_9 : decode cX9_clear 9 = .ok (.bipush 8, 2) := by decide +kernel
theorem dX9_clear_11 : decode cX9_clear 11 = .ok (.if_icmp .ge 30, 3) := by decide +kernel
theorem dX9_clear_14 : decode cX9_clear 14 = .ok (.aload_n 0, 1) := by decide +kernel
theorem dX9_clear_15 : decode cX9_clear 15 = .ok (.getfield 9, 3) := by decide +kernel
theorem dX9_clear_18 : decode cX9_clear 18 = .ok (.iload_n 1, 1) := by decide +kernel
theorem dX9_clear_19 : decode cX9_clear 19 = .ok (.iload_n 1, 1) := by decide +kernel
theorem dX9_clear_20 : decode cX9_clear 20 = .ok (.iastore, 1) := by decide +kernel
theorem dX9_clear_21 : decode cX9_clear 21 = .ok (.aload_n 0, 1) := by decide +kernel
theorem dX9_clear_22 : decode cX9_clear 22 = .ok (.getfield 15, 3) := by decide +kernel
theorem dX9_clear_25 : decode cX9_clear 25 = .ok (.iload_n 1, 1) := by decide +kernel
theorem dX9_clear_26 : decode cX9_clear 26 = .ok (.iconst 0, 1) := by decide +kernel
theorem dX9_clear_27 : decode cX9_clear 27 = .ok (.iastore, 1) := by decide +kernel
theorem dX9_clear_28 : decode cX9_clear 28 = .ok (.aload_n 0, 1) := by decide +kernel
theorem dX9_clear_29 : decode cX9_clear 29 = .ok (.getfield 18, 3) := by decide +kernel
theorem dX9_clear_32 : decode cX9_clear 32 = .ok (.iload_n 1, 1) := by decide +kernel
theorem dX9_clear_33 : decode cX9_clear 33 = .ok (.iconst 1, 1) := by decide +kernel
theorem dX9_clear_34 : decode cX9_clear 34 = .ok (.iastore, 1) := by decide +kernel
theorem dX9_clear_35 : decode cX9_clear 35 = .ok (.iinc 1 1, 3) := by decide +kernel
theorem dX9_clear_38 : decode cX9_clear 38 = .ok (.goto (-30), 3) := by decide +kernel
theorem dX9_clear_41 : decode cX9_clear 41 = .ok (.aload_n 0, 1) := by decide +kernel
theorem dX9_clear_42 : decode cX9_clear 42 = .ok (.iconst 0, 1) := by decide +kernel
theorem dX9_clear_43 : decode cX9_clear 43 = .ok (.putfield 46, 3) := by decide +kernel
theorem dX9_clear_46 : decode cX9_clear 46 = .ok (.aload_n 0, 1) := by decide +kernel
theorem dX9_clear_47 : decode cX9_clear 47 = .ok (.iconst 0, 1) := by decide +kernel
theorem dX9_clear_48 : decode cX9_clear 48 = .ok (.putfield 49, 3) := by decide +kernel
theorem dX9_clear_51 : decode cX9_clear 51 = .ok (.aload_n 0, 1) := by decide +kernel
theorem dX9_clear_52 : decode cX9_clear 52 = .ok (.getfield 39, 3) := by decide +kernel
theorem dX9_clear_55 : decode cX9_clear 55 = .ok (.iconst 0, 1) := by decide +kernel
theorem dX9_clear_56 : decode cX9_clear 56 = .ok (.invokestatic 52, 3) := by decide +kernel
theorem dX9_clear_59 : decode cX9_clear 59 = .ok (.return_, 1) := by decide +kernel
noncomputable def fX9_clear_l8 (x0 : Nat) (F5 : Int32 → zM → Option (zM)) (x1_3 : Int32) (m4 : zM) : Option (zM) :=
  if 8 ≤ x1_3 then (
  some m4)
  else (
  zb1 (zm_gR m4 9 x0 1) fun v9 =>
  zb1 (zm_sI m4 0 v9 x1_3 x1_3) fun m11 =>
  zb1 (zm_gR m11 9 x0 2) fun v13 =>
  zb1 (zm_sI m11 0 v13 x1_3 0) fun m15 =>
  zb1 (zm_gR m15 9 x0 3) fun v17 =>
  zb1 (zm_sI m15 0 v17 x1_3 1) fun m19 =>
  F5 (x1_3 + 1) m19)
noncomputable def fX9_clear (μ : zM) (x0 : Nat) : Option (zM) := zgd (zm_ck μ 9 x0) <|
  zb1 (zm_p μ 9 x0 0 (.int 12)) fun m1 =>
  zb1 (zf2 (fX9_clear_l8 x0) zfu 0 m1 : Option (zM)) fun (m7 : zM) =>
  zb1 (zm_p m7 9 x0 4 (.int 0)) fun m22 =>
  zb1 (zm_p m22 9 x0 8 (.int 0)) fun m24 =>
  zb1 (zm_gR m24 9 x0 12) fun v26 =>
  zb1 (fJ7_fill_53178 m24 v26 0) fun m29 =>
  some m29
theorem fX9_clear_ck {μ : zM} {x0 : Nat} {z : zM} (h : fX9_clear μ x0 = some z) : zm_ck μ 9 x0 = true := (zgd_s h).1
set_option maxHeartbeats 4000000 in
set_option maxRecDepth 100000 in
theorem cX9_clear_ok {μ : zM} {x0 : Nat} {mo : zM} (hf : fX9_clear μ x0 = some mo) : zC yX9_clear cX9_clear 2 (none) 1 0 0 [.ref x0] μ (none) mo := by
  replace hf := (zgd_s hf).2
  refine zC.of (by decide) (Nat.le_of_ble_eq_true rfl) (fun K hin => ?_)
  clear hin
  show zz K cX9_clear (2, RX9, none, 1, 0, 0, none, mo) 0 0 0 [(0, .ref x0)] [] μ
  refine zr_aload_n 0 dX9_clear_0 rfl ?_
  refine zr_bipush 12 dX9_clear_1 (by decide) ?_
  replace hf := zb1_s hf
  obtain ⟨m1, h2, hf⟩ := hf
  refine zr_put h2 zk9 (by decide) zl_8 rfl rfl rfl dX9_clear_3 ?_
  refine zr_iconst 0 dX9_clear_6 (by decide) ?_
  refine zr_istore_n [(1, .int 0), (0, .ref x0)] dX9_clear_7 (Nat.le_of_ble_eq_true rfl) rfl ?_
  replace hf := zb1_s hf
  obtain ⟨m7, hg, hf⟩ := hf
  have hj8 : zz K cX9_clear (2, RX9, none, 1, 0, 0, none, mo) 0 0 41 [(0, .ref x0)] [] m7 := by
    refine zr_aload_n 0 dX9_clear_41 rfl ?_
    refine zr_iconst 0 dX9_clear_42 (by decide) ?_
    replace hf := zb1_s hf
    obtain ⟨m22, h23, hf⟩ := hf
    refine zr_put h23 zk9 (by decide) zl_103 rfl rfl rfl dX9_clear_43 ?_
    refine zr_aload_n 0 dX9_clear_46 rfl ?_
    refine zr_iconst 0 dX9_clear_47 (by decide) ?_
    replace hf := zb1_s hf
    obtain ⟨m24, h25, hf⟩ := hf
    refine zr_put h25 zk9 (by decide) zl_276 rfl rfl rfl dX9_clear_48 ?_
    refine zr_aload_n 0 dX9_clear_51 rfl ?_
    replace hf := zb1_s hf
    obtain ⟨v26, h27, hf⟩ := hf
    refine zr_get (zm_gR_g h27) zk9 (by decide) zl_7 dX9_clear_52 ?_
    refine zr_iconst 0 dX9_clear_55 (by decide) ?_
    replace hf := zb1_s hf
    obtain ⟨m29, h28, hf⟩ := hf
    refine zr_callS [.ref v26, .int 0] (cJ7_fill_53178_ok h28) zvs_J7_fill_53178 zl_49 zl_277 rfl (Nat.le_of_ble_eq_true rfl) (Nat.le_of_ble_eq_true rfl) (Nat.le_of_ble_eq_true rfl) (Nat.le_of_ble_eq_true rfl) dX9_clear_56 rfl ?_
    cases hf
    exact zr_vret dX9_clear_59
  clear hf
  have hf := hg
  clear hg
  have hL21 : ∀ (n : Nat) (x1_3 : Int32) (m4 : zM), zf2 (fX9_clear_l8 x0) n x1_3 m4 = some m7 → zz K cX9_clear (2, RX9, none, 1, 0, 0, none, mo) 0 0 8 [(0, .ref x0), (1, .int x1_3)] [] m4 := by
    intro n
    induction n with
    | zero => intro x1_3 m4 hf; cases hf
    | succ n ih6 =>
      intro x1_3 m4 hf
      replace hf := zf2_s hf
      generalize zf2 (fX9_clear_l8 x0) n = F5 at hf ih6
      unfold fX9_clear_l8 at hf
      refine zr_iload_n 1 dX9_clear_8 rfl ?_
      refine zr_bipush 8 dX9_clear_9 (by decide) ?_
      refine zr_icmp_ge 41 dX9_clear_11 (by decide) (fun hc => ?_) (fun hc => ?_)
      · rw [if_pos hc] at hf
        cases hf
        exact zr_lv [0] rfl hj8
      · rw [if_neg hc] at hf
        refine zr_aload_n 0 dX9_clear_14 rfl ?_
        replace hf := zb1_s hf
        obtain ⟨v9, h10, hf⟩ := hf
        refine zr_get (zm_gR_g h10) zk9 (by decide) zl_116 dX9_clear_15 ?_
        refine zr_iload_n 1 dX9_clear_18 rfl ?_
        refine zr_iload_n 1 dX9_clear_19 rfl ?_
        replace hf := zb1_s hf
        obtain ⟨m11, h12, hf⟩ := hf
        refine zr_iast h12 dX9_clear_20 ?_
        refine zr_aload_n 0 dX9_clear_21 rfl ?_
        replace hf := zb1_s hf
        obtain ⟨v13, h14, hf⟩ := hf
        refine zr_get (zm_gR_g h14) zk9 (by decide) zl_115 dX9_clear_22 ?_
        refine zr_iload_n 1 dX9_clear_25 rfl ?_
        refine zr_iconst 0 dX9_clear_26 (by decide) ?_
        replace hf := zb1_s hf
        obtain ⟨m15, h16, hf⟩ := hf
        refine zr_iast h16 dX9_clear_27 ?_
        refine zr_aload_n 0 dX9_clear_28 rfl ?_
        replace hf := zb1_s hf
        obtain ⟨v17, h18, hf⟩ := hf
        refine zr_get (zm_gR_g h18) zk9 (by decide) zl_228 dX9_clear_29 ?_
        refine zr_iload_n 1 dX9_clear_32 rfl ?_
        refine zr_iconst 1 dX9_clear_33 (by decide) ?_
        replace hf := zb1_s hf
        obtain ⟨m19, h20, hf⟩ := hf
        refine zr_iast h20 dX9_clear_34 ?_
        refine zr_iinc (j := 1) (x1_3 + 1) [(1, .int (x1_3 + 1)), (0, .ref x0)] dX9_clear_35 rfl rfl (Nat.le_of_ble_eq_true rfl) rfl ?_
        refine zr_goto 8 dX9_clear_38 (by decide) ?_
        exact zr_lv [1, 0] rfl (ih6 (x1_3 + 1) m19 hf)
  exact zr_lv [1, 0] rfl (hL21 _ 0 m1 hf)
theorem zl_278 : Cond.fieldLink RX6 24 "TwoEchoes$Sight" "facts" "I" ∈ zt := zt_at 293 (by decide +kernel)
theorem dX6_clear_0 : decode cX6_clear 0 = .ok (.aload_n 0, 1) := by decide +kernel
theorem dX6_clear_1 : decode cX6_clear 1 = .ok (.iconst 0, 1) := by decide +kernel
theorem dX6_clear_2 : decode cX6_clear 2 = .ok (.putfield 24, 3) := by decide +kernel
theorem dX6_clear_5 : decode cX6_clear 5 = .ok (.return_, 1) := by decide +kernel
noncomputable def fX6_clear (μ : zM) (x0 : Nat) : Option (zM) := zgd (zm_ck μ 6 x0) <|
  zb1 (zm_p μ 6 x0 0 (.int 0)) fun m1 =>
  some m1
theorem fX6_clear_ck {μ : zM} {x0 : Nat} {z : zM} (h : fX6_clear μ x0 = some z) : zm_ck μ 6 x0 = true := (zgd_s h).1
set_option maxHeartbeats 4000000 in
set_option maxRecDepth 100000 in
theorem cX6_clear_ok {μ : zM} {x0 : Nat} {mo : zM} (hf : fX6_clear μ x0 = some mo) : zC yX6_clear cX6_clear 1 (none) 0 0 0 [.ref x0] μ (none) mo := by
  replace hf := (zgd_s hf).2
  refine zC.of (by decide) (Nat.le_of_ble_eq_true rfl) (fun K hin => ?_)
  clear hin
  show zz K cX6_clear (1, RX6, none, 0, 0, 0, none, mo) 0 0 0 [(0, .ref x0)] [] μ
  refine zr_aload_n 0 dX6_clear_0 rfl ?_
  refine zr_iconst 0 dX6_clear_1 (by decide) ?_
  replace hf := zb1_s hf
  obtain ⟨m1, h2, hf⟩ := hf
  refine zr_put h2 zk6 (by decide) zl_278 rfl rfl rfl dX6_clear_2 ?_
  cases hf
  exact zr_vret dX6_clear_5
theorem zl_279 : Cond.code yX9_clear cX9_clear 2 (none) ∈ zt := zt_at 541 (by decide +kernel)
theorem zvs_X9_clear : zvS yX9_clear cX9_clear 2 (none) 0 := ⟨zl_279, zl_14, ⟨by decide +kernel, by decide +kernel, by decide +kernel⟩, by decide⟩
theorem zl_280 : Cond.methodLink RX4 93 yX9_clear ∈ zt := zt_at 538 (by decide +kernel)
theorem zl_281 : Cond.instanceMethod yX9_clear ∈ zt := zt_at 539 (by decide +kernel)
theorem zl_282 : Cond.selects RX9 yX9_clear yX9_clear ∈ zt := zt_at 540 (by decide +kernel)
theorem zl_283 : Cond.code yX2_clear cX2_clear 1 (none) ∈ zt := zt_at 548 (by decide +kernel)
theorem zvs_X2_clear : zvS yX2_clear cX2_clear 1 (none) 0 := ⟨zl_283, zl_249, ⟨by decide +kernel, by decide +kernel, by decide +kernel⟩, by decide⟩
theorem zl_284 : Cond.methodLink RX4 96 yX2_clear ∈ zt := zt_at 545 (by decide +kernel)
theorem zl_285 : Cond.instanceMethod yX2_clear ∈ zt := zt_at 546 (by decide +kernel)
theorem zl_286 : Cond.selects RX2 yX2_clear yX2_clear ∈ zt := zt_at 547 (by decide +kernel)
theorem zl_287 : Cond.code yX3_clear cX3_clear 1 (none) ∈ zt := zt_at 552 (by decide +kernel)
theorem zvs_X3_clear : zvS yX3_clear cX3_clear 1 (none) 0 := ⟨zl_287, zl_207, ⟨by decide +kernel, by decide +kernel, by decide +kernel⟩, by decide⟩
theorem zl_288 : Cond.methodLink RX4 97 yX3_clear ∈ zt := zt_at 549 (by decide +kernel)
theorem zl_289 : Cond.instanceMethod yX3_clear ∈ zt := zt_at 550 (by decide +kernel)
theorem zl_290 : Cond.selects RX3 yX3_clear yX3_clear ∈ zt := zt_at 551 (by decide +kernel)
theorem zl_291 : Cond.code yX6_clear cX6_clear 1 (none) ∈ zt := zt_at 556 (by decide +kernel)
theorem zvs_X6_clear : zvS yX6_clear cX6_clear 1 (none) 0 := ⟨zl_291, zl_262, ⟨by decide +kernel, by decide +kernel, by decide +kernel⟩, by decide⟩
theorem zl_292 : Cond.methodLink RX4 98 yX6_clear ∈ zt := zt_at 553 (by decide +kernel)
theorem zl_293 : Cond.instanceMethod yX6_clear ∈ zt := zt_at 554 (by decide +kernel)
theorem zl_294 : Cond.selects RX6 yX6_clear yX6_clear ∈ zt := zt_at 555 (by decide +kernel)
theorem dX4_clearDraft_0 : decode cX4_clearDraft 0 = .ok (.iload_n 1, 1) := by decide +kernel
theorem dX4_clearDraft_1 : decode cX4_clearDraft 1 = .ok (.tableswitch 57 0 2 #[27, 37, 47], 27) := by decide +kernel
theorem dX4_clearDraft_28 : decode cX4_clearDraft 28 = .ok (.aload_n 0, 1) := by decide +kernel
theorem dX4_clearDraft_29 : decode cX4_clearDraft 29 = .ok (.getfield 12, 3) := by decide +kernel
theorem dX4_clearDraft_32 : decode cX4_clearDraft 32 = .ok (.invokevirtual 93, 3) := by decide +kernel
theorem dX4_clearDraft_35 : decode cX4_clearDraft 35 = .ok (.goto 30, 3) := by decide +kernel
theorem dX4_clearDraft_38 : decode cX4_clearDraft 38 = .ok (.aload_n 0, 1) := by decide +kernel
theorem dX4_clearDraft_39 : decode cX4_clearDraft 39 = .ok (.getfield 21, 3) := by decide +kernel
theorem dX4_clearDraft_42 : decode cX4_clearDraft 42 = .ok (.invokevirtual 96, 3) := by decide +kernel
theorem dX4_clearDraft_45 : decode cX4_clearDraft 45 = .ok (.goto 20, 3) := by decide +kernel
theorem dX4_clearDraft_48 : decode cX4_clearDraft 48 = .ok (.aload_n 0, 1) := by decide +kernel
theorem dX4_clearDraft_49 : decode cX4_clearDraft 49 = .ok (.getfield 28, 3) := by decide +kernel
theorem dX4_clearDraft_52 : decode cX4_clearDraft 52 = .ok (.invokevirtual 97, 3) := by decide +kernel
theorem dX4_clearDraft_55 : decode cX4_clearDraft 55 = .ok (.goto 10, 3) := by decide +kernel
theorem dX4_clearDraft_58 : decode cX4_clearDraft 58 = .ok (.aload_n 0, 1) := by decide +kernel
theorem dX4_clearDraft_59 : decode cX4_clearDraft 59 = .ok (.getfield 35, 3) := by decide +kernel
theorem dX4_clearDraft_62 : decode cX4_clearDraft 62 = .ok (.invokevirtual 98, 3) := by decide +kernel
theorem dX4_clearDraft_65 : decode cX4_clearDraft 65 = .ok (.return_, 1) := by decide +kernel
noncomputable def fX4_clearDraft (μ : zM) (x0 : Nat) (x1 : Int32) : Option (zM) := zgd (zm_ck μ 4 x0) <|
  zc1 (if x1 = 0 then (
  zb1 (zm_gR μ 4 x0 0) fun v3 =>
  zb1 (fX9_clear μ v3) fun m6 =>
  some m6)
  else (
  if x1 = 1 then (
  zb1 (zm_gR μ 4 x0 1) fun v8 =>
  zb1 (fX2_clear μ v8) fun m11 =>
  some m11)
  else (
  if x1 = 2 then (
  zb1 (zm_gR μ 4 x0 2) fun v13 =>
  zb1 (fX3_clear μ v13) fun m16 =>
  some m16)
  else (
  zb1 (zm_gR μ 4 x0 3) fun v18 =>
  zb1 (fX6_clear μ v18) fun m21 =>
  some m21))) : Option (zM)) fun (m1 : zM) =>
  some m1
theorem fX4_clearDraft_ck {μ : zM} {x0 : Nat} {x1 : Int32} {z : zM} (h : fX4_clearDraft μ x0 x1 = some z) : zm_ck μ 4 x0 = true := (zgd_s h).1
set_option maxHeartbeats 4000000 in
set_option maxRecDepth 100000 in
theorem cX4_clearDraft_ok {μ : zM} {x0 : Nat} {x1 : Int32} {mo : zM} (hf : fX4_clearDraft μ x0 x1 = some mo) : zC yX4_clearDraft cX4_clearDraft 2 (none) 2 0 0 [.ref x0, .int x1] μ (none) mo := by
  replace hf := (zgd_s hf).2
  refine zC.of (by decide) (Nat.le_of_ble_eq_true rfl) (fun K hin => ?_)
  clear hin
  show zz K cX4_clearDraft (2, RX4, none, 2, 0, 0, none, mo) 0 0 0 [(0, .ref x0), (1, .int x1)] [] μ
  refine zr_iload_n 1 dX4_clearDraft_0 rfl ?_
  replace hf := zc1_s hf
  obtain ⟨m1, hg, hf⟩ := hf
  have hj2 : zz K cX4_clearDraft (2, RX4, none, 2, 0, 0, none, mo) 0 0 65 [] [] m1 := by
    cases hf
    exact zr_vret dX4_clearDraft_65
  clear hf
  have hf := hg
  clear hg
  rcases zdec (x1 = 0) with hs7 | hs7
  · rw [if_pos hs7] at hf
    refine zr_tableIn (off := 27) 28 dX4_clearDraft_1 (by rw [hs7]; decide) (by rw [hs7]; decide) (by rw [hs7]; rfl) (by decide) ?_
    refine zr_aload_n 0 dX4_clearDraft_28 rfl ?_
    replace hf := zb1_s hf
    obtain ⟨v3, h4, hf⟩ := hf
    refine zr_get (zm_gR_g h4) zk4 (by decide) zl_246 dX4_clearDraft_29 ?_
    replace hf := zb1_s hf
    obtain ⟨m6, h5, hf⟩ := hf
    refine zr_callV (ci := 9) [] (cX9_clear_ok h5) zvs_X9_clear zl_281 zl_282 (fX9_clear_ck h5) rfl rfl zl_280 rfl (Nat.le_of_ble_eq_true rfl) (Nat.le_of_ble_eq_true rfl) (Nat.le_of_ble_eq_true rfl) (Nat.le_of_ble_eq_true rfl) dX4_clearDraft_32 rfl ?_
    refine zr_goto 65 dX4_clearDraft_35 (by decide) ?_
    cases hf
    exact zr_lv [] rfl hj2
  rw [if_neg hs7] at hf
  rcases zdec (x1 = 1) with hs12 | hs12
  · rw [if_pos hs12] at hf
    refine zr_tableIn (off := 37) 38 dX4_clearDraft_1 (by rw [hs12]; decide) (by rw [hs12]; decide) (by rw [hs12]; rfl) (by decide) ?_
    refine zr_aload_n 0 dX4_clearDraft_38 rfl ?_
    replace hf := zb1_s hf
    obtain ⟨v8, h9, hf⟩ := hf
    refine zr_get (zm_gR_g h9) zk4 (by decide) zl_253 dX4_clearDraft_39 ?_
    replace hf := zb1_s hf
    obtain ⟨m11, h10, hf⟩ := hf
    refine zr_callV (ci := 2) [] (cX2_clear_ok h10) zvs_X2_clear zl_285 zl_286 (fX2_clear_ck h10) rfl rfl zl_284 rfl (Nat.le_of_ble_eq_true rfl) (Nat.le_of_ble_eq_true rfl) (Nat.le_of_ble_eq_true rfl) (Nat.le_of_ble_eq_true rfl) dX4_clearDraft_42 rfl ?_
    refine zr_goto 65 dX4_clearDraft_45 (by decide) ?_
    cases hf
    exact zr_lv [] rfl hj2
  rw [if_neg hs12] at hf
  rcases zdec (x1 = 2) with hs17 | hs17
  · rw [if_pos hs17] at hf
    refine zr_tableIn (off := 47) 48 dX4_clearDraft_1 (by rw [hs17]; decide) (by rw [hs17]; decide) (by rw [hs17]; rfl) (by decide) ?_
    refine zr_aload_n 0 dX4_clearDraft_48 rfl ?_
    replace hf := zb1_s hf
    obtain ⟨v13, h14, hf⟩ := hf
    refine zr_get (zm_gR_g h14) zk4 (by decide) zl_259 dX4_clearDraft_49 ?_
    replace hf := zb1_s hf
    obtain ⟨m16, h15, hf⟩ := hf
    refine zr_callV (ci := 3) [] (cX3_clear_ok h15) zvs_X3_clear zl_289 zl_290 (fX3_clear_ck h15) rfl rfl zl_288 rfl (Nat.le_of_ble_eq_true rfl) (Nat.le_of_ble_eq_true rfl) (Nat.le_of_ble_eq_true rfl) (Nat.le_of_ble_eq_true rfl) dX4_clearDraft_52 rfl ?_
    refine zr_goto 65 dX4_clearDraft_55 (by decide) ?_
    cases hf
    exact zr_lv [] rfl hj2
  rw [if_neg hs17] at hf
  refine zr_tableOut 58 dX4_clearDraft_1 (by simp only [← Int32.toInt_inj] at hs7 hs12 hs17; simp at hs7 hs12 hs17; omega) (by decide) ?_
  refine zr_aload_n 0 dX4_clearDraft_58 rfl ?_
  replace hf := zb1_s hf
  obtain ⟨v18, h19, hf⟩ := hf
  refine zr_get (zm_gR_g h19) zk4 (by decide) zl_266 dX4_clearDraft_59 ?_
  replace hf := zb1_s hf
  obtain ⟨m21, h20, hf⟩ := hf
  refine zr_callV (ci := 6) [] (cX6_clear_ok h20) zvs_X6_clear zl_293 zl_294 (fX6_clear_ck h20) rfl rfl zl_292 rfl (Nat.le_of_ble_eq_true rfl) (Nat.le_of_ble_eq_true rfl) (Nat.le_of_ble_eq_true rfl) (Nat.le_of_ble_eq_true rfl) dX4_clearDraft_62 rfl ?_
  cases hf
  exact zr_lv [] rfl hj2
theorem dX4_isBlank_0 : decode cX4_isBlank 0 = .ok (.iload_n 0, 1) := by decide +kernel
theorem dX4_isBlank_1 : decode cX4_isBlank 1 = .ok (.bipush 10, 2) := by decide +kernel
theorem dX4_isBlank_3 : decode cX4_isBlank 3 = .ok (.if_icmp .eq 9, 3) := by decide +kernel
theorem dX4_isBlank_6 : decode cX4_isBlank 6 = .ok (.iload_n 0, 1) := by decide +kernel
theorem dX4_isBlank_7 : decode cX4_isBlank 7 = .ok (.bipush 32, 2) := by decide +kernel
theorem dX4_isBlank_9 : decode cX4_isBlank 9 = .ok (.if_icmp .ne 7, 3) := by decide +kernel
theorem dX4_isBlank_12 : decode cX4_isBlank 12 = .ok (.iconst 1, 1) := by decide +kernel
theorem dX4_isBlank_13 : decode cX4_isBlank 13 = .ok (.goto 4, 3) := by decide +kernel
theorem dX4_isBlank_16 : decode cX4_isBlank 16 = .ok (.iconst 0, 1) := by decide +kernel
theorem dX4_isBlank_17 : decode cX4_isBlank 17 = .ok (.ireturn, 1) := by decide +kernel
noncomputable def fX4_isBlank (μ : zM) (x0 : Int32) : Option (Int32) :=
  zb1 (if x0 = 10 then (
  some 1)
  else (
  if x0 = 32 then (
  some 1)
  else (
  some 0)) : Option (Int32)) fun (s1 : Int32) =>
  zb1 (zbz s1) fun v3 =>
  some v3
set_option maxHeartbeats 4000000 in
set_option maxRecDepth 100000 in
theorem cX4_isBlank_ok {μ : zM} {x0 : Int32} {r : Int32} (hf : fX4_isBlank μ x0 = some r) : zC yX4_isBlank cX4_isBlank 1 (some .boolean) 0 0 0 [.int x0] μ (some (.int r)) μ := by
  unfold fX4_isBlank at hf
  refine zC.of (by decide) (Nat.le_of_ble_eq_true rfl) (fun K hin => ?_)
  clear hin
  show zz K cX4_isBlank (1, RX4, some .boolean, 0, 0, 0, some (.int r), μ) 0 0 0 [(0, .int x0)] [] μ
  refine zr_iload_n 0 dX4_isBlank_0 rfl ?_
  refine zr_bipush 10 dX4_isBlank_1 (by decide) ?_
  replace hf := zb1_s hf
  obtain ⟨s1, hg, hf⟩ := hf
  have hj2 : zz K cX4_isBlank (1, RX4, some .boolean, 0, 0, 0, some (.int r), μ) 0 0 17 [] [.int s1] μ := by
    replace hf := zb1_s hf
    obtain ⟨v3, hn4, hf⟩ := hf
    replace hn4 := zbz_s hn4
    obtain ⟨hn4, rfl⟩ := hn4
    cases hf
    exact zr_zret hn4 dX4_isBlank_17
  clear hf
  have hf := hg
  clear hg
  refine zr_icmp_eq 12 dX4_isBlank_3 (by decide) (fun hc => ?_) (fun hc => ?_)
  · rw [if_pos hc] at hf
    refine zr_iconst 1 dX4_isBlank_12 (by decide) ?_
    refine zr_goto 17 dX4_isBlank_13 (by decide) ?_
    cases hf
    exact zr_lv [] rfl hj2
  · rw [if_neg hc] at hf
    refine zr_iload_n 0 dX4_isBlank_6 rfl ?_
    refine zr_bipush 32 dX4_isBlank_7 (by decide) ?_
    refine zr_icmp_ne 16 dX4_isBlank_9 (by decide) (fun hc => ?_) (fun hc => ?_)
    · rw [if_neg hc] at hf
      refine zr_iconst 0 dX4_isBlank_16 (by decide) ?_
      cases hf
      exact zr_lv [] rfl hj2
    · rw [if_pos hc] at hf
      refine zr_iconst 1 dX4_isBlank_12 (by decide) ?_
      refine zr_goto 17 dX4_isBlank_13 (by decide) ?_
      cases hf
      exact zr_lv [] rfl hj2
theorem dX4_isLetter_0 : decode cX4_isLetter 0 = .ok (.iload_n 0, 1) := by decide +kernel
theorem dX4_isLetter_1 : decode cX4_isLetter 1 = .ok (.bipush 97, 2) := by decide +kernel
theorem dX4_isLetter_3 : decode cX4_isLetter 3 = .ok (.if_icmp .lt 13, 3) := by decide +kernel
theorem dX4_isLetter_6 : decode cX4_isLetter 6 = .ok (.iload_n 0, 1) := by decide +kernel
theorem dX4_isLetter_7 : decode cX4_isLetter 7 = .ok (.bipush 122, 2) := by decide +kernel
theorem dX4_isLetter_9 : decode cX4_isLetter 9 = .ok (.if_icmp .gt 7, 3) := by decide +kernel
theorem dX4_isLetter_12 : decode cX4_isLetter 12 = .ok (.iconst 1, 1) := by decide +kernel
theorem dX4_isLetter_13 : decode cX4_isLetter 13 = .ok (.goto 4, 3) := by decide +kernel
theorem dX4_isLetter_16 : decode cX4_isLetter 16 = .ok (.iconst 0, 1) := by decide +kernel
theorem dX4_isLetter_17 : decode cX4_isLetter 17 = .ok (.ireturn, 1) := by decide +kernel
noncomputable def fX4_isLetter (μ : zM) (x0 : Int32) : Option (Int32) :=
  zb1 (if x0 < 97 then (
  some 0)
  else (
  if 122 < x0 then (
  some 0)
  else (
  some 1)) : Option (Int32)) fun (s1 : Int32) =>
  zb1 (zbz s1) fun v3 =>
  some v3
set_option maxHeartbeats 4000000 in
set_option maxRecDepth 100000 in
theorem cX4_isLetter_ok {μ : zM} {x0 : Int32} {r : Int32} (hf : fX4_isLetter μ x0 = some r) : zC yX4_isLetter cX4_isLetter 1 (some .boolean) 0 0 0 [.int x0] μ (some (.int r)) μ := by
  unfold fX4_isLetter at hf
  refine zC.of (by decide) (Nat.le_of_ble_eq_true rfl) (fun K hin => ?_)
  clear hin
  show zz K cX4_isLetter (1, RX4, some .boolean, 0, 0, 0, some (.int r), μ) 0 0 0 [(0, .int x0)] [] μ
  refine zr_iload_n 0 dX4_isLetter_0 rfl ?_
  refine zr_bipush 97 dX4_isLetter_1 (by decide) ?_
  replace hf := zb1_s hf
  obtain ⟨s1, hg, hf⟩ := hf
  have hj2 : zz K cX4_isLetter (1, RX4, some .boolean, 0, 0, 0, some (.int r), μ) 0 0 17 [] [.int s1] μ := by
    replace hf := zb1_s hf
    obtain ⟨v3, hn4, hf⟩ := hf
    replace hn4 := zbz_s hn4
    obtain ⟨hn4, rfl⟩ := hn4
    cases hf
    exact zr_zret hn4 dX4_isLetter_17
  clear hf
  have hf := hg
  clear hg
  refine zr_icmp_lt 16 dX4_isLetter_3 (by decide) (fun hc => ?_) (fun hc => ?_)
  · rw [if_pos hc] at hf
    refine zr_iconst 0 dX4_isLetter_16 (by decide) ?_
    cases hf
    exact zr_lv [] rfl hj2
  · rw [if_neg hc] at hf
    refine zr_iload_n 0 dX4_isLetter_6 rfl ?_
    refine zr_bipush 122 dX4_isLetter_7 (by decide) ?_
    refine zr_icmp_gt 16 dX4_isLetter_9 (by decide) (fun hc => ?_) (fun hc => ?_)
    · rw [if_pos hc] at hf
      refine zr_iconst 0 dX4_isLetter_16 (by decide) ?_
      cases hf
      exact zr_lv [] rfl hj2
    · rw [if_neg hc] at hf
      refine zr_iconst 1 dX4_isLetter_12 (by decide) ?_
      refine zr_goto 17 dX4_isLetter_13 (by decide) ?_
      cases hf
      exact zr_lv [] rfl hj2
theorem dX4_isDigit_0 : decode cX4_isDigit 0 = .ok (.iload_n 0, 1) := by decide +kernel
theorem dX4_isDigit_1 : decode cX4_isDigit 1 = .ok (.bipush 48, 2) := by decide +kernel
theorem dX4_isDigit_3 : decode cX4_isDigit 3 = .ok (.if_icmp .lt 13, 3) := by decide +kernel
theorem dX4_isDigit_6 : decode cX4_isDigit 6 = .ok (.iload_n 0, 1) := by decide +kernel
theorem dX4_isDigit_7 : decode cX4_isDigit 7 = .ok (.bipush 57, 2) := by decide +kernel
theorem dX4_isDigit_9 : decode cX4_isDigit 9 = .ok (.if_icmp .gt 7, 3) := by decide +kernel
theorem dX4_isDigit_12 : decode cX4_isDigit 12 = .ok (.iconst 1, 1) := by decide +kernel
theorem dX4_isDigit_13 : decode cX4_isDigit 13 = .ok (.goto 4, 3) := by decide +kernel
theorem dX4_isDigit_16 : decode cX4_isDigit 16 = .ok (.iconst 0, 1) := by decide +kernel
theorem dX4_isDigit_17 : decode cX4_isDigit 17 = .ok (.ireturn, 1) := by decide +kernel
noncomputable def fX4_isDigit (μ : zM) (x0 : Int32) : Option (Int32) :=
  zb1 (if x0 < 48 then (
  some 0)
  else (
  if 57 < x0 then (
  some 0)
  else (
  some 1)) : Option (Int32)) fun (s1 : Int32) =>
  zb1 (zbz s1) fun v3 =>
  some v3
set_option maxHeartbeats 4000000 in
set_option maxRecDepth 100000 in
theorem cX4_isDigit_ok {μ : zM} {x0 : Int32} {r : Int32} (hf : fX4_isDigit μ x0 = some r) : zC yX4_isDigit cX4_isDigit 1 (some .boolean) 0 0 0 [.int x0] μ (some (.int r)) μ := by
  unfold fX4_isDigit at hf
  refine zC.of (by decide) (Nat.le_of_ble_eq_true rfl) (fun K hin => ?_)
  clear hin
  show zz K cX4_isDigit (1, RX4, some .boolean, 0, 0, 0, some (.int r), μ) 0 0 0 [(0, .int x0)] [] μ
  refine zr_iload_n 0 dX4_isDigit_0 rfl ?_
  refine zr_bipush 48 dX4_isDigit_1 (by decide) ?_
  replace hf := zb1_s hf
  obtain ⟨s1, hg, hf⟩ := hf
  have hj2 : zz K cX4_isDigit (1, RX4, some .boolean, 0, 0, 0, some (.int r), μ) 0 0 17 [] [.int s1] μ := by
    replace hf := zb1_s hf
    obtain ⟨v3, hn4, hf⟩ := hf
    replace hn4 := zbz_s hn4
    obtain ⟨hn4, rfl⟩ := hn4
    cases hf
    exact zr_zret hn4 dX4_isDigit_17
  clear hf
  have hf := hg
  clear hg
  refine zr_icmp_lt 16 dX4_isDigit_3 (by decide) (fun hc => ?_) (fun hc => ?_)
  · rw [if_pos hc] at hf
    refine zr_iconst 0 dX4_isDigit_16 (by decide) ?_
    cases hf
    exact zr_lv [] rfl hj2
  · rw [if_neg hc] at hf
    refine zr_iload_n 0 dX4_isDigit_6 rfl ?_
    refine zr_bipush 57 dX4_isDigit_7 (by decide) ?_
    refine zr_icmp_gt 16 dX4_isDigit_9 (by decide) (fun hc => ?_) (fun hc => ?_)
    · rw [if_pos hc] at hf
      refine zr_iconst 0 dX4_isDigit_16 (by decide) ?_
      cases hf
      exact zr_lv [] rfl hj2
    · rw [if_neg hc] at hf
      refine zr_iconst 1 dX4_isDigit_12 (by decide) ?_
      refine zr_goto 17 dX4_isDigit_13 (by decide) ?_
      cases hf
      exact zr_lv [] rfl hj2
theorem zl_295 : Cond.code yX4_isBlank cX4_isBlank 1 (some .boolean) ∈ zt := zt_at 563 (by decide +kernel)
theorem zl_296 : Cond.initialized RX4 ∈ zt := zt_at 135 (by decide +kernel)
theorem zvs_X4_isBlank : zvS yX4_isBlank cX4_isBlank 1 (some .boolean) 1 := ⟨zl_295, zl_296, ⟨by decide +kernel, by decide +kernel, by decide +kernel⟩, by decide⟩
theorem zl_297 : Cond.methodLink RX4 236 yX4_isBlank ∈ zt := zt_at 561 (by decide +kernel)
theorem zl_298 : Cond.static yX4_isBlank ∈ zt := zt_at 562 (by decide +kernel)
theorem zl_299 : Cond.code yX4_isLetter cX4_isLetter 1 (some .boolean) ∈ zt := zt_at 566 (by decide +kernel)
theorem zvs_X4_isLetter : zvS yX4_isLetter cX4_isLetter 1 (some .boolean) 1 := ⟨zl_299, zl_296, ⟨by decide +kernel, by decide +kernel, by decide +kernel⟩, by decide⟩
theorem zl_300 : Cond.methodLink RX4 240 yX4_isLetter ∈ zt := zt_at 564 (by decide +kernel)
theorem zl_301 : Cond.static yX4_isLetter ∈ zt := zt_at 565 (by decide +kernel)
theorem zl_302 : Cond.code yX4_isDigit cX4_isDigit 1 (some .boolean) ∈ zt := zt_at 569 (by decide +kernel)
theorem zvs_X4_isDigit : zvS yX4_isDigit cX4_isDigit 1 (some .boolean) 1 := ⟨zl_302, zl_296, ⟨by decide +kernel, by decide +kernel, by decide +kernel⟩, by decide⟩
theorem zl_303 : Cond.methodLink RX4 243 yX4_isDigit ∈ zt := zt_at 567 (by decide +kernel)
theorem zl_304 : Cond.static yX4_isDigit ∈ zt := zt_at 568 (by decide +kernel)
theorem dX4_advance_0 : decode cX4_advance 0 = .ok (.aload_n 0, 1) := by decide +kernel
theorem dX4_advance_1 : decode cX4_advance 1 = .ok (.getfield 55, 3) := by decide +kernel
theorem dX4_advance_4 : decode cX4_advance 4 = .ok (.istore_n 1, 1) := by decide +kernel
theorem dX4_advance_5 : decode cX4_advance 5 = .ok (.iload_n 1, 1) := by decide +kernel
theorem dX4_advance_6 : decode cX4_advance 6 = .ok (.aload_n 0, 1) := by decide +kernel
theorem dX4_advance_7 : decode cX4_advance 7 = .ok (.getfield 46, 3) := by decide +kernel
theorem dX4_advance_10 : decode cX4_advance 10 = .ok (.if_icmp .ge 21, 3) := by decide +kernel
theorem dX4_advance_13 : decode cX4_advance 13 = .ok (.aload_n 0, 1) := by decide +kernel
theorem dX4_advance_14 : decode cX4_advance 14 = .ok (.getfield 65, 3) := by decide +kernel
theorem dX4_advance_17 : decode cX4_advance 17 = .ok (.iload_n 1, 1) := by decide +kernel
theorem dX4_advance_18 : decode cX4_advance 18 = .ok (.baload, 1) := by decide +kernel
theorem dX4_advance_19 : decode cX4_advance 19 = .ok (.invokestatic 236, 3) := by decide +kernel
theorem dX4_advance_22 : decode cX4_advance 22 = .ok (.ifCond .eq 9, 3) := by decide +kernel
theorem dX4_advance_25 : decode cX4_advance 25 = .ok (.iinc 1 1, 3) := by decide +kernel
theorem dX4_advance_28 : decode cX4_advance 28 = .ok (.goto (-23), 3) := by decide +kernel
theorem dX4_advance_31 : decode cX4_advance 31 = .ok (.aload_n 0, 1) := by decide +kernel
theorem dX4_advance_32 : decode cX4_advance 32 = .ok (.iload_n 1, 1) := by decide +kernel
theorem dX4_advance_33 : decode cX4_advance 33 = .ok (.putfield 52, 3) := by decide +kernel
theorem dX4_advance_36 : decode cX4_advance 36 = .ok (.iload_n 1, 1) := by decide +kernel
theorem dX4_advance_37 : decode cX4_advance 37 = .ok (.aload_n 0, 1) := by decide +kernel
theorem dX4_advance_38 : decode cX4_advance 38 = .ok (.getfield 46, 3) := by decide +kernel
theorem dX4_advance_41 : decode cX4_advance 41 = .ok (.if_icmp .lt 11, 3) := by decide +kernel
theorem dX4_advance_44 : decode cX4_advance 44 = .ok (.aload_n 0, 1) := by decide +kernel
theorem dX4_advance_45 : decode cX4_advance 45 = .ok (.iconst 0, 1) := by decide +kernel
theorem dX4_advance_46 : decode cX4_advance 46 = .ok (.putfield 49, 3) := by decide +kernel
theorem dX4_advance_49 : decode cX4_advance 49 = .ok (.goto 132, 3) := by decide +kernel
theorem dX4_advance_52 : decode cX4_advance 52 = .ok (.aload_n 0, 1) := by decide +kernel
theorem dX4_advance_53 : decode cX4_advance 53 = .ok (.getfield 65, 3) := by decide +kernel
theorem dX4_advance_56 : decode cX4_advance 56 = .ok (.iload_n 1, 1) := by decide +kernel
theorem dX4_advance_57 : decode cX4_advance 57 = .ok (.baload, 1) := by decide +kernel
theorem dX4_advance_58 : decode cX4_advance 58 = .ok (.invokestatic 240, 3) := by decide +kernel
theorem dX4_advance_61 : decode cX4_advance 61 = .ok (.ifCond .eq 37, 3) := by decide +kernel
theorem dX4_advance_64 : decode cX4_advance 64 = .ok (.iload_n 1, 1) := by decide +kernel
theorem dX4_advance_65 : decode cX4_advance 65 = .ok (.aload_n 0, 1) := by decide +kernel
theorem dX4_advance_66 : decode cX4_advance 66 = .ok (.getfield 46, 3) := by decide +kernel
theorem dX4_advance_69 : decode cX4_advance 69 = .ok (.if_icmp .ge 21, 3) := by decide +kernel
theorem dX4_advance_72 : decode cX4_advance 72 = .ok (.aload_n 0, 1) := by decide +kernel
theorem dX4_advance_73 : decode cX4_advance 73 = .ok (.getfield 65, 3) := by decide +kernel
theorem dX4_advance_76 : decode cX4_advance 76 = .ok (.iload_n 1, 1) := by decide +kernel
theorem dX4_advance_77 : decode cX4_advance 77 = .ok (.baload, 1) := by decide +kernel
theorem dX4_advance_78 : decode cX4_advance 78 = .ok (.invokestatic 240, 3) := by decide +kernel
theorem dX4_advance_81 : decode cX4_advance 81 = .ok (.ifCond .eq 9, 3) := by decide +kernel
theorem dX4_advance_84 : decode cX4_advance 84 = .ok (.iinc 1 1, 3) := by decide +kernel
theorem dX4_advance_87 : decode cX4_advance 87 = .ok (.goto (-23), 3) := by decide +kernel
theorem dX4_advance_90 : decode cX4_advance 90 = .ok (.aload_n 0, 1) := by decide +kernel
theorem dX4_advance_91 : decode cX4_advance 91 = .ok (.iconst 1, 1) := by decide +kernel
theorem dX4_advance_92 : decode cX4_advance 92 = .ok (.putfield 49, 3) := by decide +kernel
theorem dX4_advance_95 : decode cX4_advance 95 = .ok (.goto 86, 3) := by decide +kernel
theorem dX4_advance_98 : decode cX4_advance 98 = .ok (.aload_n 0, 1) := by decide +kernel
theorem dX4_advance_99 : decode cX4_advance 99 = .ok (.getfield 65, 3) := by decide +kernel
theorem dX4_advance_102 : decode cX4_advance 102 = .ok (.iload_n 1, 1) := by decide +kernel
theorem dX4_advance_103 : decode cX4_advance 103 = .ok (.baload, 1) := by decide +kernel
theorem dX4_advance_104 : decode cX4_advance 104 = .ok (.invokestatic 243, 3) := by decide +kernel
theorem dX4_advance_107 : decode cX4_advance 107 = .ok (.ifCond .eq 51, 3) := by decide +kernel
theorem dX4_advance_110 : decode cX4_advance 110 = .ok (.iload_n 1, 1) := by decide +kernel
theorem dX4_advance_111 : decode cX4_advance 111 = .ok (.aload_n 0, 1) := by decide +kernel
theorem dX4_advance_112 : decode cX4_advance 112 = .ok (.getfield 46, 3) := by decide +kernel
theorem dX4_advance_115 : decode cX4_advance 115 = .ok (.if_icmp .ge 21, 3) := by decide +kernel
theorem dX4_advance_118 : decode cX4_advance 118 = .ok (.aload_n 0, 1) := by decide +kernel
theorem dX4_advance_119 : decode cX4_advance 119 = .ok (.getfield 65, 3) := by decide +kernel
theorem dX4_advance_122 : decode cX4_advance 122 = .ok (.iload_n 1, 1) := by decide +kernel
theorem dX4_advance_123 : decode cX4_advance 123 = .ok (.baload, 1) := by decide +kernel
theorem dX4_advance_124 : decode cX4_advance 124 = .ok (.invokestatic 243, 3) := by decide +kernel
theorem dX4_advance_127 : decode cX4_advance 127 = .ok (.ifCond .eq 9, 3) := by decide +kernel
theorem dX4_advance_130 : decode cX4_advance 130 = .ok (.iinc 1 1, 3) := by decide +kernel
theorem dX4_advance_133 : decode cX4_advance 133 = .ok (.goto (-23), 3) := by decide +kernel
theorem dX4_advance_136 : decode cX4_advance 136 = .ok (.aload_n 0, 1) := by decide +kernel
theorem dX4_advance_137 : decode cX4_advance 137 = .ok (.iload_n 1, 1) := by decide +kernel
theorem dX4_advance_138 : decode cX4_advance 138 = .ok (.aload_n 0, 1) := by decide +kernel
theorem dX4_advance_139 : decode cX4_advance 139 = .ok (.getfield 52, 3) := by decide +kernel
theorem dX4_advance_142 : decode cX4_advance 142 = .ok (.isub, 1) := by decide +kernel
theorem dX4_advance_143 : decode cX4_advance 143 = .ok (.iconst 2, 1) := by decide +kernel
theorem dX4_advance_144 : decode cX4_advance 144 = .ok (.if_icmp .gt 7, 3) := by decide +kernel
theorem dX4_advance_147 : decode cX4_advance 147 = .ok (.iconst 2, 1) := by decide +kernel
theorem dX4_advance_148 : decode cX4_advance 148 = .ok (.goto 4, 3) := by decide +kernel
theorem dX4_advance_151 : decode cX4_advance 151 = .ok (.iconst 4, 1) := by decide +kernel
theorem dX4_advance_152 : decode cX4_advance 152 = .ok (.putfield 49, 3) := by decide +kernel
theorem dX4_advance_155 : decode cX4_advance 155 = .ok (.goto 26, 3) := by decide +kernel
theorem dX4_advance_158 : decode cX4_advance 158 = .ok (.aload_n 0, 1) := by decide +kernel
theorem dX4_advance_159 : decode cX4_advance 159 = .ok (.aload_n 0, 1) := by decide +kernel
theorem dX4_advance_160 : decode cX4_advance 160 = .ok (.getfield 65, 3) := by decide +kernel
theorem dX4_advance_163 : decode cX4_advance 163 = .ok (.iload_n 1, 1) := by decide +kernel
theorem dX4_advance_164 : decode cX4_advance 164 = .ok (.baload, 1) := by decide +kernel
theorem dX4_advance_165 : decode cX4_advance 165 = .ok (.bipush 59, 2) := by decide +kernel
theorem dX4_advance_167 : decode cX4_advance 167 = .ok (.if_icmp .ne 7, 3) := by decide +kernel
theorem dX4_advance_170 : decode cX4_advance 170 = .ok (.iconst 3, 1) := by decide +kernel
theorem dX4_advance_171 : decode cX4_advance 171 = .ok (.goto 4, 3) := by decide +kernel
theorem dX4_advance_174 : decode cX4_advance 174 = .ok (.iconst 4, 1) := by decide +kernel
theorem dX4_advance_175 : decode cX4_advance 175 = .ok (.putfield 49, 3) := by decide +kernel
theorem dX4_advance_178 : decode cX4_advance 178 = .ok (.iinc 1 1, 3) := by decide +kernel
theorem dX4_advance_181 : decode cX4_advance 181 = .ok (.aload_n 0, 1) := by decide +kernel
theorem dX4_advance_182 : decode cX4_advance 182 = .ok (.iload_n 1, 1) := by decide +kernel
theorem dX4_advance_183 : decode cX4_advance 183 = .ok (.putfield 55, 3) := by decide +kernel
theorem dX4_advance_186 : decode cX4_advance 186 = .ok (.return_, 1) := by decide +kernel
noncomputable def fX4_advance_l5 (μ : zM) (x0 : Nat) (F4 : Int32 → Option (Int32)) (x1_3 : Int32) : Option (Int32) :=
  zb1 (zm_gI μ 4 x0 7) fun v8 =>
  if v8 ≤ x1_3 then (
  some x1_3)
  else (
  zb1 (zm_gR μ 4 x0 6) fun v10 =>
  zb1 (zm_aI μ 1 v10 x1_3) fun v12 =>
  zb1 (fX4_isBlank μ v12) fun v15 =>
  if v15 = 0 then (
  some x1_3)
  else (
  F4 (x1_3 + 1)))
noncomputable def fX4_advance_l110 (m17 : zM) (x0 : Nat) (F47 : Int32 → Option (Int32)) (x1_46 : Int32) : Option (Int32) :=
  zb1 (zm_gI m17 4 x0 7) fun v51 =>
  if v51 ≤ x1_46 then (
  some x1_46)
  else (
  zb1 (zm_gR m17 4 x0 6) fun v53 =>
  zb1 (zm_aI m17 1 v53 x1_46) fun v55 =>
  zb1 (fX4_isDigit m17 v55) fun v58 =>
  if v58 = 0 then (
  some x1_46)
  else (
  F47 (x1_46 + 1)))
noncomputable def fX4_advance_l64 (m17 : zM) (x0 : Nat) (F67 : Int32 → Option (Int32)) (x1_66 : Int32) : Option (Int32) :=
  zb1 (zm_gI m17 4 x0 7) fun v71 =>
  if v71 ≤ x1_66 then (
  some x1_66)
  else (
  zb1 (zm_gR m17 4 x0 6) fun v73 =>
  zb1 (zm_aI m17 1 v73 x1_66) fun v75 =>
  zb1 (fX4_isLetter m17 v75) fun v78 =>
  if v78 = 0 then (
  some x1_66)
  else (
  F67 (x1_66 + 1)))
noncomputable def fX4_advance (μ : zM) (x0 : Nat) : Option (zM) := zgd (zm_ck μ 4 x0) <|
  zb1 (zm_gI μ 4 x0 10) fun v1 =>
  zb1 (zf1 (fX4_advance_l5 μ x0) zfu v1 : Option (Int32)) fun (x1_6 : Int32) =>
  zb1 (zm_p μ 4 x0 9 (.int x1_6)) fun m17 =>
  zb1 (zm_gI m17 4 x0 7) fun v19 =>
  zc2 (if x1_6 < v19 then (
  zb1 (zm_gR m17 4 x0 6) fun v26 =>
  zb1 (zm_aI m17 1 v26 x1_6) fun v28 =>
  zb1 (fX4_isLetter m17 v28) fun v31 =>
  if v31 = 0 then (
  zb1 (zm_gR m17 4 x0 6) fun v32 =>
  zb1 (zm_aI m17 1 v32 x1_6) fun v34 =>
  zb1 (fX4_isDigit m17 v34) fun v37 =>
  if v37 = 0 then (
  zb1 (zm_gR m17 4 x0 6) fun v38 =>
  zb1 (zm_aI m17 1 v38 x1_6) fun v40 =>
  zb1 (if v40 = 59 then (
  some 3)
  else (
  some 4) : Option (Int32)) fun (s42 : Int32) =>
  zb1 (zm_p m17 4 x0 8 (.int s42)) fun m44 =>
  some ((x1_6 + 1), m44))
  else (
  zb1 (zf1 (fX4_advance_l110 m17 x0) zfu x1_6 : Option (Int32)) fun (x1_49 : Int32) =>
  zb1 (zm_gI m17 4 x0 9) fun v60 =>
  zb1 (if 2 < (x1_49 - v60) then (
  some 4)
  else (
  some 2) : Option (Int32)) fun (s62 : Int32) =>
  zb1 (zm_p m17 4 x0 8 (.int s62)) fun m64 =>
  some (x1_49, m64)))
  else (
  zb1 (zf1 (fX4_advance_l64 m17 x0) zfu x1_6 : Option (Int32)) fun (x1_69 : Int32) =>
  zb1 (zm_p m17 4 x0 8 (.int 1)) fun m80 =>
  some (x1_69, m80)))
  else (
  zb1 (zm_p m17 4 x0 8 (.int 0)) fun m82 =>
  some (x1_6, m82)) : Option (Int32 × zM)) fun (x1_21 : Int32) (m22 : zM) =>
  zb1 (zm_p m22 4 x0 10 (.int x1_21)) fun m24 =>
  some m24
theorem fX4_advance_ck {μ : zM} {x0 : Nat} {z : zM} (h : fX4_advance μ x0 = some z) : zm_ck μ 4 x0 = true := (zgd_s h).1
set_option maxHeartbeats 4000000 in
set_option maxRecDepth 100000 in
theorem cX4_advance_ok {μ : zM} {x0 : Nat} {mo : zM} (hf : fX4_advance μ x0 = some mo) : zC yX4_advance cX4_advance 2 (none) 1 0 0 [.ref x0] μ (none) mo := by
  replace hf := (zgd_s hf).2
  refine zC.of (by decide) (Nat.le_of_ble_eq_true rfl) (fun K hin => ?_)
  clear hin
  show zz K cX4_advance (2, RX4, none, 1, 0, 0, none, mo) 0 0 0 [(0, .ref x0)] [] μ
  refine zr_aload_n 0 dX4_advance_0 rfl ?_
  replace hf := zb1_s hf
  obtain ⟨v1, h2, hf⟩ := hf
  refine zr_get (zm_gI_g h2) zk4 (by decide) zl_272 dX4_advance_1 ?_
  refine zr_istore_n [(1, .int v1), (0, .ref x0)] dX4_advance_4 (Nat.le_of_ble_eq_true rfl) rfl ?_
  replace hf := zb1_s hf
  obtain ⟨x1_6, hg, hf⟩ := hf
  have hj7 : zz K cX4_advance (2, RX4, none, 1, 0, 0, none, mo) 0 0 31 [(0, .ref x0), (1, .int x1_6)] [] μ := by
    refine zr_aload_n 0 dX4_advance_31 rfl ?_
    refine zr_iload_n 1 dX4_advance_32 rfl ?_
    replace hf := zb1_s hf
    obtain ⟨m17, h18, hf⟩ := hf
    refine zr_put h18 zk4 (by decide) zl_271 rfl rfl rfl dX4_advance_33 ?_
    refine zr_iload_n 1 dX4_advance_36 rfl ?_
    refine zr_aload_n 0 dX4_advance_37 rfl ?_
    replace hf := zb1_s hf
    obtain ⟨v19, h20, hf⟩ := hf
    refine zr_get (zm_gI_g h20) zk4 (by decide) zl_269 dX4_advance_38 ?_
    replace hf := zc2_s hf
    obtain ⟨x1_21, m22, hg, hf⟩ := hf
    have hj23 : zz K cX4_advance (2, RX4, none, 1, 0, 0, none, mo) 0 0 181 [(0, .ref x0), (1, .int x1_21)] [] m22 := by
      refine zr_aload_n 0 dX4_advance_181 rfl ?_
      refine zr_iload_n 1 dX4_advance_182 rfl ?_
      replace hf := zb1_s hf
      obtain ⟨m24, h25, hf⟩ := hf
      refine zr_put h25 zk4 (by decide) zl_272 rfl rfl rfl dX4_advance_183 ?_
      cases hf
      exact zr_vret dX4_advance_186
    clear hf
    have hf := hg
    clear hg
    refine zr_icmp_lt 52 dX4_advance_41 (by decide) (fun hc => ?_) (fun hc => ?_)
    · rw [if_pos hc] at hf
      refine zr_aload_n 0 dX4_advance_52 rfl ?_
      replace hf := zb1_s hf
      obtain ⟨v26, h27, hf⟩ := hf
      refine zr_get (zm_gR_g h27) zk4 (by decide) zl_275 dX4_advance_53 ?_
      refine zr_iload_n 1 dX4_advance_56 rfl ?_
      replace hf := zb1_s hf
      obtain ⟨v28, h29, hf⟩ := hf
      refine zr_bald h29 dX4_advance_57 ?_
      replace hf := zb1_s hf
      obtain ⟨v31, h30, hf⟩ := hf
      refine zr_callS [.int v28] (cX4_isLetter_ok h30) zvs_X4_isLetter zl_301 zl_300 rfl (Nat.le_of_ble_eq_true rfl) (Nat.le_of_ble_eq_true rfl) (Nat.le_of_ble_eq_true rfl) (Nat.le_of_ble_eq_true rfl) dX4_advance_58 rfl ?_
      refine zr_if_eq 98 dX4_advance_61 (by decide) (fun hc => ?_) (fun hc => ?_)
      · rw [if_pos hc] at hf
        refine zr_aload_n 0 dX4_advance_98 rfl ?_
        replace hf := zb1_s hf
        obtain ⟨v32, h33, hf⟩ := hf
        refine zr_get (zm_gR_g h33) zk4 (by decide) zl_275 dX4_advance_99 ?_
        refine zr_iload_n 1 dX4_advance_102 rfl ?_
        replace hf := zb1_s hf
        obtain ⟨v34, h35, hf⟩ := hf
        refine zr_bald h35 dX4_advance_103 ?_
        replace hf := zb1_s hf
        obtain ⟨v37, h36, hf⟩ := hf
        refine zr_callS [.int v34] (cX4_isDigit_ok h36) zvs_X4_isDigit zl_304 zl_303 rfl (Nat.le_of_ble_eq_true rfl) (Nat.le_of_ble_eq_true rfl) (Nat.le_of_ble_eq_true rfl) (Nat.le_of_ble_eq_true rfl) dX4_advance_104 rfl ?_
        refine zr_if_eq 158 dX4_advance_107 (by decide) (fun hc => ?_) (fun hc => ?_)
        · rw [if_pos hc] at hf
          refine zr_aload_n 0 dX4_advance_158 rfl ?_
          refine zr_aload_n 0 dX4_advance_159 rfl ?_
          replace hf := zb1_s hf
          obtain ⟨v38, h39, hf⟩ := hf
          refine zr_get (zm_gR_g h39) zk4 (by decide) zl_275 dX4_advance_160 ?_
          refine zr_iload_n 1 dX4_advance_163 rfl ?_
          replace hf := zb1_s hf
          obtain ⟨v40, h41, hf⟩ := hf
          refine zr_bald h41 dX4_advance_164 ?_
          refine zr_bipush 59 dX4_advance_165 (by decide) ?_
          replace hf := zb1_s hf
          obtain ⟨s42, hg, hf⟩ := hf
          have hj43 : zz K cX4_advance (2, RX4, none, 1, 0, 0, none, mo) 0 0 175 [(0, .ref x0), (1, .int x1_6)] [.int s42, .ref x0] m17 := by
            replace hf := zb1_s hf
            obtain ⟨m44, h45, hf⟩ := hf
            refine zr_put h45 zk4 (by decide) zl_270 rfl rfl rfl dX4_advance_175 ?_
            refine zr_iinc (j := 1) (x1_6 + 1) [(1, .int (x1_6 + 1)), (0, .ref x0)] dX4_advance_178 rfl rfl (Nat.le_of_ble_eq_true rfl) rfl ?_
            cases hf
            exact zr_lv [1, 0] rfl hj23
          clear hf
          have hf := hg
          clear hg
          refine zr_icmp_ne 174 dX4_advance_167 (by decide) (fun hc => ?_) (fun hc => ?_)
          · rw [if_neg hc] at hf
            refine zr_iconst 4 dX4_advance_174 (by decide) ?_
            cases hf
            exact zr_lv [0, 1] rfl hj43
          · rw [if_pos hc] at hf
            refine zr_iconst 3 dX4_advance_170 (by decide) ?_
            refine zr_goto 175 dX4_advance_171 (by decide) ?_
            cases hf
            exact zr_lv [0, 1] rfl hj43
        · rw [if_neg hc] at hf
          replace hf := zb1_s hf
          obtain ⟨x1_49, hg, hf⟩ := hf
          have hj50 : zz K cX4_advance (2, RX4, none, 1, 0, 0, none, mo) 0 0 136 [(0, .ref x0), (1, .int x1_49)] [] m17 := by
            refine zr_aload_n 0 dX4_advance_136 rfl ?_
            refine zr_iload_n 1 dX4_advance_137 rfl ?_
            refine zr_aload_n 0 dX4_advance_138 rfl ?_
            replace hf := zb1_s hf
            obtain ⟨v60, h61, hf⟩ := hf
            refine zr_get (zm_gI_g h61) zk4 (by decide) zl_271 dX4_advance_139 ?_
            refine zr_isub dX4_advance_142 ?_
            refine zr_iconst 2 dX4_advance_143 (by decide) ?_
            replace hf := zb1_s hf
            obtain ⟨s62, hg, hf⟩ := hf
            have hj63 : zz K cX4_advance (2, RX4, none, 1, 0, 0, none, mo) 0 0 152 [(0, .ref x0), (1, .int x1_49)] [.int s62, .ref x0] m17 := by
              replace hf := zb1_s hf
              obtain ⟨m64, h65, hf⟩ := hf
              refine zr_put h65 zk4 (by decide) zl_270 rfl rfl rfl dX4_advance_152 ?_
              refine zr_goto 181 dX4_advance_155 (by decide) ?_
              cases hf
              exact zr_lv [0, 1] rfl hj23
            clear hf
            have hf := hg
            clear hg
            refine zr_icmp_gt 151 dX4_advance_144 (by decide) (fun hc => ?_) (fun hc => ?_)
            · rw [if_pos hc] at hf
              refine zr_iconst 4 dX4_advance_151 (by decide) ?_
              cases hf
              exact zr_lv [0, 1] rfl hj63
            · rw [if_neg hc] at hf
              refine zr_iconst 2 dX4_advance_147 (by decide) ?_
              refine zr_goto 152 dX4_advance_148 (by decide) ?_
              cases hf
              exact zr_lv [0, 1] rfl hj63
          clear hf
          have hf := hg
          clear hg
          have hL59 : ∀ (n : Nat) (x1_46 : Int32), zf1 (fX4_advance_l110 m17 x0) n x1_46 = some x1_49 → zz K cX4_advance (2, RX4, none, 1, 0, 0, none, mo) 0 0 110 [(0, .ref x0), (1, .int x1_46)] [] m17 := by
            intro n
            induction n with
            | zero => intro x1_46 hf; cases hf
            | succ n ih48 =>
              intro x1_46 hf
              replace hf := zf1_s hf
              generalize zf1 (fX4_advance_l110 m17 x0) n = F47 at hf ih48
              unfold fX4_advance_l110 at hf
              refine zr_iload_n 1 dX4_advance_110 rfl ?_
              refine zr_aload_n 0 dX4_advance_111 rfl ?_
              replace hf := zb1_s hf
              obtain ⟨v51, h52, hf⟩ := hf
              refine zr_get (zm_gI_g h52) zk4 (by decide) zl_269 dX4_advance_112 ?_
              refine zr_icmp_ge 136 dX4_advance_115 (by decide) (fun hc => ?_) (fun hc => ?_)
              · rw [if_pos hc] at hf
                cases hf
                exact zr_lv [0, 1] rfl hj50
              · rw [if_neg hc] at hf
                refine zr_aload_n 0 dX4_advance_118 rfl ?_
                replace hf := zb1_s hf
                obtain ⟨v53, h54, hf⟩ := hf
                refine zr_get (zm_gR_g h54) zk4 (by decide) zl_275 dX4_advance_119 ?_
                refine zr_iload_n 1 dX4_advance_122 rfl ?_
                replace hf := zb1_s hf
                obtain ⟨v55, h56, hf⟩ := hf
                refine zr_bald h56 dX4_advance_123 ?_
                replace hf := zb1_s hf
                obtain ⟨v58, h57, hf⟩ := hf
                refine zr_callS [.int v55] (cX4_isDigit_ok h57) zvs_X4_isDigit zl_304 zl_303 rfl (Nat.le_of_ble_eq_true rfl) (Nat.le_of_ble_eq_true rfl) (Nat.le_of_ble_eq_true rfl) (Nat.le_of_ble_eq_true rfl) dX4_advance_124 rfl ?_
                refine zr_if_eq 136 dX4_advance_127 (by decide) (fun hc => ?_) (fun hc => ?_)
                · rw [if_pos hc] at hf
                  cases hf
                  exact zr_lv [0, 1] rfl hj50
                · rw [if_neg hc] at hf
                  refine zr_iinc (j := 1) (x1_46 + 1) [(1, .int (x1_46 + 1)), (0, .ref x0)] dX4_advance_130 rfl rfl (Nat.le_of_ble_eq_true rfl) rfl ?_
                  refine zr_goto 110 dX4_advance_133 (by decide) ?_
                  exact zr_lv [1, 0] rfl (ih48 (x1_46 + 1) hf)
          exact zr_lv [0, 1] rfl (hL59 _ x1_6 hf)
      · rw [if_neg hc] at hf
        replace hf := zb1_s hf
        obtain ⟨x1_69, hg, hf⟩ := hf
        have hj70 : zz K cX4_advance (2, RX4, none, 1, 0, 0, none, mo) 0 0 90 [(0, .ref x0), (1, .int x1_69)] [] m17 := by
          refine zr_aload_n 0 dX4_advance_90 rfl ?_
          refine zr_iconst 1 dX4_advance_91 (by decide) ?_
          replace hf := zb1_s hf
          obtain ⟨m80, h81, hf⟩ := hf
          refine zr_put h81 zk4 (by decide) zl_270 rfl rfl rfl dX4_advance_92 ?_
          refine zr_goto 181 dX4_advance_95 (by decide) ?_
          cases hf
          exact zr_lv [0, 1] rfl hj23
        clear hf
        have hf := hg
        clear hg
        have hL79 : ∀ (n : Nat) (x1_66 : Int32), zf1 (fX4_advance_l64 m17 x0) n x1_66 = some x1_69 → zz K cX4_advance (2, RX4, none, 1, 0, 0, none, mo) 0 0 64 [(0, .ref x0), (1, .int x1_66)] [] m17 := by
          intro n
          induction n with
          | zero => intro x1_66 hf; cases hf
          | succ n ih68 =>
            intro x1_66 hf
            replace hf := zf1_s hf
            generalize zf1 (fX4_advance_l64 m17 x0) n = F67 at hf ih68
            unfold fX4_advance_l64 at hf
            refine zr_iload_n 1 dX4_advance_64 rfl ?_
            refine zr_aload_n 0 dX4_advance_65 rfl ?_
            replace hf := zb1_s hf
            obtain ⟨v71, h72, hf⟩ := hf
            refine zr_get (zm_gI_g h72) zk4 (by decide) zl_269 dX4_advance_66 ?_
            refine zr_icmp_ge 90 dX4_advance_69 (by decide) (fun hc => ?_) (fun hc => ?_)
            · rw [if_pos hc] at hf
              cases hf
              exact zr_lv [0, 1] rfl hj70
            · rw [if_neg hc] at hf
              refine zr_aload_n 0 dX4_advance_72 rfl ?_
              replace hf := zb1_s hf
              obtain ⟨v73, h74, hf⟩ := hf
              refine zr_get (zm_gR_g h74) zk4 (by decide) zl_275 dX4_advance_73 ?_
              refine zr_iload_n 1 dX4_advance_76 rfl ?_
              replace hf := zb1_s hf
              obtain ⟨v75, h76, hf⟩ := hf
              refine zr_bald h76 dX4_advance_77 ?_
              replace hf := zb1_s hf
              obtain ⟨v78, h77, hf⟩ := hf
              refine zr_callS [.int v75] (cX4_isLetter_ok h77) zvs_X4_isLetter zl_301 zl_300 rfl (Nat.le_of_ble_eq_true rfl) (Nat.le_of_ble_eq_true rfl) (Nat.le_of_ble_eq_true rfl) (Nat.le_of_ble_eq_true rfl) dX4_advance_78 rfl ?_
              refine zr_if_eq 90 dX4_advance_81 (by decide) (fun hc => ?_) (fun hc => ?_)
              · rw [if_pos hc] at hf
                cases hf
                exact zr_lv [0, 1] rfl hj70
              · rw [if_neg hc] at hf
                refine zr_iinc (j := 1) (x1_66 + 1) [(1, .int (x1_66 + 1)), (0, .ref x0)] dX4_advance_84 rfl rfl (Nat.le_of_ble_eq_true rfl) rfl ?_
                refine zr_goto 64 dX4_advance_87 (by decide) ?_
                exact zr_lv [1, 0] rfl (ih68 (x1_66 + 1) hf)
        exact zr_lv [0, 1] rfl (hL79 _ x1_6 hf)
    · rw [if_neg hc] at hf
      refine zr_aload_n 0 dX4_advance_44 rfl ?_
      refine zr_iconst 0 dX4_advance_45 (by decide) ?_
      replace hf := zb1_s hf
      obtain ⟨m82, h83, hf⟩ := hf
      refine zr_put h83 zk4 (by decide) zl_270 rfl rfl rfl dX4_advance_46 ?_
      refine zr_goto 181 dX4_advance_49 (by decide) ?_
      cases hf
      exact zr_lv [0, 1] rfl hj23
  clear hf
  have hf := hg
  clear hg
  have hL16 : ∀ (n : Nat) (x1_3 : Int32), zf1 (fX4_advance_l5 μ x0) n x1_3 = some x1_6 → zz K cX4_advance (2, RX4, none, 1, 0, 0, none, mo) 0 0 5 [(0, .ref x0), (1, .int x1_3)] [] μ := by
    intro n
    induction n with
    | zero => intro x1_3 hf; cases hf
    | succ n ih5 =>
      intro x1_3 hf
      replace hf := zf1_s hf
      generalize zf1 (fX4_advance_l5 μ x0) n = F4 at hf ih5
      unfold fX4_advance_l5 at hf
      refine zr_iload_n 1 dX4_advance_5 rfl ?_
      refine zr_aload_n 0 dX4_advance_6 rfl ?_
      replace hf := zb1_s hf
      obtain ⟨v8, h9, hf⟩ := hf
      refine zr_get (zm_gI_g h9) zk4 (by decide) zl_269 dX4_advance_7 ?_
      refine zr_icmp_ge 31 dX4_advance_10 (by decide) (fun hc => ?_) (fun hc => ?_)
      · rw [if_pos hc] at hf
        cases hf
        exact zr_lv [0, 1] rfl hj7
      · rw [if_neg hc] at hf
        refine zr_aload_n 0 dX4_advance_13 rfl ?_
        replace hf := zb1_s hf
        obtain ⟨v10, h11, hf⟩ := hf
        refine zr_get (zm_gR_g h11) zk4 (by decide) zl_275 dX4_advance_14 ?_
        refine zr_iload_n 1 dX4_advance_17 rfl ?_
        replace hf := zb1_s hf
        obtain ⟨v12, h13, hf⟩ := hf
        refine zr_bald h13 dX4_advance_18 ?_
        replace hf := zb1_s hf
        obtain ⟨v15, h14, hf⟩ := hf
        refine zr_callS [.int v12] (cX4_isBlank_ok h14) zvs_X4_isBlank zl_298 zl_297 rfl (Nat.le_of_ble_eq_true rfl) (Nat.le_of_ble_eq_true rfl) (Nat.le_of_ble_eq_true rfl) (Nat.le_of_ble_eq_true rfl) dX4_advance_19 rfl ?_
        refine zr_if_eq 31 dX4_advance_22 (by decide) (fun hc => ?_) (fun hc => ?_)
        · rw [if_pos hc] at hf
          cases hf
          exact zr_lv [0, 1] rfl hj7
        · rw [if_neg hc] at hf
          refine zr_iinc (j := 1) (x1_3 + 1) [(1, .int (x1_3 + 1)), (0, .ref x0)] dX4_advance_25 rfl rfl (Nat.le_of_ble_eq_true rfl) rfl ?_
          refine zr_goto 5 dX4_advance_28 (by decide) ?_
          exact zr_lv [1, 0] rfl (ih5 (x1_3 + 1) hf)
  exact zr_lv [1, 0] rfl (hL16 _ v1 hf)
theorem dX4_spelling_0 : decode cX4_spelling 0 = .ok (.iload_n 0, 1) := by decide +kernel
theorem dX4_spelling_1 : decode cX4_spelling 1 = .ok (.tableswitch 134 0 16 #[83, 86, 89, 92, 95, 98, 101, 104, 107, 110, 113, 116, 119, 122, 125, 128, 131], 83) := by decide +kernel
theorem dX4_spelling_84 : decode cX4_spelling 84 = .ok (.ldc 205, 2) := by decide +kernel
theorem dX4_spelling_86 : decode cX4_spelling 86 = .ok (.areturn, 1) := by decide +kernel
theorem dX4_spelling_87 : decode cX4_spelling 87 = .ok (.ldc 206, 2) := by decide +kernel
theorem dX4_spelling_89 : decode cX4_spelling 89 = .ok (.areturn, 1) := by decide +kernel
theorem dX4_spelling_90 : decode cX4_spelling 90 = .ok (.ldc 207, 2) := by decide +kernel
theorem dX4_spelling_92 : decode cX4_spelling 92 = .ok (.areturn, 1) := by decide +kernel
theorem dX4_spelling_93 : decode cX4_spelling 93 = .ok (.ldc 208, 2) := by decide +kernel
theorem dX4_spelling_95 : decode cX4_spelling 95 = .ok (.areturn, 1) := by decide +kernel
theorem dX4_spelling_96 : decode cX4_spelling 96 = .ok (.ldc 209, 2) := by decide +kernel
theorem dX4_spelling_98 : decode cX4_spelling 98 = .ok (.areturn, 1) := by decide +kernel
theorem dX4_spelling_99 : decode cX4_spelling 99 = .ok (.ldc 211, 2) := by decide +kernel
theorem dX4_spelling_101 : decode cX4_spelling 101 = .ok (.areturn, 1) := by decide +kernel
theorem dX4_spelling_102 : decode cX4_spelling 102 = .ok (.ldc 213, 2) := by decide +kernel
theorem dX4_spelling_104 : decode cX4_spelling 104 = .ok (.areturn, 1) := by decide +kernel
theorem dX4_spelling_105 : decode cX4_spelling 105 = .ok (.ldc 215, 2) := by decide +kernel
theorem dX4_spelling_107 : decode cX4_spelling 107 = .ok (.areturn, 1) := by decide +kernel
theorem dX4_spelling_108 : decode cX4_spelling 108 = .ok (.ldc 217, 2) := by decide +kernel
theorem dX4_spelling_110 : decode cX4_spelling 110 = .ok (.areturn, 1) := by decide +kernel
theorem dX4_spelling_111 : decode cX4_spelling 111 = .ok (.ldc 219, 2) := by decide +kernel
theorem dX4_spelling_113 : decode cX4_spelling 113 = .ok (.areturn, 1) := by decide +kernel
theorem dX4_spelling_114 : decode cX4_spelling 114 = .ok (.ldc 221, 2) := by decide +kernel
theorem dX4_spelling_116 : decode cX4_spelling 116 = .ok (.areturn, 1) := by decide +kernel
theorem dX4_spelling_117 : decode cX4_spelling 117 = .ok (.ldc 223, 2) := by decide +kernel
theorem dX4_spelling_119 : decode cX4_spelling 119 = .ok (.areturn, 1) := by decide +kernel
theorem dX4_spelling_120 : decode cX4_spelling 120 = .ok (.ldc 225, 2) := by decide +kernel
theorem dX4_spelling_122 : decode cX4_spelling 122 = .ok (.areturn, 1) := by decide +kernel
theorem dX4_spelling_123 : decode cX4_spelling 123 = .ok (.ldc 227, 2) := by decide +kernel
theorem dX4_spelling_125 : decode cX4_spelling 125 = .ok (.areturn, 1) := by decide +kernel
theorem dX4_spelling_126 : decode cX4_spelling 126 = .ok (.ldc 229, 2) := by decide +kernel
theorem dX4_spelling_128 : decode cX4_spelling 128 = .ok (.areturn, 1) := by decide +kernel
theorem dX4_spelling_129 : decode cX4_spelling 129 = .ok (.ldc 231, 2) := by decide +kernel
theorem dX4_spelling_131 : decode cX4_spelling 131 = .ok (.areturn, 1) := by decide +kernel
theorem dX4_spelling_132 : decode cX4_spelling 132 = .ok (.ldc 232, 2) := by decide +kernel
theorem dX4_spelling_134 : decode cX4_spelling 134 = .ok (.areturn, 1) := by decide +kernel
theorem dX4_spelling_135 : decode cX4_spelling 135 = .ok (.ldc 234, 2) := by decide +kernel
theorem dX4_spelling_137 : decode cX4_spelling 137 = .ok (.areturn, 1) := by decide +kernel
noncomputable def fX4_spelling (μ : zM) (x0 : Int32) : Option (Option Nat) :=
  if x0 = 0 then (
  some (some (μ.2.2 (10 + 0))))
  else (
  if x0 = 1 then (
  some (some (μ.2.2 (10 + 1))))
  else (
  if x0 = 2 then (
  some (some (μ.2.2 (10 + 2))))
  else (
  if x0 = 3 then (
  some (some (μ.2.2 (10 + 3))))
  else (
  if x0 = 4 then (
  some (some (μ.2.2 (10 + 4))))
  else (
  if x0 = 5 then (
  some (some (μ.2.2 (10 + 5))))
  else (
  if x0 = 6 then (
  some (some (μ.2.2 (10 + 6))))
  else (
  if x0 = 7 then (
  some (some (μ.2.2 (10 + 7))))
  else (
  if x0 = 8 then (
  some (some (μ.2.2 (10 + 8))))
  else (
  if x0 = 9 then (
  some (some (μ.2.2 (10 + 9))))
  else (
  if x0 = 10 then (
  some (some (μ.2.2 (10 + 10))))
  else (
  if x0 = 11 then (
  some (some (μ.2.2 (10 + 11))))
  else (
  if x0 = 12 then (
  some (some (μ.2.2 (10 + 12))))
  else (
  if x0 = 13 then (
  some (some (μ.2.2 (10 + 13))))
  else (
  if x0 = 14 then (
  some (some (μ.2.2 (10 + 14))))
  else (
  if x0 = 15 then (
  some (some (μ.2.2 (10 + 15))))
  else (
  if x0 = 16 then (
  some (some (μ.2.2 (10 + 16))))
  else (
  some (some (μ.2.2 (10 + 17))))))))))))))))))))
set_option maxHeartbeats 4000000 in
set_option maxRecDepth 100000 in
theorem cX4_spelling_ok {μ : zM} {x0 : Int32} {r : Option Nat} (hf : fX4_spelling μ x0 = some r) : zC yX4_spelling cX4_spelling 1 (some (.object "java/lang/String")) 0 0 0 [.int x0] μ (some (va_rf r)) μ := by
  unfold fX4_spelling at hf
  refine zC.of (by decide) (Nat.le_of_ble_eq_true rfl) (fun K hin => ?_)
  clear hin
  show zz K cX4_spelling (1, RX4, some (.object "java/lang/String"), 0, 0, 0, some (va_rf r), μ) 0 0 0 [(0, .int x0)] [] μ
  refine zr_iload_n 0 dX4_spelling_0 rfl ?_
  rcases zdec (x0 = 0) with hs1 | hs1
  · rw [if_pos hs1] at hf
    refine zr_tableIn (off := 83) 84 dX4_spelling_1 (by rw [hs1]; decide) (by rw [hs1]; decide) (by rw [hs1]; rfl) (by decide) ?_
    refine zr_ldcS (i := 0) (by decide) rfl dX4_spelling_84 ?_
    cases hf
    exact zr_aret (v := (some (μ.2.2 (10 + 0)))) dX4_spelling_86
  rw [if_neg hs1] at hf
  rcases zdec (x0 = 1) with hs2 | hs2
  · rw [if_pos hs2] at hf
    refine zr_tableIn (off := 86) 87 dX4_spelling_1 (by rw [hs2]; decide) (by rw [hs2]; decide) (by rw [hs2]; rfl) (by decide) ?_
    refine zr_ldcS (i := 1) (by decide) rfl dX4_spelling_87 ?_
    cases hf
    exact zr_aret (v := (some (μ.2.2 (10 + 1)))) dX4_spelling_89
  rw [if_neg hs2] at hf
  rcases zdec (x0 = 2) with hs3 | hs3
  · rw [if_pos hs3] at hf
    refine zr_tableIn (off := 89) 90 dX4_spelling_1 (by rw [hs3]; decide) (by rw [hs3]; decide) (by rw [hs3]; rfl) (by decide) ?_
    refine zr_ldcS (i := 2) (by decide) rfl dX4_spelling_90 ?_
    cases hf
    exact zr_aret (v := (some (μ.2.2 (10 + 2)))) dX4_spelling_92
  rw [if_neg hs3] at hf
  rcases zdec (x0 = 3) with hs4 | hs4
  · rw [if_pos hs4] at hf
    refine zr_tableIn (off := 92) 93 dX4_spelling_1 (by rw [hs4]; decide) (by rw [hs4]; decide) (by rw [hs4]; rfl) (by decide) ?_
    refine zr_ldcS (i := 3) (by decide) rfl dX4_spelling_93 ?_
    cases hf
    exact zr_aret (v := (some (μ.2.2 (10 + 3)))) dX4_spelling_95
  rw [if_neg hs4] at hf
  rcases zdec (x0 = 4) with hs5 | hs5
  · rw [if_pos hs5] at hf
    refine zr_tableIn (off := 95) 96 dX4_spelling_1 (by rw [hs5]; decide) (by rw [hs5]; decide) (by rw [hs5]; rfl) (by decide) ?_
    refine zr_ldcS (i := 4) (by decide) rfl dX4_spelling_96 ?_
    cases hf
    exact zr_aret (v := (some (μ.2.2 (10 + 4)))) dX4_spelling_98
  rw [if_neg hs5] at hf
  rcases zdec (x0 = 5) with hs6 | hs6
  · rw [if_pos hs6] at hf
    refine zr_tableIn (off := 98) 99 dX4_spelling_1 (by rw [hs6]; decide) (by rw [hs6]; decide) (by rw [hs6]; rfl) (by decide) ?_
    refine zr_ldcS (i := 5) (by decide) rfl dX4_spelling_99 ?_
    cases hf
    exact zr_aret (v := (some (μ.2.2 (10 + 5)))) dX4_spelling_101
  rw [if_neg hs6] at hf
  rcases zdec (x0 = 6) with hs7 | hs7
  · rw [if_pos hs7] at hf
    refine zr_tableIn (off := 101) 102 dX4_spelling_1 (by rw [hs7]; decide) (by rw [hs7]; decide) (by rw [hs7]; rfl) (by decide) ?_
    refine zr_ldcS (i := 6) (by decide) rfl dX4_spelling_102 ?_
    cases hf
    exact zr_aret (v := (some (μ.2.2 (10 + 6)))) dX4_spelling_104
  rw [if_neg hs7] at hf
  rcases zdec (x0 = 7) with hs8 | hs8
  · rw [if_pos hs8] at hf
    refine zr_tableIn (off := 104) 105 dX4_spelling_1 (by rw [hs8]; decide) (by rw [hs8]; decide) (by rw [hs8]; rfl) (by decide) ?_
    refine zr_ldcS (i := 7) (by decide) rfl dX4_spelling_105 ?_
    cases hf
    exact zr_aret (v := (some (μ.2.2 (10 + 7)))) dX4_spelling_107
  rw [if_neg hs8] at hf
  rcases zdec (x0 = 8) with hs9 | hs9
  · rw [if_pos hs9] at hf
    refine zr_tableIn (off := 107) 108 dX4_spelling_1 (by rw [hs9]; decide) (by rw [hs9]; decide) (by rw [hs9]; rfl) (by decide) ?_
    refine zr_ldcS (i := 8) (by decide) rfl dX4_spelling_108 ?_
    cases hf
    exact zr_aret (v := (some (μ.2.2 (10 + 8)))) dX4_spelling_110
  rw [if_neg hs9] at hf
  rcases zdec (x0 = 9) with hs10 | hs10
  · rw [if_pos hs10] at hf
    refine zr_tableIn (off := 110) 111 dX4_spelling_1 (by rw [hs10]; decide) (by rw [hs10]; decide) (by rw [hs10]; rfl) (by decide) ?_
    refine zr_ldcS (i := 9) (by decide) rfl dX4_spelling_111 ?_
    cases hf
    exact zr_aret (v := (some (μ.2.2 (10 + 9)))) dX4_spelling_113
  rw [if_neg hs10] at hf
  rcases zdec (x0 = 10) with hs11 | hs11
  · rw [if_pos hs11] at hf
    refine zr_tableIn (off := 113) 114 dX4_spelling_1 (by rw [hs11]; decide) (by rw [hs11]; decide) (by rw [hs11]; rfl) (by decide) ?_
    refine zr_ldcS (i := 10) (by decide) rfl dX4_spelling_114 ?_
    cases hf
    exact zr_aret (v := (some (μ.2.2 (10 + 10)))) dX4_spelling_116
  rw [if_neg hs11] at hf
  rcases zdec (x0 = 11) with hs12 | hs12
  · rw [if_pos hs12] at hf
    refine zr_tableIn (off := 116) 117 dX4_spelling_1 (by rw [hs12]; decide) (by rw [hs12]; decide) (by rw [hs12]; rfl) (by decide) ?_
    refine zr_ldcS (i := 11) (by decide) rfl dX4_spelling_117 ?_
    cases hf
    exact zr_aret (v := (some (μ.2.2 (10 + 11)))) dX4_spelling_119
  rw [if_neg hs12] at hf
  rcases zdec (x0 = 12) with hs13 | hs13
  · rw [if_pos hs13] at hf
    refine zr_tableIn (off := 119) 120 dX4_spelling_1 (by rw [hs13]; decide) (by rw [hs13]; decide) (by rw [hs13]; rfl) (by decide) ?_
    refine zr_ldcS (i := 12) (by decide) rfl dX4_spelling_120 ?_
    cases hf
    exact zr_aret (v := (some (μ.2.2 (10 + 12)))) dX4_spelling_122
  rw [if_neg hs13] at hf
  rcases zdec (x0 = 13) with hs14 | hs14
  · rw [if_pos hs14] at hf
    refine zr_tableIn (off := 122) 123 dX4_spelling_1 (by rw [hs14]; decide) (by rw [hs14]; decide) (by rw [hs14]; rfl) (by decide) ?_
    refine zr_ldcS (i := 13) (by decide) rfl dX4_spelling_123 ?_
    cases hf
    exact zr_aret (v := (some (μ.2.2 (10 + 13)))) dX4_spelling_125
  rw [if_neg hs14] at hf
  rcases zdec (x0 = 14) with hs15 | hs15
  · rw [if_pos hs15] at hf
    refine zr_tableIn (off := 125) 126 dX4_spelling_1 (by rw [hs15]; decide) (by rw [hs15]; decide) (by rw [hs15]; rfl) (by decide) ?_
    refine zr_ldcS (i := 14) (by decide) rfl dX4_spelling_126 ?_
    cases hf
    exact zr_aret (v := (some (μ.2.2 (10 + 14)))) dX4_spelling_128
  rw [if_neg hs15] at hf
  rcases zdec (x0 = 15) with hs16 | hs16
  · rw [if_pos hs16] at hf
    refine zr_tableIn (off := 128) 129 dX4_spelling_1 (by rw [hs16]; decide) (by rw [hs16]; decide) (by rw [hs16]; rfl) (by decide) ?_
    refine zr_ldcS (i := 15) (by decide) rfl dX4_spelling_129 ?_
    cases hf
    exact zr_aret (v := (some (μ.2.2 (10 + 15)))) dX4_spelling_131
  rw [if_neg hs16] at hf
  rcases zdec (x0 = 16) with hs17 | hs17
  · rw [if_pos hs17] at hf
    refine zr_tableIn (off := 131) 132 dX4_spelling_1 (by rw [hs17]; decide) (by rw [hs17]; decide) (by rw [hs17]; rfl) (by decide) ?_
    refine zr_ldcS (i := 16) (by decide) rfl dX4_spelling_132 ?_
    cases hf
    exact zr_aret (v := (some (μ.2.2 (10 + 16)))) dX4_spelling_134
  rw [if_neg hs17] at hf
  refine zr_tableOut 135 dX4_spelling_1 (by simp only [← Int32.toInt_inj] at hs1 hs2 hs3 hs4 hs5 hs6 hs7 hs8 hs9 hs10 hs11 hs12 hs13 hs14 hs15 hs16 hs17; simp at hs1 hs2 hs3 hs4 hs5 hs6 hs7 hs8 hs9 hs10 hs11 hs12 hs13 hs14 hs15 hs16 hs17; omega) (by decide) ?_
  refine zr_ldcS (i := 17) (by decide) rfl dX4_spelling_135 ?_
  cases hf
  exact zr_aret (v := (some (μ.2.2 (10 + 17)))) dX4_spelling_137
theorem zl_305 : Cond.fieldLink RJ0 38 "java/lang/String" "COMPACT_STRINGS" "Z" ∈ zt := zt_at 613 (by decide +kernel)
theorem zl_306 : Cond.fieldLink RJ0 15 "java/lang/String" "coder" "B" ∈ zt := zt_at 2034 (by decide +kernel)
theorem dJ0_coder_7d493_0 : decode cJ0_coder_7d493 0 = .ok (.getstatic 38, 3) := by decide +kernel
theorem dJ0_coder_7d493_3 : decode cJ0_coder_7d493 3 = .ok (.ifCond .eq 10, 3) := by decide +kernel
theorem dJ0_coder_7d493_6 : decode cJ0_coder_7d493 6 = .ok (.aload_n 0, 1) := by decide +kernel
theorem dJ0_coder_7d493_7 : decode cJ0_coder_7d493 7 = .ok (.getfield 15, 3) := by decide +kernel
theorem dJ0_coder_7d493_10 : decode cJ0_coder_7d493 10 = .ok (.goto 4, 3) := by decide +kernel
theorem dJ0_coder_7d493_13 : decode cJ0_coder_7d493 13 = .ok (.iconst 1, 1) := by decide +kernel
theorem dJ0_coder_7d493_14 : decode cJ0_coder_7d493 14 = .ok (.ireturn, 1) := by decide +kernel
noncomputable def fJ0_coder_7d493 (μ : zM) (x0 : Nat) : Option (Int32) := zgd (zm_cks μ x0) <|
  zb1 (if (1 : Int32) = 0 then (
  some 1)
  else (
  some 0) : Option (Int32)) fun (s1 : Int32) =>
  zb1 (znr .byte s1) fun v3 =>
  some v3
theorem fJ0_coder_7d493_ck {μ : zM} {x0 : Nat} {z : Int32} (h : fJ0_coder_7d493 μ x0 = some z) : zm_cks μ x0 = true := (zgd_s h).1
set_option maxHeartbeats 4000000 in
set_option maxRecDepth 100000 in
theorem cJ0_coder_7d493_ok {μ : zM} {x0 : Nat} {r : Int32} (hf : fJ0_coder_7d493 μ x0 = some r) : zC yJ0_coder_7d493 cJ0_coder_7d493 1 (some .byte) 0 0 0 [.ref x0] μ (some (.int r)) μ := by
  have hck := (zgd_s hf).1
  replace hf := (zgd_s hf).2
  refine zC.of (by decide) (Nat.le_of_ble_eq_true rfl) (fun K hin => ?_)
  clear hin
  show zz K cJ0_coder_7d493 (1, RJ0, some .byte, 0, 0, 0, some (.int r), μ) 0 0 0 [(0, .ref x0)] [] μ
  refine zr_getCS zl_305 dJ0_coder_7d493_0 ?_
  replace hf := zb1_s hf
  obtain ⟨s1, hg, hf⟩ := hf
  have hj2 : zz K cJ0_coder_7d493 (1, RJ0, some .byte, 0, 0, 0, some (.int r), μ) 0 0 14 [] [.int s1] μ := by
    replace hf := zb1_s hf
    obtain ⟨v3, hn4, hf⟩ := hf
    replace hn4 := znr_s hn4
    obtain ⟨hn4, rfl⟩ := hn4
    cases hf
    exact zr_zret hn4 dJ0_coder_7d493_14
  clear hf
  have hf := hg
  clear hg
  refine zr_if_eq 13 dJ0_coder_7d493_3 (by decide) (fun hc => ?_) (fun hc => ?_)
  · rw [if_pos hc] at hf
    refine zr_iconst 1 dJ0_coder_7d493_13 (by decide) ?_
    cases hf
    exact zr_lv [] rfl hj2
  · rw [if_neg hc] at hf
    refine zr_aload_n 0 dJ0_coder_7d493_6 rfl ?_
    refine zr_strC hck zl_306 dJ0_coder_7d493_7 ?_
    refine zr_goto 14 dJ0_coder_7d493_10 (by decide) ?_
    cases hf
    exact zr_lv [] rfl hj2
theorem zl_307 : Cond.fieldLink RJ0 9 "java/lang/String" "value" "[B" ∈ zt := zt_at 2033 (by decide +kernel)
theorem zl_308 : Cond.code yJ0_coder_7d493 cJ0_coder_7d493 1 (some .byte) ∈ zt := zt_at 612 (by decide +kernel)
theorem zl_309 : Cond.initialized RJ0 ∈ zt := zt_at 143 (by decide +kernel)
theorem zvs_J0_coder_7d493 : zvS yJ0_coder_7d493 cJ0_coder_7d493 1 (some .byte) 0 := ⟨zl_308, zl_309, ⟨by decide +kernel, by decide +kernel, by decide +kernel⟩, by decide⟩
theorem zl_310 : Cond.methodLink RJ0 335 yJ0_coder_7d493 ∈ zt := zt_at 609 (by decide +kernel)
theorem zl_311 : Cond.instanceMethod yJ0_coder_7d493 ∈ zt := zt_at 610 (by decide +kernel)
theorem zl_312 : Cond.selects RJ0 yJ0_coder_7d493 yJ0_coder_7d493 ∈ zt := zt_at 611 (by decide +kernel)
theorem dJ0_length_8abf5_0 : decode cJ0_length_8abf5 0 = .ok (.aload_n 0, 1) := by decide +kernel
theorem dJ0_length_8abf5_1 : decode cJ0_length_8abf5 1 = .ok (.getfield 9, 3) := by decide +kernel
theorem dJ0_length_8abf5_4 : decode cJ0_length_8abf5 4 = .ok (.arraylength, 1) := by decide +kernel
theorem dJ0_length_8abf5_5 : decode cJ0_length_8abf5 5 = .ok (.aload_n 0, 1) := by decide +kernel
theorem dJ0_length_8abf5_6 : decode cJ0_length_8abf5 6 = .ok (.invokevirtual 335, 3) := by decide +kernel
theorem dJ0_length_8abf5_9 : decode cJ0_length_8abf5 9 = .ok (.ishr, 1) := by decide +kernel
theorem dJ0_length_8abf5_10 : decode cJ0_length_8abf5 10 = .ok (.ireturn, 1) := by decide +kernel
noncomputable def fJ0_length_8abf5 (μ : zM) (x0 : Nat) : Option (Int32) := zgd (zm_cks μ x0) <|
  zb1 (zm_str μ x0) fun v1 =>
  zb1 (zm_len μ v1) fun v3 =>
  zb1 (fJ0_coder_7d493 μ x0) fun v6 =>
  some (v3 >>> (v6 &&& 31))
theorem fJ0_length_8abf5_ck {μ : zM} {x0 : Nat} {z : Int32} (h : fJ0_length_8abf5 μ x0 = some z) : zm_cks μ x0 = true := (zgd_s h).1
set_option maxHeartbeats 4000000 in
set_option maxRecDepth 100000 in
theorem cJ0_length_8abf5_ok {μ : zM} {x0 : Nat} {r : Int32} (hf : fJ0_length_8abf5 μ x0 = some r) : zC yJ0_length_8abf5 cJ0_length_8abf5 1 (some .int) 1 0 0 [.ref x0] μ (some (.int r)) μ := by
  have hck := (zgd_s hf).1
  replace hf := (zgd_s hf).2
  refine zC.of (by decide) (Nat.le_of_ble_eq_true rfl) (fun K hin => ?_)
  clear hin
  show zz K cJ0_length_8abf5 (1, RJ0, some .int, 1, 0, 0, some (.int r), μ) 0 0 0 [(0, .ref x0)] [] μ
  refine zr_aload_n 0 dJ0_length_8abf5_0 rfl ?_
  replace hf := zb1_s hf
  obtain ⟨v1, h2, hf⟩ := hf
  refine zr_strV h2 zl_307 dJ0_length_8abf5_1 ?_
  replace hf := zb1_s hf
  obtain ⟨v3, h4, hf⟩ := hf
  refine zr_alen h4 dJ0_length_8abf5_4 ?_
  refine zr_aload_n 0 dJ0_length_8abf5_5 rfl ?_
  replace hf := zb1_s hf
  obtain ⟨v6, h5, hf⟩ := hf
  refine zr_callVS [] (cJ0_coder_7d493_ok h5) zvs_J0_coder_7d493 zl_311 zl_312 (fJ0_coder_7d493_ck h5) rfl zl_310 rfl (Nat.le_of_ble_eq_true rfl) (Nat.le_of_ble_eq_true rfl) (Nat.le_of_ble_eq_true rfl) (Nat.le_of_ble_eq_true rfl) dJ0_length_8abf5_6 rfl ?_
  refine zr_ishr dJ0_length_8abf5_9 ?_
  cases hf
  exact zr_iret dJ0_length_8abf5_10
theorem dJ0_isLatin1_aae02_0 : decode cJ0_isLatin1_aae02 0 = .ok (.getstatic 38, 3) := by decide +kernel
theorem dJ0_isLatin1_aae02_3 : decode cJ0_isLatin1_aae02 3 = .ok (.ifCond .eq 14, 3) := by decide +kernel
theorem dJ0_isLatin1_aae02_6 : decode cJ0_isLatin1_aae02 6 = .ok (.aload_n 0, 1) := by decide +kernel
theorem dJ0_isLatin1_aae02_7 : decode cJ0_isLatin1_aae02 7 = .ok (.getfield 15, 3) := by decide +kernel
theorem dJ0_isLatin1_aae02_10 : decode cJ0_isLatin1_aae02 10 = .ok (.ifCond .ne 7, 3) := by decide +kernel
theorem dJ0_isLatin1_aae02_13 : decode cJ0_isLatin1_aae02 13 = .ok (.iconst 1, 1) := by decide +kernel
theorem dJ0_isLatin1_aae02_14 : decode cJ0_isLatin1_aae02 14 = .ok (.goto 4, 3) := by decide +kernel
theorem dJ0_isLatin1_aae02_17 : decode cJ0_isLatin1_aae02 17 = .ok (.iconst 0, 1) := by decide +kernel
theorem dJ0_isLatin1_aae02_18 : decode cJ0_isLatin1_aae02 18 = .ok (.ireturn, 1) := by decide +kernel
noncomputable def fJ0_isLatin1_aae02 (μ : zM) (x0 : Nat) : Option (Int32) := zgd (zm_cks μ x0) <|
  zb1 (if (1 : Int32) = 0 then (
  some 0)
  else (
  if (0 : Int32) = 0 then (
  some 1)
  else (
  some 0)) : Option (Int32)) fun (s1 : Int32) =>
  zb1 (zbz s1) fun v3 =>
  some v3
theorem fJ0_isLatin1_aae02_ck {μ : zM} {x0 : Nat} {z : Int32} (h : fJ0_isLatin1_aae02 μ x0 = some z) : zm_cks μ x0 = true := (zgd_s h).1
set_option maxHeartbeats 4000000 in
set_option maxRecDepth 100000 in
theorem cJ0_isLatin1_aae02_ok {μ : zM} {x0 : Nat} {r : Int32} (hf : fJ0_isLatin1_aae02 μ x0 = some r) : zC yJ0_isLatin1_aae02 cJ0_isLatin1_aae02 1 (some .boolean) 0 0 0 [.ref x0] μ (some (.int r)) μ := by
  have hck := (zgd_s hf).1
  replace hf := (zgd_s hf).2
  refine zC.of (by decide) (Nat.le_of_ble_eq_true rfl) (fun K hin => ?_)
  clear hin
  show zz K cJ0_isLatin1_aae02 (1, RJ0, some .boolean, 0, 0, 0, some (.int r), μ) 0 0 0 [(0, .ref x0)] [] μ
  refine zr_getCS zl_305 dJ0_isLatin1_aae02_0 ?_
  replace hf := zb1_s hf
  obtain ⟨s1, hg, hf⟩ := hf
  have hj2 : zz K cJ0_isLatin1_aae02 (1, RJ0, some .boolean, 0, 0, 0, some (.int r), μ) 0 0 18 [] [.int s1] μ := by
    replace hf := zb1_s hf
    obtain ⟨v3, hn4, hf⟩ := hf
    replace hn4 := zbz_s hn4
    obtain ⟨hn4, rfl⟩ := hn4
    cases hf
    exact zr_zret hn4 dJ0_isLatin1_aae02_18
  clear hf
  have hf := hg
  clear hg
  refine zr_if_eq 17 dJ0_isLatin1_aae02_3 (by decide) (fun hc => ?_) (fun hc => ?_)
  · rw [if_pos hc] at hf
    refine zr_iconst 0 dJ0_isLatin1_aae02_17 (by decide) ?_
    cases hf
    exact zr_lv [] rfl hj2
  · rw [if_neg hc] at hf
    refine zr_aload_n 0 dJ0_isLatin1_aae02_6 rfl ?_
    refine zr_strC hck zl_306 dJ0_isLatin1_aae02_7 ?_
    refine zr_if_ne 17 dJ0_isLatin1_aae02_10 (by decide) (fun hc => ?_) (fun hc => ?_)
    · rw [if_neg hc] at hf
      refine zr_iconst 0 dJ0_isLatin1_aae02_17 (by decide) ?_
      cases hf
      exact zr_lv [] rfl hj2
    · rw [if_pos hc] at hf
      refine zr_iconst 1 dJ0_isLatin1_aae02_13 (by decide) ?_
      refine zr_goto 18 dJ0_isLatin1_aae02_14 (by decide) ?_
      cases hf
      exact zr_lv [] rfl hj2
theorem dJ3_checkIndex_8e157_0 : decode cJ3_checkIndex_8e157 0 = .ok (.iload_n 0, 1) := by decide +kernel
theorem dJ3_checkIndex_8e157_1 : decode cJ3_checkIndex_8e157 1 = .ok (.ifCond .lt 8, 3) := by decide +kernel
theorem dJ3_checkIndex_8e157_4 : decode cJ3_checkIndex_8e157 4 = .ok (.iload_n 0, 1) := by decide +kernel
theorem dJ3_checkIndex_8e157_5 : decode cJ3_checkIndex_8e157 5 = .ok (.iload_n 1, 1) := by decide +kernel
theorem dJ3_checkIndex_8e157_6 : decode cJ3_checkIndex_8e157 6 = .ok (.if_icmp .lt 10, 3) := by decide +kernel
theorem dJ3_checkIndex_8e157_9 : decode cJ3_checkIndex_8e157 9 = .ok (.aload_n 2, 1) := by decide +kernel
theorem dJ3_checkIndex_8e157_10 : decode cJ3_checkIndex_8e157 10 = .ok (.iload_n 0, 1) := by decide +kernel
theorem dJ3_checkIndex_8e157_11 : decode cJ3_checkIndex_8e157 11 = .ok (.iload_n 1, 1) := by decide +kernel
theorem dJ3_checkIndex_8e157_12 : decode cJ3_checkIndex_8e157 12 = .ok (.invokestatic 95, 3) := by decide +kernel
theorem dJ3_checkIndex_8e157_15 : decode cJ3_checkIndex_8e157 15 = .ok (.athrow, 1) := by decide +kernel
theorem dJ3_checkIndex_8e157_16 : decode cJ3_checkIndex_8e157 16 = .ok (.iload_n 0, 1) := by decide +kernel
theorem dJ3_checkIndex_8e157_17 : decode cJ3_checkIndex_8e157 17 = .ok (.ireturn, 1) := by decide +kernel
noncomputable def fJ3_checkIndex_8e157_b9  : Option (Int32) :=
  none
noncomputable def fJ3_checkIndex_8e157 (μ : zM) (x0 : Int32) (x1 : Int32) (x2 : Option Nat) : Option (Int32) :=
  if x0 < 0 then (
  fJ3_checkIndex_8e157_b9)
  else (
  if x0 < x1 then (
  some x0)
  else (
  fJ3_checkIndex_8e157_b9))
set_option maxHeartbeats 4000000 in
set_option maxRecDepth 100000 in
theorem cJ3_checkIndex_8e157_ok {μ : zM} {x0 : Int32} {x1 : Int32} {x2 : Option Nat} {r : Int32} (hf : fJ3_checkIndex_8e157 μ x0 x1 x2 = some r) : zC yJ3_checkIndex_8e157 cJ3_checkIndex_8e157 3 (some .int) 0 0 0 [.int x0, .int x1, va_rf x2] μ (some (.int r)) μ := by
  unfold fJ3_checkIndex_8e157 at hf
  refine zC.of (by decide) (by cases x2 <;> exact Nat.le_of_ble_eq_true rfl) (fun K hin => ?_)
  clear hin
  show zz K cJ3_checkIndex_8e157 (3, RJ3, some .int, 0, 0, 0, some (.int r), μ) 0 0 0 [(0, .int x0), (1, .int x1), (2, va_rf x2)] [] μ
  refine zr_iload_n 0 dJ3_checkIndex_8e157_0 rfl ?_
  have hb1 : ∀ (_ : Unit), fJ3_checkIndex_8e157_b9 = some r → zz K cJ3_checkIndex_8e157 (3, RJ3, some .int, 0, 0, 0, some (.int r), μ) 0 0 9 [(0, .int x0), (1, .int x1), (2, va_rf x2)] [] μ := by
    intro _ hf
    unfold fJ3_checkIndex_8e157_b9 at hf
    refine zr_oload_n 2 dJ3_checkIndex_8e157_9 rfl ?_
    refine zr_iload_n 0 dJ3_checkIndex_8e157_10 rfl ?_
    refine zr_iload_n 1 dJ3_checkIndex_8e157_11 rfl ?_
    cases hf
  refine zr_if_lt 9 dJ3_checkIndex_8e157_1 (by decide) (fun hc => ?_) (fun hc => ?_)
  · rw [if_pos hc] at hf
    exact zr_lv [0, 1, 2] rfl (hb1 () hf)
  · rw [if_neg hc] at hf
    refine zr_iload_n 0 dJ3_checkIndex_8e157_4 rfl ?_
    refine zr_iload_n 1 dJ3_checkIndex_8e157_5 rfl ?_
    refine zr_icmp_lt 16 dJ3_checkIndex_8e157_6 (by decide) (fun hc => ?_) (fun hc => ?_)
    · rw [if_pos hc] at hf
      refine zr_iload_n 0 dJ3_checkIndex_8e157_16 rfl ?_
      cases hf
      exact zr_iret dJ3_checkIndex_8e157_17
    · rw [if_neg hc] at hf
      exact zr_lv [0, 1, 2] rfl (hb1 () hf)
theorem zl_313 : Cond.fieldLink RJ0 1053 "jdk/internal/util/Preconditions" "SIOOBE_FORMATTER" "Ljava/util/function/BiFunction;" ∈ zt := zt_at 629 (by decide +kernel)
theorem zl_314 : Cond.code yJ3_checkIndex_8e157 cJ3_checkIndex_8e157 3 (some .int) ∈ zt := zt_at 633 (by decide +kernel)
theorem zl_315 : Cond.initialized RJ3 ∈ zt := zt_at 145 (by decide +kernel)
theorem zvs_J3_checkIndex_8e157 : zvS yJ3_checkIndex_8e157 cJ3_checkIndex_8e157 3 (some .int) 3 := ⟨zl_314, zl_315, ⟨by decide +kernel, by decide +kernel, by decide +kernel⟩, by decide⟩
theorem zl_316 : Cond.methodLink RJ0 1059 yJ3_checkIndex_8e157 ∈ zt := zt_at 631 (by decide +kernel)
theorem zl_317 : Cond.static yJ3_checkIndex_8e157 ∈ zt := zt_at 632 (by decide +kernel)
theorem dJ0_checkIndex_df160_0 : decode cJ0_checkIndex_df160 0 = .ok (.iload_n 0, 1) := by decide +kernel
theorem dJ0_checkIndex_df160_1 : decode cJ0_checkIndex_df160 1 = .ok (.iload_n 1, 1) := by decide +kernel
theorem dJ0_checkIndex_df160_2 : decode cJ0_checkIndex_df160 2 = .ok (.getstatic 1053, 3) := by decide +kernel
theorem dJ0_checkIndex_df160_5 : decode cJ0_checkIndex_df160 5 = .ok (.invokestatic 1059, 3) := by decide +kernel
theorem dJ0_checkIndex_df160_8 : decode cJ0_checkIndex_df160 8 = .ok (.pop, 1) := by decide +kernel
theorem dJ0_checkIndex_df160_9 : decode cJ0_checkIndex_df160 9 = .ok (.return_, 1) := by decide +kernel
noncomputable def fJ0_checkIndex_df160 (μ : zM) (x0 : Int32) (x1 : Int32) : Option (Unit) :=
  zb1 (fJ3_checkIndex_8e157 μ x0 x1 (zfm μ.2.2)) fun v2 =>
  some ()
set_option maxHeartbeats 4000000 in
set_option maxRecDepth 100000 in
theorem cJ0_checkIndex_df160_ok {μ : zM} {x0 : Int32} {x1 : Int32} (hf : fJ0_checkIndex_df160 μ x0 x1 = some ()) : zC yJ0_checkIndex_df160 cJ0_checkIndex_df160 2 (none) 1 0 0 [.int x0, .int x1] μ (none) μ := by
  unfold fJ0_checkIndex_df160 at hf
  refine zC.of (by decide) (Nat.le_of_ble_eq_true rfl) (fun K hin => ?_)
  clear hin
  show zz K cJ0_checkIndex_df160 (2, RJ0, none, 1, 0, 0, none, μ) 0 0 0 [(0, .int x0), (1, .int x1)] [] μ
  refine zr_iload_n 0 dJ0_checkIndex_df160_0 rfl ?_
  refine zr_iload_n 1 dJ0_checkIndex_df160_1 rfl ?_
  refine zr_getFM zl_313 dJ0_checkIndex_df160_2 ?_
  replace hf := zb1_s hf
  obtain ⟨v2, h1, hf⟩ := hf
  refine zr_callS [.int x0, .int x1, va_rf (zfm μ.2.2)] (cJ3_checkIndex_8e157_ok h1) zvs_J3_checkIndex_8e157 zl_317 zl_316 rfl (Nat.le_of_ble_eq_true rfl) (Nat.le_of_ble_eq_true rfl) (Nat.le_of_ble_eq_true rfl) (Nat.le_of_ble_eq_true rfl) dJ0_checkIndex_df160_5 rfl ?_
  refine zr_pop dJ0_checkIndex_df160_8 rfl ?_
  cases hf
  exact zr_vret dJ0_checkIndex_df160_9
theorem zl_318 : Cond.code yJ0_checkIndex_df160 cJ0_checkIndex_df160 2 (none) ∈ zt := zt_at 628 (by decide +kernel)
theorem zvs_J0_checkIndex_df160 : zvS yJ0_checkIndex_df160 cJ0_checkIndex_df160 2 (none) 2 := ⟨zl_318, zl_309, ⟨by decide +kernel, by decide +kernel, by decide +kernel⟩, by decide⟩
theorem zl_319 : Cond.methodLink RJ1 9 yJ0_checkIndex_df160 ∈ zt := zt_at 626 (by decide +kernel)
theorem zl_320 : Cond.static yJ0_checkIndex_df160 ∈ zt := zt_at 627 (by decide +kernel)
theorem dJ1_charAt_3b067_0 : decode cJ1_charAt_3b067 0 = .ok (.iload_n 1, 1) := by decide +kernel
theorem dJ1_charAt_3b067_1 : decode cJ1_charAt_3b067 1 = .ok (.aload_n 0, 1) := by decide +kernel
theorem dJ1_charAt_3b067_2 : decode cJ1_charAt_3b067 2 = .ok (.arraylength, 1) := by decide +kernel
theorem dJ1_charAt_3b067_3 : decode cJ1_charAt_3b067 3 = .ok (.invokestatic 9, 3) := by decide +kernel
theorem dJ1_charAt_3b067_6 : decode cJ1_charAt_3b067 6 = .ok (.aload_n 0, 1) := by decide +kernel
theorem dJ1_charAt_3b067_7 : decode cJ1_charAt_3b067 7 = .ok (.iload_n 1, 1) := by decide +kernel
theorem dJ1_charAt_3b067_8 : decode cJ1_charAt_3b067 8 = .ok (.baload, 1) := by decide +kernel
theorem dJ1_charAt_3b067_9 : decode cJ1_charAt_3b067 9 = .ok (.sipush 255, 3) := by decide +kernel
theorem dJ1_charAt_3b067_12 : decode cJ1_charAt_3b067 12 = .ok (.iand, 1) := by decide +kernel
theorem dJ1_charAt_3b067_13 : decode cJ1_charAt_3b067 13 = .ok (.i2c, 1) := by decide +kernel
theorem dJ1_charAt_3b067_14 : decode cJ1_charAt_3b067 14 = .ok (.ireturn, 1) := by decide +kernel
noncomputable def fJ1_charAt_3b067 (μ : zM) (x0 : Nat) (x1 : Int32) : Option (Int32) :=
  zb1 (zm_len μ x0) fun v1 =>
  zb0 (fJ0_checkIndex_df160 μ x1 v1) <|
  zb1 (zm_aI μ 1 x0 x1) fun v4 =>
  zb1 (znr .char (((v4 &&& 255 : Int32).toUInt32 % 65536).toInt32)) fun v6 =>
  some v6
set_option maxHeartbeats 4000000 in
set_option maxRecDepth 100000 in
theorem cJ1_charAt_3b067_ok {μ : zM} {x0 : Nat} {x1 : Int32} {r : Int32} (hf : fJ1_charAt_3b067 μ x0 x1 = some r) : zC yJ1_charAt_3b067 cJ1_charAt_3b067 2 (some .char) 2 0 0 [.ref x0, .int x1] μ (some (.int r)) μ := by
  unfold fJ1_charAt_3b067 at hf
  refine zC.of (by decide) (Nat.le_of_ble_eq_true rfl) (fun K hin => ?_)
  clear hin
  show zz K cJ1_charAt_3b067 (2, RJ1, some .char, 2, 0, 0, some (.int r), μ) 0 0 0 [(0, .ref x0), (1, .int x1)] [] μ
  refine zr_iload_n 1 dJ1_charAt_3b067_0 rfl ?_
  refine zr_aload_n 0 dJ1_charAt_3b067_1 rfl ?_
  replace hf := zb1_s hf
  obtain ⟨v1, h2, hf⟩ := hf
  refine zr_alen h2 dJ1_charAt_3b067_2 ?_
  replace hf := zb0_s hf
  obtain ⟨h3, hf⟩ := hf
  refine zr_callS [.int x1, .int v1] (cJ0_checkIndex_df160_ok h3) zvs_J0_checkIndex_df160 zl_320 zl_319 rfl (Nat.le_of_ble_eq_true rfl) (Nat.le_of_ble_eq_true rfl) (Nat.le_of_ble_eq_true rfl) (Nat.le_of_ble_eq_true rfl) dJ1_charAt_3b067_3 rfl ?_
  refine zr_aload_n 0 dJ1_charAt_3b067_6 rfl ?_
  refine zr_iload_n 1 dJ1_charAt_3b067_7 rfl ?_
  replace hf := zb1_s hf
  obtain ⟨v4, h5, hf⟩ := hf
  refine zr_bald h5 dJ1_charAt_3b067_8 ?_
  refine zr_sipush 255 dJ1_charAt_3b067_9 (by decide) ?_
  refine zr_iand dJ1_charAt_3b067_12 ?_
  refine zr_i2c dJ1_charAt_3b067_13 ?_
  replace hf := zb1_s hf
  obtain ⟨v6, hn7, hf⟩ := hf
  replace hn7 := znr_s hn7
  obtain ⟨hn7, rfl⟩ := hn7
  cases hf
  exact zr_zret hn7 dJ1_charAt_3b067_14
theorem dJ2_length_9d52b_0 : decode cJ2_length_9d52b 0 = .ok (.aload_n 0, 1) := by decide +kernel
theorem dJ2_length_9d52b_1 : decode cJ2_length_9d52b 1 = .ok (.arraylength, 1) := by decide +kernel
theorem dJ2_length_9d52b_2 : decode cJ2_length_9d52b 2 = .ok (.iconst 1, 1) := by decide +kernel
theorem dJ2_length_9d52b_3 : decode cJ2_length_9d52b 3 = .ok (.ishr, 1) := by decide +kernel
theorem dJ2_length_9d52b_4 : decode cJ2_length_9d52b 4 = .ok (.ireturn, 1) := by decide +kernel
noncomputable def fJ2_length_9d52b (μ : zM) (x0 : Nat) : Option (Int32) :=
  zb1 (zm_len μ x0) fun v1 =>
  some (v1 >>> (1 &&& 31))
set_option maxHeartbeats 4000000 in
set_option maxRecDepth 100000 in
theorem cJ2_length_9d52b_ok {μ : zM} {x0 : Nat} {r : Int32} (hf : fJ2_length_9d52b μ x0 = some r) : zC yJ2_length_9d52b cJ2_length_9d52b 1 (some .int) 0 0 0 [.ref x0] μ (some (.int r)) μ := by
  unfold fJ2_length_9d52b at hf
  refine zC.of (by decide) (Nat.le_of_ble_eq_true rfl) (fun K hin => ?_)
  clear hin
  show zz K cJ2_length_9d52b (1, RJ2, some .int, 0, 0, 0, some (.int r), μ) 0 0 0 [(0, .ref x0)] [] μ
  refine zr_aload_n 0 dJ2_length_9d52b_0 rfl ?_
  replace hf := zb1_s hf
  obtain ⟨v1, h2, hf⟩ := hf
  refine zr_alen h2 dJ2_length_9d52b_1 ?_
  refine zr_iconst 1 dJ2_length_9d52b_2 (by decide) ?_
  refine zr_ishr dJ2_length_9d52b_3 ?_
  cases hf
  exact zr_iret dJ2_length_9d52b_4
theorem dJ2_checkIndex_2214a_0 : decode cJ2_checkIndex_2214a 0 = .ok (.iload_n 0, 1) := by decide +kernel
theorem dJ2_checkIndex_2214a_1 : decode cJ2_checkIndex_2214a 1 = .ok (.aload_n 1, 1) := by decide +kernel
theorem dJ2_checkIndex_2214a_2 : decode cJ2_checkIndex_2214a 2 = .ok (.invokestatic 48, 3) := by decide +kernel
theorem dJ2_checkIndex_2214a_5 : decode cJ2_checkIndex_2214a 5 = .ok (.invokestatic 414, 3) := by decide +kernel
theorem dJ2_checkIndex_2214a_8 : decode cJ2_checkIndex_2214a 8 = .ok (.return_, 1) := by decide +kernel
noncomputable def fJ2_checkIndex_2214a (μ : zM) (x0 : Int32) (x1 : Nat) : Option (Unit) :=
  none
set_option maxHeartbeats 4000000 in
set_option maxRecDepth 100000 in
theorem cJ2_checkIndex_2214a_ok {μ : zM} {x0 : Int32} {x1 : Nat} (hf : fJ2_checkIndex_2214a μ x0 x1 = some ()) : zC yJ2_checkIndex_2214a cJ2_checkIndex_2214a 2 (none) 0 0 0 [.int x0, .ref x1] μ (none) μ := by
  unfold fJ2_checkIndex_2214a at hf
  refine zC.of (by decide) (Nat.le_of_ble_eq_true rfl) (fun K hin => ?_)
  clear hin
  show zz K cJ2_checkIndex_2214a (2, RJ2, none, 0, 0, 0, none, μ) 0 0 0 [(0, .int x0), (1, .ref x1)] [] μ
  refine zr_iload_n 0 dJ2_checkIndex_2214a_0 rfl ?_
  refine zr_aload_n 1 dJ2_checkIndex_2214a_1 rfl ?_
  cases hf
theorem dJ2_charAt_3b067_0 : decode cJ2_charAt_3b067 0 = .ok (.iload_n 1, 1) := by decide +kernel
theorem dJ2_charAt_3b067_1 : decode cJ2_charAt_3b067 1 = .ok (.aload_n 0, 1) := by decide +kernel
theorem dJ2_charAt_3b067_2 : decode cJ2_charAt_3b067 2 = .ok (.invokestatic 67, 3) := by decide +kernel
theorem dJ2_charAt_3b067_5 : decode cJ2_charAt_3b067 5 = .ok (.aload_n 0, 1) := by decide +kernel
theorem dJ2_charAt_3b067_6 : decode cJ2_charAt_3b067 6 = .ok (.iload_n 1, 1) := by decide +kernel
theorem dJ2_charAt_3b067_7 : decode cJ2_charAt_3b067 7 = .ok (.invokestatic 71, 3) := by decide +kernel
theorem dJ2_charAt_3b067_10 : decode cJ2_charAt_3b067 10 = .ok (.ireturn, 1) := by decide +kernel
noncomputable def fJ2_charAt_3b067 (μ : zM) (x0 : Nat) (x1 : Int32) : Option (Int32 × zM) :=
  none
set_option maxHeartbeats 4000000 in
set_option maxRecDepth 100000 in
theorem cJ2_charAt_3b067_ok {μ : zM} {x0 : Nat} {x1 : Int32} {r : Int32} {mo : zM} (hf : fJ2_charAt_3b067 μ x0 x1 = some (r, mo)) : zC yJ2_charAt_3b067 cJ2_charAt_3b067 2 (some .char) 0 0 0 [.ref x0, .int x1] μ (some (.int r)) mo := by
  unfold fJ2_charAt_3b067 at hf
  refine zC.of (by decide) (Nat.le_of_ble_eq_true rfl) (fun K hin => ?_)
  clear hin
  show zz K cJ2_charAt_3b067 (2, RJ2, some .char, 0, 0, 0, some (.int r), mo) 0 0 0 [(0, .ref x0), (1, .int x1)] [] μ
  refine zr_iload_n 1 dJ2_charAt_3b067_0 rfl ?_
  refine zr_aload_n 0 dJ2_charAt_3b067_1 rfl ?_
  cases hf
theorem zl_321 : Cond.code yJ0_isLatin1_aae02 cJ0_isLatin1_aae02 1 (some .boolean) ∈ zt := zt_at 622 (by decide +kernel)
theorem zvs_J0_isLatin1_aae02 : zvS yJ0_isLatin1_aae02 cJ0_isLatin1_aae02 1 (some .boolean) 0 := ⟨zl_321, zl_309, ⟨by decide +kernel, by decide +kernel, by decide +kernel⟩, by decide⟩
theorem zl_322 : Cond.methodLink RJ0 492 yJ0_isLatin1_aae02 ∈ zt := zt_at 619 (by decide +kernel)
theorem zl_323 : Cond.instanceMethod yJ0_isLatin1_aae02 ∈ zt := zt_at 620 (by decide +kernel)
theorem zl_324 : Cond.selects RJ0 yJ0_isLatin1_aae02 yJ0_isLatin1_aae02 ∈ zt := zt_at 621 (by decide +kernel)
theorem zl_325 : Cond.code yJ1_charAt_3b067 cJ1_charAt_3b067 2 (some .char) ∈ zt := zt_at 625 (by decide +kernel)
theorem zl_326 : Cond.initialized RJ1 ∈ zt := zt_at 144 (by decide +kernel)
theorem zvs_J1_charAt_3b067 : zvS yJ1_charAt_3b067 cJ1_charAt_3b067 2 (some .char) 2 := ⟨zl_325, zl_326, ⟨by decide +kernel, by decide +kernel, by decide +kernel⟩, by decide⟩
theorem zl_327 : Cond.methodLink RJ0 495 yJ1_charAt_3b067 ∈ zt := zt_at 623 (by decide +kernel)
theorem zl_328 : Cond.static yJ1_charAt_3b067 ∈ zt := zt_at 624 (by decide +kernel)
theorem dJ0_charAt_5068e_0 : decode cJ0_charAt_5068e 0 = .ok (.aload_n 0, 1) := by decide +kernel
theorem dJ0_charAt_5068e_1 : decode cJ0_charAt_5068e 1 = .ok (.invokevirtual 492, 3) := by decide +kernel
theorem dJ0_charAt_5068e_4 : decode cJ0_charAt_5068e 4 = .ok (.ifCond .eq 12, 3) := by decide +kernel
theorem dJ0_charAt_5068e_7 : decode cJ0_charAt_5068e 7 = .ok (.aload_n 0, 1) := by decide +kernel
theorem dJ0_charAt_5068e_8 : decode cJ0_charAt_5068e 8 = .ok (.getfield 9, 3) := by decide +kernel
theorem dJ0_charAt_5068e_11 : decode cJ0_charAt_5068e 11 = .ok (.iload_n 1, 1) := by decide +kernel
theorem dJ0_charAt_5068e_12 : decode cJ0_charAt_5068e 12 = .ok (.invokestatic 495, 3) := by decide +kernel
theorem dJ0_charAt_5068e_15 : decode cJ0_charAt_5068e 15 = .ok (.ireturn, 1) := by decide +kernel
theorem dJ0_charAt_5068e_16 : decode cJ0_charAt_5068e 16 = .ok (.aload_n 0, 1) := by decide +kernel
theorem dJ0_charAt_5068e_17 : decode cJ0_charAt_5068e 17 = .ok (.getfield 9, 3) := by decide +kernel
theorem dJ0_charAt_5068e_20 : decode cJ0_charAt_5068e 20 = .ok (.iload_n 1, 1) := by decide +kernel
theorem dJ0_charAt_5068e_21 : decode cJ0_charAt_5068e 21 = .ok (.invokestatic 498, 3) := by decide +kernel
theorem dJ0_charAt_5068e_24 : decode cJ0_charAt_5068e 24 = .ok (.ireturn, 1) := by decide +kernel
noncomputable def fJ0_charAt_5068e (μ : zM) (x0 : Nat) (x1 : Int32) : Option (Int32) := zgd (zm_cks μ x0) <|
  zb1 (fJ0_isLatin1_aae02 μ x0) fun v2 =>
  if v2 = 0 then (
  zb1 (zm_str μ x0) fun v3 =>
  none)
  else (
  zb1 (zm_str μ x0) fun v5 =>
  zb1 (fJ1_charAt_3b067 μ v5 x1) fun v8 =>
  zb1 (znr .char v8) fun v9 =>
  some v9)
theorem fJ0_charAt_5068e_ck {μ : zM} {x0 : Nat} {x1 : Int32} {z : Int32} (h : fJ0_charAt_5068e μ x0 x1 = some z) : zm_cks μ x0 = true := (zgd_s h).1
set_option maxHeartbeats 4000000 in
set_option maxRecDepth 100000 in
theorem cJ0_charAt_5068e_ok {μ : zM} {x0 : Nat} {x1 : Int32} {r : Int32} (hf : fJ0_charAt_5068e μ x0 x1 = some r) : zC yJ0_charAt_5068e cJ0_charAt_5068e 2 (some .char) 3 0 0 [.ref x0, .int x1] μ (some (.int r)) μ := by
  have hck := (zgd_s hf).1
  replace hf := (zgd_s hf).2
  refine zC.of (by decide) (Nat.le_of_ble_eq_true rfl) (fun K hin => ?_)
  clear hin
  show zz K cJ0_charAt_5068e (2, RJ0, some .char, 3, 0, 0, some (.int r), μ) 0 0 0 [(0, .ref x0), (1, .int x1)] [] μ
  refine zr_aload_n 0 dJ0_charAt_5068e_0 rfl ?_
  replace hf := zb1_s hf
  obtain ⟨v2, h1, hf⟩ := hf
  refine zr_callVS [] (cJ0_isLatin1_aae02_ok h1) zvs_J0_isLatin1_aae02 zl_323 zl_324 (fJ0_isLatin1_aae02_ck h1) rfl zl_322 rfl (Nat.le_of_ble_eq_true rfl) (Nat.le_of_ble_eq_true rfl) (Nat.le_of_ble_eq_true rfl) (Nat.le_of_ble_eq_true rfl) dJ0_charAt_5068e_1 rfl ?_
  refine zr_if_eq 16 dJ0_charAt_5068e_4 (by decide) (fun hc => ?_) (fun hc => ?_)
  · rw [if_pos hc] at hf
    refine zr_aload_n 0 dJ0_charAt_5068e_16 rfl ?_
    replace hf := zb1_s hf
    obtain ⟨v3, h4, hf⟩ := hf
    refine zr_strV h4 zl_307 dJ0_charAt_5068e_17 ?_
    refine zr_iload_n 1 dJ0_charAt_5068e_20 rfl ?_
    cases hf
  · rw [if_neg hc] at hf
    refine zr_aload_n 0 dJ0_charAt_5068e_7 rfl ?_
    replace hf := zb1_s hf
    obtain ⟨v5, h6, hf⟩ := hf
    refine zr_strV h6 zl_307 dJ0_charAt_5068e_8 ?_
    refine zr_iload_n 1 dJ0_charAt_5068e_11 rfl ?_
    replace hf := zb1_s hf
    obtain ⟨v8, h7, hf⟩ := hf
    refine zr_callS [.ref v5, .int x1] (cJ1_charAt_3b067_ok h7) zvs_J1_charAt_3b067 zl_328 zl_327 rfl (Nat.le_of_ble_eq_true rfl) (Nat.le_of_ble_eq_true rfl) (Nat.le_of_ble_eq_true rfl) (Nat.le_of_ble_eq_true rfl) dJ0_charAt_5068e_12 rfl ?_
    replace hf := zb1_s hf
    obtain ⟨v9, hn10, hf⟩ := hf
    replace hn10 := znr_s hn10
    obtain ⟨hn10, rfl⟩ := hn10
    cases hf
    exact zr_zret hn10 dJ0_charAt_5068e_15
theorem zl_329 : Cond.code yJ0_length_8abf5 cJ0_length_8abf5 1 (some .int) ∈ zt := zt_at 608 (by decide +kernel)
theorem zvs_J0_length_8abf5 : zvS yJ0_length_8abf5 cJ0_length_8abf5 1 (some .int) 0 := ⟨zl_329, zl_309, ⟨by decide +kernel, by decide +kernel, by decide +kernel⟩, by decide⟩
theorem zl_330 : Cond.methodLink RX4 197 yJ0_length_8abf5 ∈ zt := zt_at 605 (by decide +kernel)
theorem zl_331 : Cond.instanceMethod yJ0_length_8abf5 ∈ zt := zt_at 606 (by decide +kernel)
theorem zl_332 : Cond.selects RJ0 yJ0_length_8abf5 yJ0_length_8abf5 ∈ zt := zt_at 607 (by decide +kernel)
theorem zl_333 : Cond.code yJ0_charAt_5068e cJ0_charAt_5068e 2 (some .char) ∈ zt := zt_at 618 (by decide +kernel)
theorem zvs_J0_charAt_5068e : zvS yJ0_charAt_5068e cJ0_charAt_5068e 2 (some .char) 1 := ⟨zl_333, zl_309, ⟨by decide +kernel, by decide +kernel, by decide +kernel⟩, by decide⟩
theorem zl_334 : Cond.methodLink RX4 201 yJ0_charAt_5068e ∈ zt := zt_at 615 (by decide +kernel)
theorem zl_335 : Cond.instanceMethod yJ0_charAt_5068e ∈ zt := zt_at 616 (by decide +kernel)
theorem zl_336 : Cond.selects RJ0 yJ0_charAt_5068e yJ0_charAt_5068e ∈ zt := zt_at 617 (by decide +kernel)
theorem dX4_isSpelt_0 : decode cX4_isSpelt 0 = .ok (.aload_n 0, 1) := by decide +kernel
theorem dX4_isSpelt_1 : decode cX4_isSpelt 1 = .ok (.getfield 55, 3) := by decide +kernel
theorem dX4_isSpelt_4 : decode cX4_isSpelt 4 = .ok (.aload_n 0, 1) := by decide +kernel
theorem dX4_isSpelt_5 : decode cX4_isSpelt 5 = .ok (.getfield 52, 3) := by decide +kernel
theorem dX4_isSpelt_8 : decode cX4_isSpelt 8 = .ok (.isub, 1) := by decide +kernel
theorem dX4_isSpelt_9 : decode cX4_isSpelt 9 = .ok (.aload_n 1, 1) := by decide +kernel
theorem dX4_isSpelt_10 : decode cX4_isSpelt 10 = .ok (.invokevirtual 197, 3) := by decide +kernel
theorem dX4_isSpelt_13 : decode cX4_isSpelt 13 = .ok (.if_icmp .eq 5, 3) := by decide +kernel
theorem dX4_isSpelt_16 : decode cX4_isSpelt 16 = .ok (.iconst 0, 1) := by decide +kernel
theorem dX4_isSpelt_17 : decode cX4_isSpelt 17 = .ok (.ireturn, 1) := by decide +kernel
theorem dX4_isSpelt_18 : decode cX4_isSpelt 18 = .ok (.iconst 0, 1) := by decide +kernel
theorem dX4_isSpelt_19 : decode cX4_isSpelt 19 = .ok (.istore_n 2, 1) := by decide +kernel
theorem dX4_isSpelt_20 : decode cX4_isSpelt 20 = .ok (.iload_n 2, 1) := by decide +kernel
theorem dX4_isSpelt_21 : decode cX4_isSpelt 21 = .ok (.aload_n 1, 1) := by decide +kernel
theorem dX4_isSpelt_22 : decode cX4_isSpelt 22 = .ok (.invokevirtual 197, 3) := by decide +kernel
theorem dX4_isSpelt_25 : decode cX4_isSpelt 25 = .ok (.if_icmp .ge 30, 3) := by decide +kernel
theorem dX4_isSpelt_28 : decode cX4_isSpelt 28 = .ok (.aload_n 0, 1) := by decide +kernel
theorem dX4_isSpelt_29 : decode cX4_isSpelt 29 = .ok (.getfield 65, 3) := by decide +kernel
theorem dX4_isSpelt_32 : decode cX4_isSpelt 32 = .ok (.aload_n 0, 1) := by decide +kernel
theorem dX4_isSpelt_33 : decode cX4_isSpelt 33 = .ok (.getfield 52, 3) := by decide +kernel
theorem dX4_isSpelt_36 : decode cX4_isSpelt 36 = .ok (.iload_n 2, 1) := by decide +kernel
theorem dX4_isSpelt_37 : decode cX4_isSpelt 37 = .ok (.iadd, 1) := by decide +kernel
theorem dX4_isSpelt_38 : decode cX4_isSpelt 38 = .ok (.baload, 1) := by decide +kernel
theorem dX4_isSpelt_39 : decode cX4_isSpelt 39 = .ok (.aload_n 1, 1) := by decide +kernel
theorem dX4_isSpelt_40 : decode cX4_isSpelt 40 = .ok (.iload_n 2, 1) := by decide +kernel
theorem dX4_isSpelt_41 : decode cX4_isSpelt 41 = .ok (.invokevirtual 201, 3) := by decide +kernel
theorem dX4_isSpelt_44 : decode cX4_isSpelt 44 = .ok (.if_icmp .eq 5, 3) := by decide +kernel
theorem dX4_isSpelt_47 : decode cX4_isSpelt 47 = .ok (.iconst 0, 1) := by decide +kernel
theorem dX4_isSpelt_48 : decode cX4_isSpelt 48 = .ok (.ireturn, 1) := by decide +kernel
theorem dX4_isSpelt_49 : decode cX4_isSpelt 49 = .ok (.iinc 2 1, 3) := by decide +kernel
theorem dX4_isSpelt_52 : decode cX4_isSpelt 52 = .ok (.goto (-32), 3) := by decide +kernel
theorem dX4_isSpelt_55 : decode cX4_isSpelt 55 = .ok (.iconst 1, 1) := by decide +kernel
theorem dX4_isSpelt_56 : decode cX4_isSpelt 56 = .ok (.ireturn, 1) := by decide +kernel
noncomputable def fX4_isSpelt_l20 (μ : zM) (x1 : Nat) (x0 : Nat) (F8 : Int32 → Option (Int32)) (x2_7 : Int32) : Option (Int32) :=
  zb1 (fJ0_length_8abf5 μ x1) fun v11 =>
  if v11 ≤ x2_7 then (
  some 1)
  else (
  zb1 (zm_gR μ 4 x0 6) fun v12 =>
  zb1 (zm_gI μ 4 x0 9) fun v14 =>
  zb1 (zm_aI μ 1 v12 (v14 + x2_7)) fun v16 =>
  zb1 (fJ0_charAt_5068e μ x1 x2_7) fun v19 =>
  if v16 = v19 then (
  F8 (x2_7 + 1))
  else (
  some 0))
noncomputable def fX4_isSpelt (μ : zM) (x0 : Nat) (x1 : Nat) : Option (Int32) := zgd (zm_ck μ 4 x0) <|
  zb1 (zm_gI μ 4 x0 10) fun v1 =>
  zb1 (zm_gI μ 4 x0 9) fun v3 =>
  zb1 (fJ0_length_8abf5 μ x1) fun v6 =>
  if (v1 - v3) = v6 then (
  zf1 (fX4_isSpelt_l20 μ x1 x0) zfu 0)
  else (
  some 0)
theorem fX4_isSpelt_ck {μ : zM} {x0 : Nat} {x1 : Nat} {z : Int32} (h : fX4_isSpelt μ x0 x1 = some z) : zm_ck μ 4 x0 = true := (zgd_s h).1
set_option maxHeartbeats 4000000 in
set_option maxRecDepth 100000 in
theorem cX4_isSpelt_ok {μ : zM} {x0 : Nat} {x1 : Nat} {r : Int32} (hf : fX4_isSpelt μ x0 x1 = some r) : zC yX4_isSpelt cX4_isSpelt 3 (some .boolean) 4 0 0 [.ref x0, .ref x1] μ (some (.int r)) μ := by
  replace hf := (zgd_s hf).2
  refine zC.of (by decide) (Nat.le_of_ble_eq_true rfl) (fun K hin => ?_)
  clear hin
  show zz K cX4_isSpelt (3, RX4, some .boolean, 4, 0, 0, some (.int r), μ) 0 0 0 [(0, .ref x0), (1, .ref x1)] [] μ
  refine zr_aload_n 0 dX4_isSpelt_0 rfl ?_
  replace hf := zb1_s hf
  obtain ⟨v1, h2, hf⟩ := hf
  refine zr_get (zm_gI_g h2) zk4 (by decide) zl_272 dX4_isSpelt_1 ?_
  refine zr_aload_n 0 dX4_isSpelt_4 rfl ?_
  replace hf := zb1_s hf
  obtain ⟨v3, h4, hf⟩ := hf
  refine zr_get (zm_gI_g h4) zk4 (by decide) zl_271 dX4_isSpelt_5 ?_
  refine zr_isub dX4_isSpelt_8 ?_
  refine zr_aload_n 1 dX4_isSpelt_9 rfl ?_
  replace hf := zb1_s hf
  obtain ⟨v6, h5, hf⟩ := hf
  refine zr_callVS [] (cJ0_length_8abf5_ok h5) zvs_J0_length_8abf5 zl_331 zl_332 (fJ0_length_8abf5_ck h5) rfl zl_330 rfl (Nat.le_of_ble_eq_true rfl) (Nat.le_of_ble_eq_true rfl) (Nat.le_of_ble_eq_true rfl) (Nat.le_of_ble_eq_true rfl) dX4_isSpelt_10 rfl ?_
  refine zr_icmp_eq 18 dX4_isSpelt_13 (by decide) (fun hc => ?_) (fun hc => ?_)
  · rw [if_pos hc] at hf
    refine zr_iconst 0 dX4_isSpelt_18 (by decide) ?_
    refine zr_istore_n [(2, .int 0), (0, .ref x0), (1, .ref x1)] dX4_isSpelt_19 (Nat.le_of_ble_eq_true rfl) rfl ?_
    have hL20 : ∀ (n : Nat) (x2_7 : Int32), zf1 (fX4_isSpelt_l20 μ x1 x0) n x2_7 = some r → zz K cX4_isSpelt (3, RX4, some .boolean, 4, 0, 0, some (.int r), μ) 0 0 20 [(0, .ref x0), (1, .ref x1), (2, .int x2_7)] [] μ := by
      intro n
      induction n with
      | zero => intro x2_7 hf; cases hf
      | succ n ih9 =>
        intro x2_7 hf
        replace hf := zf1_s hf
        generalize zf1 (fX4_isSpelt_l20 μ x1 x0) n = F8 at hf ih9
        unfold fX4_isSpelt_l20 at hf
        refine zr_iload_n 2 dX4_isSpelt_20 rfl ?_
        refine zr_aload_n 1 dX4_isSpelt_21 rfl ?_
        replace hf := zb1_s hf
        obtain ⟨v11, h10, hf⟩ := hf
        refine zr_callVS [] (cJ0_length_8abf5_ok h10) zvs_J0_length_8abf5 zl_331 zl_332 (fJ0_length_8abf5_ck h10) rfl zl_330 rfl (Nat.le_of_ble_eq_true rfl) (Nat.le_of_ble_eq_true rfl) (Nat.le_of_ble_eq_true rfl) (Nat.le_of_ble_eq_true rfl) dX4_isSpelt_22 rfl ?_
        refine zr_icmp_ge 55 dX4_isSpelt_25 (by decide) (fun hc => ?_) (fun hc => ?_)
        · rw [if_pos hc] at hf
          refine zr_iconst 1 dX4_isSpelt_55 (by decide) ?_
          cases hf
          exact zr_zret rfl dX4_isSpelt_56
        · rw [if_neg hc] at hf
          refine zr_aload_n 0 dX4_isSpelt_28 rfl ?_
          replace hf := zb1_s hf
          obtain ⟨v12, h13, hf⟩ := hf
          refine zr_get (zm_gR_g h13) zk4 (by decide) zl_275 dX4_isSpelt_29 ?_
          refine zr_aload_n 0 dX4_isSpelt_32 rfl ?_
          replace hf := zb1_s hf
          obtain ⟨v14, h15, hf⟩ := hf
          refine zr_get (zm_gI_g h15) zk4 (by decide) zl_271 dX4_isSpelt_33 ?_
          refine zr_iload_n 2 dX4_isSpelt_36 rfl ?_
          refine zr_iadd dX4_isSpelt_37 ?_
          replace hf := zb1_s hf
          obtain ⟨v16, h17, hf⟩ := hf
          refine zr_bald h17 dX4_isSpelt_38 ?_
          refine zr_aload_n 1 dX4_isSpelt_39 rfl ?_
          refine zr_iload_n 2 dX4_isSpelt_40 rfl ?_
          replace hf := zb1_s hf
          obtain ⟨v19, h18, hf⟩ := hf
          refine zr_callVS [.int x2_7] (cJ0_charAt_5068e_ok h18) zvs_J0_charAt_5068e zl_335 zl_336 (fJ0_charAt_5068e_ck h18) rfl zl_334 rfl (Nat.le_of_ble_eq_true rfl) (Nat.le_of_ble_eq_true rfl) (Nat.le_of_ble_eq_true rfl) (Nat.le_of_ble_eq_true rfl) dX4_isSpelt_41 rfl ?_
          refine zr_icmp_eq 49 dX4_isSpelt_44 (by decide) (fun hc => ?_) (fun hc => ?_)
          · rw [if_pos hc] at hf
            refine zr_iinc (j := 2) (x2_7 + 1) [(2, .int (x2_7 + 1)), (0, .ref x0), (1, .ref x1)] dX4_isSpelt_49 rfl rfl (Nat.le_of_ble_eq_true rfl) rfl ?_
            refine zr_goto 20 dX4_isSpelt_52 (by decide) ?_
            exact zr_lv [1, 2, 0] rfl (ih9 (x2_7 + 1) hf)
          · rw [if_neg hc] at hf
            refine zr_iconst 0 dX4_isSpelt_47 (by decide) ?_
            cases hf
            exact zr_zret rfl dX4_isSpelt_48
    exact zr_lv [1, 2, 0] rfl (hL20 _ 0 hf)
  · rw [if_neg hc] at hf
    refine zr_iconst 0 dX4_isSpelt_16 (by decide) ?_
    cases hf
    exact zr_zret rfl dX4_isSpelt_17
theorem zl_337 : Cond.fieldLink RX4 186 "TwoEchoes$Reader" "FIRST_OF_SORT" "[I" ∈ zt := zt_at 578 (by decide +kernel)
theorem zl_338 : Cond.code yX4_spelling cX4_spelling 1 (some (.object "java/lang/String")) ∈ zt := zt_at 582 (by decide +kernel)
theorem zvs_X4_spelling : zvS yX4_spelling cX4_spelling 1 (some (.object "java/lang/String")) 1 := ⟨zl_338, zl_296, ⟨by decide +kernel, by decide +kernel, by decide +kernel⟩, by decide⟩
theorem zl_339 : Cond.methodLink RX4 189 yX4_spelling ∈ zt := zt_at 580 (by decide +kernel)
theorem zl_340 : Cond.static yX4_spelling ∈ zt := zt_at 581 (by decide +kernel)
theorem zl_341 : Cond.code yX4_isSpelt cX4_isSpelt 3 (some .boolean) ∈ zt := zt_at 604 (by decide +kernel)
theorem zvs_X4_isSpelt : zvS yX4_isSpelt cX4_isSpelt 3 (some .boolean) 1 := ⟨zl_341, zl_296, ⟨by decide +kernel, by decide +kernel, by decide +kernel⟩, by decide⟩
theorem zl_342 : Cond.methodLink RX4 193 yX4_isSpelt ∈ zt := zt_at 601 (by decide +kernel)
theorem zl_343 : Cond.instanceMethod yX4_isSpelt ∈ zt := zt_at 603 (by decide +kernel)
theorem zl_344 : Cond.selects RX4 yX4_isSpelt yX4_isSpelt ∈ zt := zt_at 4 (by decide +kernel)
theorem dX4_lineWord_0 : decode cX4_lineWord 0 = .ok (.aload_n 0, 1) := by decide +kernel
theorem dX4_lineWord_1 : decode cX4_lineWord 1 = .ok (.getfield 49, 3) := by decide +kernel
theorem dX4_lineWord_4 : decode cX4_lineWord 4 = .ok (.iconst 1, 1) := by decide +kernel
theorem dX4_lineWord_5 : decode cX4_lineWord 5 = .ok (.if_icmp .eq 5, 3) := by decide +kernel
theorem dX4_lineWord_8 : decode cX4_lineWord 8 = .ok (.iconst (-1), 1) := by decide +kernel
theorem dX4_lineWord_9 : decode cX4_lineWord 9 = .ok (.ireturn, 1) := by decide +kernel
theorem dX4_lineWord_10 : decode cX4_lineWord 10 = .ok (.getstatic 186, 3) := by decide +kernel
theorem dX4_lineWord_13 : decode cX4_lineWord 13 = .ok (.iload_n 1, 1) := by decide +kernel
theorem dX4_lineWord_14 : decode cX4_lineWord 14 = .ok (.iaload, 1) := by decide +kernel
theorem dX4_lineWord_15 : decode cX4_lineWord 15 = .ok (.istore_n 2, 1) := by decide +kernel
theorem dX4_lineWord_16 : decode cX4_lineWord 16 = .ok (.iload_n 2, 1) := by decide +kernel
theorem dX4_lineWord_17 : decode cX4_lineWord 17 = .ok (.getstatic 186, 3) := by decide +kernel
theorem dX4_lineWord_20 : decode cX4_lineWord 20 = .ok (.iload_n 1, 1) := by decide +kernel
theorem dX4_lineWord_21 : decode cX4_lineWord 21 = .ok (.iconst 1, 1) := by decide +kernel
theorem dX4_lineWord_22 : decode cX4_lineWord 22 = .ok (.iadd, 1) := by decide +kernel
theorem dX4_lineWord_23 : decode cX4_lineWord 23 = .ok (.iaload, 1) := by decide +kernel
theorem dX4_lineWord_24 : decode cX4_lineWord 24 = .ok (.if_icmp .ge 22, 3) := by decide +kernel
theorem dX4_lineWord_27 : decode cX4_lineWord 27 = .ok (.aload_n 0, 1) := by decide +kernel
theorem dX4_lineWord_28 : decode cX4_lineWord 28 = .ok (.iload_n 2, 1) := by decide +kernel
theorem dX4_lineWord_29 : decode cX4_lineWord 29 = .ok (.invokestatic 189, 3) := by decide +kernel
theorem dX4_lineWord_32 : decode cX4_lineWord 32 = .ok (.invokevirtual 193, 3) := by decide +kernel
theorem dX4_lineWord_35 : decode cX4_lineWord 35 = .ok (.ifCond .eq 5, 3) := by decide +kernel
theorem dX4_lineWord_38 : decode cX4_lineWord 38 = .ok (.iload_n 2, 1) := by decide +kernel
theorem dX4_lineWord_39 : decode cX4_lineWord 39 = .ok (.ireturn, 1) := by decide +kernel
theorem dX4_lineWord_40 : decode cX4_lineWord 40 = .ok (.iinc 2 1, 3) := by decide +kernel
theorem dX4_lineWord_43 : decode cX4_lineWord 43 = .ok (.goto (-27), 3) := by decide +kernel
theorem dX4_lineWord_46 : decode cX4_lineWord 46 = .ok (.iconst (-1), 1) := by decide +kernel
theorem dX4_lineWord_47 : decode cX4_lineWord 47 = .ok (.ireturn, 1) := by decide +kernel
noncomputable def fX4_lineWord_l16 (μ : zM) (x1 : Int32) (x0 : Nat) (F6 : Int32 → Option (Int32)) (x2_5 : Int32) : Option (Int32) :=
  zb1 (zm_aI μ 0 (μ.2.2 2) (x1 + 1)) fun v8 =>
  if v8 ≤ x2_5 then (
  some (-1))
  else (
  zb1 (fX4_spelling μ x2_5) fun v11 =>
  zb1 v11 fun a12 =>
  zb1 (fX4_isSpelt μ x0 a12) fun v15 =>
  if v15 = 0 then (
  F6 (x2_5 + 1))
  else (
  some x2_5))
noncomputable def fX4_lineWord (μ : zM) (x0 : Nat) (x1 : Int32) : Option (Int32) := zgd (zm_ck μ 4 x0) <|
  zb1 (zm_gI μ 4 x0 8) fun v1 =>
  if v1 = 1 then (
  zb1 (zm_aI μ 0 (μ.2.2 2) x1) fun v3 =>
  zf1 (fX4_lineWord_l16 μ x1 x0) zfu v3)
  else (
  some (-1))
theorem fX4_lineWord_ck {μ : zM} {x0 : Nat} {x1 : Int32} {z : Int32} (h : fX4_lineWord μ x0 x1 = some z) : zm_ck μ 4 x0 = true := (zgd_s h).1
set_option maxHeartbeats 4000000 in
set_option maxRecDepth 100000 in
theorem cX4_lineWord_ok {μ : zM} {x0 : Nat} {x1 : Int32} {r : Int32} (hf : fX4_lineWord μ x0 x1 = some r) : zC yX4_lineWord cX4_lineWord 3 (some .int) 5 0 0 [.ref x0, .int x1] μ (some (.int r)) μ := by
  replace hf := (zgd_s hf).2
  refine zC.of (by decide) (Nat.le_of_ble_eq_true rfl) (fun K hin => ?_)
  clear hin
  show zz K cX4_lineWord (3, RX4, some .int, 5, 0, 0, some (.int r), μ) 0 0 0 [(0, .ref x0), (1, .int x1)] [] μ
  refine zr_aload_n 0 dX4_lineWord_0 rfl ?_
  replace hf := zb1_s hf
  obtain ⟨v1, h2, hf⟩ := hf
  refine zr_get (zm_gI_g h2) zk4 (by decide) zl_270 dX4_lineWord_1 ?_
  refine zr_iconst 1 dX4_lineWord_4 (by decide) ?_
  refine zr_icmp_eq 10 dX4_lineWord_5 (by decide) (fun hc => ?_) (fun hc => ?_)
  · rw [if_pos hc] at hf
    refine zr_gets (k := 2) (by decide) zl_337 dX4_lineWord_10 ?_
    refine zr_iload_n 1 dX4_lineWord_13 rfl ?_
    replace hf := zb1_s hf
    obtain ⟨v3, h4, hf⟩ := hf
    refine zr_iald h4 dX4_lineWord_14 ?_
    refine zr_istore_n [(2, .int v3), (0, .ref x0), (1, .int x1)] dX4_lineWord_15 (Nat.le_of_ble_eq_true rfl) rfl ?_
    have hL16 : ∀ (n : Nat) (x2_5 : Int32), zf1 (fX4_lineWord_l16 μ x1 x0) n x2_5 = some r → zz K cX4_lineWord (3, RX4, some .int, 5, 0, 0, some (.int r), μ) 0 0 16 [(0, .ref x0), (1, .int x1), (2, .int x2_5)] [] μ := by
      intro n
      induction n with
      | zero => intro x2_5 hf; cases hf
      | succ n ih7 =>
        intro x2_5 hf
        replace hf := zf1_s hf
        generalize zf1 (fX4_lineWord_l16 μ x1 x0) n = F6 at hf ih7
        unfold fX4_lineWord_l16 at hf
        refine zr_iload_n 2 dX4_lineWord_16 rfl ?_
        refine zr_gets (k := 2) (by decide) zl_337 dX4_lineWord_17 ?_
        refine zr_iload_n 1 dX4_lineWord_20 rfl ?_
        refine zr_iconst 1 dX4_lineWord_21 (by decide) ?_
        refine zr_iadd dX4_lineWord_22 ?_
        replace hf := zb1_s hf
        obtain ⟨v8, h9, hf⟩ := hf
        refine zr_iald h9 dX4_lineWord_23 ?_
        refine zr_icmp_ge 46 dX4_lineWord_24 (by decide) (fun hc => ?_) (fun hc => ?_)
        · rw [if_pos hc] at hf
          refine zr_iconst (-1) dX4_lineWord_46 (by decide) ?_
          cases hf
          exact zr_iret dX4_lineWord_47
        · rw [if_neg hc] at hf
          refine zr_aload_n 0 dX4_lineWord_27 rfl ?_
          refine zr_iload_n 2 dX4_lineWord_28 rfl ?_
          replace hf := zb1_s hf
          obtain ⟨v11, h10, hf⟩ := hf
          refine zr_callS [.int x2_5] (cX4_spelling_ok h10) zvs_X4_spelling zl_340 zl_339 rfl (Nat.le_of_ble_eq_true rfl) (Nat.le_of_ble_eq_true rfl) (Nat.le_of_ble_eq_true rfl) (Nat.le_of_ble_eq_true rfl) dX4_lineWord_29 rfl ?_
          replace hf := zb1_s hf
          obtain ⟨a12, h13, hf⟩ := hf
          subst h13
          replace hf := zb1_s hf
          obtain ⟨v15, h14, hf⟩ := hf
          refine zr_callV (ci := 4) [.ref a12] (cX4_isSpelt_ok h14) zvs_X4_isSpelt zl_343 zl_344 (fX4_isSpelt_ck h14) rfl rfl zl_342 rfl (Nat.le_of_ble_eq_true rfl) (Nat.le_of_ble_eq_true rfl) (Nat.le_of_ble_eq_true rfl) (Nat.le_of_ble_eq_true rfl) dX4_lineWord_32 rfl ?_
          refine zr_if_eq 40 dX4_lineWord_35 (by decide) (fun hc => ?_) (fun hc => ?_)
          · rw [if_pos hc] at hf
            refine zr_iinc (j := 2) (x2_5 + 1) [(2, .int (x2_5 + 1)), (0, .ref x0), (1, .int x1)] dX4_lineWord_40 rfl rfl (Nat.le_of_ble_eq_true rfl) rfl ?_
            refine zr_goto 16 dX4_lineWord_43 (by decide) ?_
            exact zr_lv [1, 2, 0] rfl (ih7 (x2_5 + 1) hf)
          · rw [if_neg hc] at hf
            refine zr_iload_n 2 dX4_lineWord_38 rfl ?_
            cases hf
            exact zr_iret dX4_lineWord_39
    exact zr_lv [1, 2, 0] rfl (hL16 _ v3 hf)
  · rw [if_neg hc] at hf
    refine zr_iconst (-1) dX4_lineWord_8 (by decide) ?_
    cases hf
    exact zr_iret dX4_lineWord_9
theorem dX4_breakOff_0 : decode cX4_breakOff 0 = .ok (.aload_n 0, 1) := by decide +kernel
theorem dX4_breakOff_1 : decode cX4_breakOff 1 = .ok (.iconst 1, 1) := by decide +kernel
theorem dX4_breakOff_2 : decode cX4_breakOff 2 = .ok (.putfield 39, 3) := by decide +kernel
theorem dX4_breakOff_5 : decode cX4_breakOff 5 = .ok (.aload_n 0, 1) := by decide +kernel
theorem dX4_breakOff_6 : decode cX4_breakOff 6 = .ok (.aload_n 0, 1) := by decide +kernel
theorem dX4_breakOff_7 : decode cX4_breakOff 7 = .ok (.getfield 52, 3) := by decide +kernel
theorem dX4_breakOff_10 : decode cX4_breakOff 10 = .ok (.putfield 43, 3) := by decide +kernel
theorem dX4_breakOff_13 : decode cX4_breakOff 13 = .ok (.return_, 1) := by decide +kernel
noncomputable def fX4_breakOff (μ : zM) (x0 : Nat) : Option (zM) := zgd (zm_ck μ 4 x0) <|
  zb1 (zm_p μ 4 x0 4 (.int 1)) fun m1 =>
  zb1 (zm_gI m1 4 x0 9) fun v3 =>
  zb1 (zm_p m1 4 x0 5 (.int v3)) fun m5 =>
  some m5
theorem fX4_breakOff_ck {μ : zM} {x0 : Nat} {z : zM} (h : fX4_breakOff μ x0 = some z) : zm_ck μ 4 x0 = true := (zgd_s h).1
set_option maxHeartbeats 4000000 in
set_option maxRecDepth 100000 in
theorem cX4_breakOff_ok {μ : zM} {x0 : Nat} {mo : zM} (hf : fX4_breakOff μ x0 = some mo) : zC yX4_breakOff cX4_breakOff 1 (none) 0 0 0 [.ref x0] μ (none) mo := by
  replace hf := (zgd_s hf).2
  refine zC.of (by decide) (Nat.le_of_ble_eq_true rfl) (fun K hin => ?_)
  clear hin
  show zz K cX4_breakOff (1, RX4, none, 0, 0, 0, none, mo) 0 0 0 [(0, .ref x0)] [] μ
  refine zr_aload_n 0 dX4_breakOff_0 rfl ?_
  refine zr_iconst 1 dX4_breakOff_1 (by decide) ?_
  replace hf := zb1_s hf
  obtain ⟨m1, h2, hf⟩ := hf
  refine zr_put h2 zk4 (by decide) zl_267 rfl rfl rfl dX4_breakOff_2 ?_
  refine zr_aload_n 0 dX4_breakOff_5 rfl ?_
  refine zr_aload_n 0 dX4_breakOff_6 rfl ?_
  replace hf := zb1_s hf
  obtain ⟨v3, h4, hf⟩ := hf
  refine zr_get (zm_gI_g h4) zk4 (by decide) zl_271 dX4_breakOff_7 ?_
  replace hf := zb1_s hf
  obtain ⟨m5, h6, hf⟩ := hf
  refine zr_put h6 zk4 (by decide) zl_268 rfl rfl rfl dX4_breakOff_10 ?_
  cases hf
  exact zr_vret dX4_breakOff_13
theorem dX4_tokenNumber_0 : decode cX4_tokenNumber 0 = .ok (.iconst 0, 1) := by decide +kernel
theorem dX4_tokenNumber_1 : decode cX4_tokenNumber 1 = .ok (.istore_n 1, 1) := by decide +kernel
theorem dX4_tokenNumber_2 : decode cX4_tokenNumber 2 = .ok (.aload_n 0, 1) := by decide +kernel
theorem dX4_tokenNumber_3 : decode cX4_tokenNumber 3 = .ok (.getfield 52, 3) := by decide +kernel
theorem dX4_tokenNumber_6 : decode cX4_tokenNumber 6 = .ok (.istore_n 2, 1) := by decide +kernel
theorem dX4_tokenNumber_7 : decode cX4_tokenNumber 7 = .ok (.iload_n 2, 1) := by decide +kernel
theorem dX4_tokenNumber_8 : decode cX4_tokenNumber 8 = .ok (.aload_n 0, 1) := by decide +kernel
theorem dX4_tokenNumber_9 : decode cX4_tokenNumber 9 = .ok (.getfield 55, 3) := by decide +kernel
theorem dX4_tokenNumber_12 : decode cX4_tokenNumber 12 = .ok (.if_icmp .ge 24, 3) := by decide +kernel
theorem dX4_tokenNumber_15 : decode cX4_tokenNumber 15 = .ok (.bipush 10, 2) := by decide +kernel
theorem dX4_tokenNumber_17 : decode cX4_tokenNumber 17 = .ok (.iload_n 1, 1) := by decide +kernel
theorem dX4_tokenNumber_18 : decode cX4_tokenNumber 18 = .ok (.imul, 1) := by decide +kernel
theorem dX4_tokenNumber_19 : decode cX4_tokenNumber 19 = .ok (.aload_n 0, 1) := by decide +kernel
theorem dX4_tokenNumber_20 : decode cX4_tokenNumber 20 = .ok (.getfield 65, 3) := by decide +kernel
theorem dX4_tokenNumber_23 : decode cX4_tokenNumber 23 = .ok (.iload_n 2, 1) := by decide +kernel
theorem dX4_tokenNumber_24 : decode cX4_tokenNumber 24 = .ok (.baload, 1) := by decide +kernel
theorem dX4_tokenNumber_25 : decode cX4_tokenNumber 25 = .ok (.bipush 48, 2) := by decide +kernel
theorem dX4_tokenNumber_27 : decode cX4_tokenNumber 27 = .ok (.isub, 1) := by decide +kernel
theorem dX4_tokenNumber_28 : decode cX4_tokenNumber 28 = .ok (.iadd, 1) := by decide +kernel
theorem dX4_tokenNumber_29 : decode cX4_tokenNumber 29 = .ok (.istore_n 1, 1) := by decide +kernel
theorem dX4_tokenNumber_30 : decode cX4_tokenNumber 30 = .ok (.iinc 2 1, 3) := by decide +kernel
theorem dX4_tokenNumber_33 : decode cX4_tokenNumber 33 = .ok (.goto (-26), 3) := by decide +kernel
theorem dX4_tokenNumber_36 : decode cX4_tokenNumber 36 = .ok (.iload_n 1, 1) := by decide +kernel
theorem dX4_tokenNumber_37 : decode cX4_tokenNumber 37 = .ok (.ireturn, 1) := by decide +kernel
noncomputable def fX4_tokenNumber_l7 (μ : zM) (x0 : Nat) (F5 : Int32 → Int32 → Option (Int32)) (x1_3 : Int32) (x2_4 : Int32) : Option (Int32) :=
  zb1 (zm_gI μ 4 x0 10) fun v9 =>
  if v9 ≤ x2_4 then (
  some x1_3)
  else (
  zb1 (zm_gR μ 4 x0 6) fun v11 =>
  zb1 (zm_aI μ 1 v11 x2_4) fun v13 =>
  F5 ((10 * x1_3) + (v13 - 48)) (x2_4 + 1))
noncomputable def fX4_tokenNumber (μ : zM) (x0 : Nat) : Option (Int32) := zgd (zm_ck μ 4 x0) <|
  zb1 (zm_gI μ 4 x0 9) fun v1 =>
  zb1 (zf2 (fX4_tokenNumber_l7 μ x0) zfu 0 v1 : Option (Int32)) fun (x1_7 : Int32) =>
  some x1_7
theorem fX4_tokenNumber_ck {μ : zM} {x0 : Nat} {z : Int32} (h : fX4_tokenNumber μ x0 = some z) : zm_ck μ 4 x0 = true := (zgd_s h).1
set_option maxHeartbeats 4000000 in
set_option maxRecDepth 100000 in
theorem cX4_tokenNumber_ok {μ : zM} {x0 : Nat} {r : Int32} (hf : fX4_tokenNumber μ x0 = some r) : zC yX4_tokenNumber cX4_tokenNumber 3 (some .int) 0 0 0 [.ref x0] μ (some (.int r)) μ := by
  replace hf := (zgd_s hf).2
  refine zC.of (by decide) (Nat.le_of_ble_eq_true rfl) (fun K hin => ?_)
  clear hin
  show zz K cX4_tokenNumber (3, RX4, some .int, 0, 0, 0, some (.int r), μ) 0 0 0 [(0, .ref x0)] [] μ
  refine zr_iconst 0 dX4_tokenNumber_0 (by decide) ?_
  refine zr_istore_n [(1, .int 0), (0, .ref x0)] dX4_tokenNumber_1 (Nat.le_of_ble_eq_true rfl) rfl ?_
  refine zr_aload_n 1 dX4_tokenNumber_2 rfl ?_
  replace hf := zb1_s hf
  obtain ⟨v1, h2, hf⟩ := hf
  refine zr_get (zm_gI_g h2) zk4 (by decide) zl_271 dX4_tokenNumber_3 ?_
  refine zr_istore_n [(2, .int v1), (1, .int 0), (0, .ref x0)] dX4_tokenNumber_6 (Nat.le_of_ble_eq_true rfl) rfl ?_
  replace hf := zb1_s hf
  obtain ⟨x1_7, hg, hf⟩ := hf
  have hj8 : zz K cX4_tokenNumber (3, RX4, some .int, 0, 0, 0, some (.int r), μ) 0 0 36 [(1, .int x1_7)] [] μ := by
    refine zr_iload_n 0 dX4_tokenNumber_36 rfl ?_
    cases hf
    exact zr_iret dX4_tokenNumber_37
  clear hf
  have hf := hg
  clear hg
  have hL15 : ∀ (n : Nat) (x1_3 : Int32) (x2_4 : Int32), zf2 (fX4_tokenNumber_l7 μ x0) n x1_3 x2_4 = some x1_7 → zz K cX4_tokenNumber (3, RX4, some .int, 0, 0, 0, some (.int r), μ) 0 0 7 [(0, .ref x0), (1, .int x1_3), (2, .int x2_4)] [] μ := by
    intro n
    induction n with
    | zero => intro x1_3 x2_4 hf; cases hf
    | succ n ih6 =>
      intro x1_3 x2_4 hf
      replace hf := zf2_s hf
      generalize zf2 (fX4_tokenNumber_l7 μ x0) n = F5 at hf ih6
      unfold fX4_tokenNumber_l7 at hf
      refine zr_iload_n 2 dX4_tokenNumber_7 rfl ?_
      refine zr_aload_n 0 dX4_tokenNumber_8 rfl ?_
      replace hf := zb1_s hf
      obtain ⟨v9, h10, hf⟩ := hf
      refine zr_get (zm_gI_g h10) zk4 (by decide) zl_272 dX4_tokenNumber_9 ?_
      refine zr_icmp_ge 36 dX4_tokenNumber_12 (by decide) (fun hc => ?_) (fun hc => ?_)
      · rw [if_pos hc] at hf
        cases hf
        exact zr_lv [1] rfl hj8
      · rw [if_neg hc] at hf
        refine zr_bipush 10 dX4_tokenNumber_15 (by decide) ?_
        refine zr_iload_n 1 dX4_tokenNumber_17 rfl ?_
        refine zr_imul dX4_tokenNumber_18 ?_
        refine zr_aload_n 0 dX4_tokenNumber_19 rfl ?_
        replace hf := zb1_s hf
        obtain ⟨v11, h12, hf⟩ := hf
        refine zr_get (zm_gR_g h12) zk4 (by decide) zl_275 dX4_tokenNumber_20 ?_
        refine zr_iload_n 2 dX4_tokenNumber_23 rfl ?_
        replace hf := zb1_s hf
        obtain ⟨v13, h14, hf⟩ := hf
        refine zr_bald h14 dX4_tokenNumber_24 ?_
        refine zr_bipush 48 dX4_tokenNumber_25 (by decide) ?_
        refine zr_isub dX4_tokenNumber_27 ?_
        refine zr_iadd dX4_tokenNumber_28 ?_
        refine zr_istore_n [(1, .int ((10 * x1_3) + (v13 - 48))), (0, .ref x0), (2, .int x2_4)] dX4_tokenNumber_29 (Nat.le_of_ble_eq_true rfl) rfl ?_
        refine zr_iinc (j := 2) (x2_4 + 1) [(2, .int (x2_4 + 1)), (1, .int ((10 * x1_3) + (v13 - 48))), (0, .ref x0)] dX4_tokenNumber_30 rfl rfl (Nat.le_of_ble_eq_true rfl) rfl ?_
        refine zr_goto 7 dX4_tokenNumber_33 (by decide) ?_
        exact zr_lv [2, 1, 0] rfl (ih6 ((10 * x1_3) + (v13 - 48)) (x2_4 + 1) hf)
  exact zr_lv [2, 1, 0] rfl (hL15 _ 0 v1 hf)
