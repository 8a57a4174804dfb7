theorem zl_227 : Cond.methodLink RX9 3 Lib.objectInit ∈ zt := zt_at 170 (by decide +kernel)
theorem zl_228 : Cond.fieldLink RX9 18 "TwoEchoes$Valley" "weight" "[I" ∈ zt := zt_at 184 (by decide +kernel)
theorem zl_229 : Cond.fieldLink RX9 21 "TwoEchoes$Valley" "kind" "[I" ∈ zt := zt_at 193 (by decide +kernel)
theorem zl_230 : Cond.fieldLink RX9 24 "TwoEchoes$Valley" "place" "[I" ∈ zt := zt_at 196 (by decide +kernel)
theorem zl_231 : Cond.fieldLink RX9 27 "TwoEchoes$Valley" "wish" "[I" ∈ zt := zt_at 199 (by decide +kernel)
theorem zl_232 : Cond.fieldLink RX9 30 "TwoEchoes$Valley" "skyKind" "[I" ∈ zt := zt_at 204 (by decide +kernel)
theorem zl_233 : Cond.fieldLink RX9 33 "TwoEchoes$Valley" "skyFrom" "[I" ∈ zt := zt_at 205 (by decide +kernel)
theorem zl_234 : Cond.fieldLink RX9 36 "TwoEchoes$Valley" "skyUpTo" "[I" ∈ zt := zt_at 206 (by decide +kernel)
theorem dX9_init_0 : decode cX9_init 0 = .ok (.aload_n 0, 1) := by decide +kernel
theorem dX9_init_1 : decode cX9_init 1 = .ok (.invokespecial 3, 3) := by decide +kernel
theorem dX9_init_4 : decode cX9_init 4 = .ok (.aload_n 0, 1) := by decide +kernel
theorem dX9_init_5 : decode cX9_init 5 = .ok (.bipush 8, 2) := by decide +kernel
theorem dX9_init_7 : decode cX9_init 7 = .ok (.newarray .int, 2) := by decide +kernel
theorem dX9_init_9 : decode cX9_init 9 = .ok (.putfield 9, 3) := by decide +kernel
theorem dX9_init_12 : decode cX9_init 12 = .ok (.aload_n 0, 1) := by decide +kernel
theorem dX9_init_13 : decode cX9_init 13 = .ok (.bipush 8, 2) := by decide +kernel
theorem dX9_init_15 : decode cX9_init 15 = .ok (.newarray .int, 2) := by decide +kernel
theorem dX9_init_17 : decode cX9_init 17 = .ok (.putfield 15, 3) := by decide +kernel
theorem dX9_init_20 : decode cX9_init 20 = .ok (.aload_n 0, 1) := by decide +kernel
theorem dX9_init_21 : decode cX9_init 21 = .ok (.bipush 8, 2) := by decide +kernel
theorem dX9_init_23 : decode cX9_init 23 = .ok (.newarray .int, 2) := by decide +kernel
theorem dX9_init_25 : decode cX9_init 25 = .ok (.putfield 18, 3) := by decide +kernel
theorem dX9_init_28 : decode cX9_init 28 = .ok (.aload_n 0, 1) := by decide +kernel
theorem dX9_init_29 : decode cX9_init 29 = .ok (.bipush 6, 2) := by decide +kernel
theorem dX9_init_31 : decode cX9_init 31 = .ok (.newarray .int, 2) := by decide +kernel
theorem dX9_init_33 : decode cX9_init 33 = .ok (.putfield 21, 3) := by decide +kernel
theorem dX9_init_36 : decode cX9_init 36 = .ok (.aload_n 0, 1) := by decide +kernel
theorem dX9_init_37 : decode cX9_init 37 = .ok (.bipush 6, 2) := by decide +kernel
theorem dX9_init_39 : decode cX9_init 39 = .ok (.newarray .int, 2) := by decide +kernel
theorem dX9_init_41 : decode cX9_init 41 = .ok (.putfield 24, 3) := by decide +kernel
theorem dX9_init_44 : decode cX9_init 44 = .ok (.aload_n 0, 1) := by decide +kernel
theorem dX9_init_45 : decode cX9_init 45 = .ok (.bipush 6, 2) := by decide +kernel
theorem dX9_init_47 : decode cX9_init 47 = .ok (.newarray .int, 2) := by decide +kernel
theorem dX9_init_49 : decode cX9_init 49 = .ok (.putfield 27, 3) := by decide +kernel
theorem dX9_init_52 : decode cX9_init 52 = .ok (.aload_n 0, 1) := by decide +kernel
theorem dX9_init_53 : decode cX9_init 53 = .ok (.iconst 4, 1) := by decide +kernel
theorem dX9_init_54 : decode cX9_init 54 = .ok (.newarray .int, 2) := by decide +kernel
theorem dX9_init_56 : decode cX9_init 56 = .ok (.putfield 30, 3) := by decide +kernel
theorem dX9_init_59 : decode cX9_init 59 = .ok (.aload_n 0, 1) := by decide +kernel
theorem dX9_init_60 : decode cX9_init 60 = .ok (.iconst 4, 1) := by decide +kernel
theorem dX9_init_61 : decode cX9_init 61 = .ok (.newarray .int, 2) := by decide +kernel
theorem dX9_init_63 : decode cX9_init 63 = .ok (.putfield 33, 3) := by decide +kernel
theorem dX9_init_66 : decode cX9_init 66 = .ok (.aload_n 0, 1) := by decide +kernel
theorem dX9_init_67 : decode cX9_init 67 = .ok (.iconst 4, 1) := by decide +kernel
theorem dX9_init_68 : decode cX9_init 68 = .ok (.newarray .int, 2) := by decide +kernel
theorem dX9_init_70 : decode cX9_init 70 = .ok (.putfield 36, 3) := by decide +kernel
theorem dX9_init_73 : decode cX9_init 73 = .ok (.aload_n 0, 1) := by decide +kernel
theorem dX9_init_74 : decode cX9_init 74 = .ok (.bipush 100, 2) := by decide +kernel
theorem dX9_init_76 : decode cX9_init 76 = .ok (.newarray .int, 2) := by decide +kernel
theorem dX9_init_78 : decode cX9_init 78 = .ok (.putfield 39, 3) := by decide +kernel
theorem dX9_init_81 : decode cX9_init 81 = .ok (.return_, 1) := by decide +kernel
def fX9_init (μ : zM) (x0 : Nat) : Option (zM) :=
  zb1 (some (zm_nw μ (.inl (0, 8, .inl (fun _ => 0))))) fun m1 =>
  zb1 (zm_p m1 9 x0 1 (.ref μ.2.1)) fun m3 =>
  zb1 (some (zm_nw m3 (.inl (0, 8, .inl (fun _ => 0))))) fun m5 =>
  zb1 (zm_p m5 9 x0 2 (.ref m3.2.1)) fun m7 =>
  zb1 (some (zm_nw m7 (.inl (0, 8, .inl (fun _ => 0))))) fun m9 =>
  zb1 (zm_p m9 9 x0 3 (.ref m7.2.1)) fun m11 =>
  zb1 (some (zm_nw m11 (.inl (0, 6, .inl (fun _ => 0))))) fun m13 =>
  zb1 (zm_p m13 9 x0 5 (.ref m11.2.1)) fun m15 =>
  zb1 (some (zm_nw m15 (.inl (0, 6, .inl (fun _ => 0))))) fun m17 =>
  zb1 (zm_p m17 9 x0 6 (.ref m15.2.1)) fun m19 =>
  zb1 (some (zm_nw m19 (.inl (0, 6, .inl (fun _ => 0))))) fun m21 =>
  zb1 (zm_p m21 9 x0 7 (.ref m19.2.1)) fun m23 =>
  zb1 (some (zm_nw m23 (.inl (0, 4, .inl (fun _ => 0))))) fun m25 =>
  zb1 (zm_p m25 9 x0 9 (.ref m23.2.1)) fun m27 =>
  zb1 (some (zm_nw m27 (.inl (0, 4, .inl (fun _ => 0))))) fun m29 =>
  zb1 (zm_p m29 9 x0 10 (.ref m27.2.1)) fun m31 =>
  zb1 (some (zm_nw m31 (.inl (0, 4, .inl (fun _ => 0))))) fun m33 =>
  zb1 (zm_p m33 9 x0 11 (.ref m31.2.1)) fun m35 =>
  zb1 (some (zm_nw m35 (.inl (0, 100, .inl (fun _ => 0))))) fun m37 =>
  zb1 (zm_p m37 9 x0 12 (.ref m35.2.1)) fun m39 =>
  some m39
set_option maxHeartbeats 4000000 in
set_option maxRecDepth 100000 in
theorem cX9_init_ok {μ : zM} {x0 : Nat} {mo : zM} (hf : fX9_init μ x0 = some mo) : zC yX9_init cX9_init 1 (none) 1 10 154 [.ref x0] μ (none) mo := by
  unfold fX9_init at hf
  refine zC.of (by decide) (Nat.le_of_ble_eq_true rfl) (fun K hin => ?_)
  replace hin := hin rfl
  show zz K cX9_init (1, RX9, none, 1, 10, 154, none, mo) 0 0 0 [(0, .ref x0)] [] μ
  refine zr_aload_n 0 dX9_init_0 rfl ?_
  refine zr_objInit zl_227 zl_1 zl_2 (Nat.le_of_ble_eq_true rfl) (Nat.le_of_ble_eq_true rfl) dX9_init_1 ?_
  refine zr_aload_n 0 dX9_init_4 rfl ?_
  refine zr_bipush 8 dX9_init_5 (by decide) ?_
  refine zr_newa (t := 0) (N := 8) (atype := .int) (by decide) rfl zl_3 (by decide) (by decide) (by decide) (Nat.le_of_ble_eq_true rfl) (Nat.le_of_ble_eq_true rfl) dX9_init_7 ?_
  replace hf := zb1_s hf
  obtain ⟨m1, h2, hf⟩ := hf
  obtain rfl := Option.some.inj h2
  replace hf := zb1_s hf
  obtain ⟨m3, h4, hf⟩ := hf
  refine zr_putF h4 hin rfl zk9 (by decide) zl_116 rfl rfl rfl dX9_init_9 ?_
  refine zr_aload_n 0 dX9_init_12 rfl ?_
  refine zr_bipush 8 dX9_init_13 (by decide) ?_
  refine zr_newa (t := 0) (N := 8) (atype := .int) (by decide) rfl zl_3 (by decide) (by decide) (by decide) (Nat.le_of_ble_eq_true rfl) (Nat.le_of_ble_eq_true rfl) dX9_init_15 ?_
  replace hf := zb1_s hf
  obtain ⟨m5, h6, hf⟩ := hf
  obtain rfl := Option.some.inj h6
  replace hf := zb1_s hf
  obtain ⟨m7, h8, hf⟩ := hf
  refine zr_putF h8 hin rfl zk9 (by decide) zl_115 rfl rfl rfl dX9_init_17 ?_
  refine zr_aload_n 0 dX9_init_20 rfl ?_
  refine zr_bipush 8 dX9_init_21 (by decide) ?_
  refine zr_newa (t := 0) (N := 8) (atype := .int) (by decide) rfl zl_3 (by decide) (by decide) (by decide) (Nat.le_of_ble_eq_true rfl) (Nat.le_of_ble_eq_true rfl) dX9_init_23 ?_
  replace hf := zb1_s hf
  obtain ⟨m9, h10, hf⟩ := hf
  obtain rfl := Option.some.inj h10
  replace hf := zb1_s hf
  obtain ⟨m11, h12, hf⟩ := hf
  refine zr_putF h12 hin rfl zk9 (by decide) zl_228 rfl rfl rfl dX9_init_25 ?_
  refine zr_aload_n 0 dX9_init_28 rfl ?_
  refine zr_bipush 6 dX9_init_29 (by decide) ?_
  refine zr_newa (t := 0) (N := 6) (atype := .int) (by decide) rfl zl_3 (by decide) (by decide) (by decide) (Nat.le_of_ble_eq_true rfl) (Nat.le_of_ble_eq_true rfl) dX9_init_31 ?_
  replace hf := zb1_s hf
  obtain ⟨m13, h14, hf⟩ := hf
  obtain rfl := Option.some.inj h14
  replace hf := zb1_s hf
  obtain ⟨m15, h16, hf⟩ := hf
  refine zr_putF h16 hin rfl zk9 (by decide) zl_229 rfl rfl rfl dX9_init_33 ?_
  refine zr_aload_n 0 dX9_init_36 rfl ?_
  refine zr_bipush 6 dX9_init_37 (by decide) ?_
  refine zr_newa (t := 0) (N := 6) (atype := .int) (by decide) rfl zl_3 (by decide) (by decide) (by decide) (Nat.le_of_ble_eq_true rfl) (Nat.le_of_ble_eq_true rfl) dX9_init_39 ?_
  replace hf := zb1_s hf
  obtain ⟨m17, h18, hf⟩ := hf
  obtain rfl := Option.some.inj h18
  replace hf := zb1_s hf
  obtain ⟨m19, h20, hf⟩ := hf
  refine zr_putF h20 hin rfl zk9 (by decide) zl_230 rfl rfl rfl dX9_init_41 ?_
  refine zr_aload_n 0 dX9_init_44 rfl ?_
  refine zr_bipush 6 dX9_init_45 (by decide) ?_
  refine zr_newa (t := 0) (N := 6) (atype := .int) (by decide) rfl zl_3 (by decide) (by decide) (by decide) (Nat.le_of_ble_eq_true rfl) (Nat.le_of_ble_eq_true rfl) dX9_init_47 ?_
  replace hf := zb1_s hf
  obtain ⟨m21, h22, hf⟩ := hf
  obtain rfl := Option.some.inj h22
  replace hf := zb1_s hf
  obtain ⟨m23, h24, hf⟩ := hf
  refine zr_putF h24 hin rfl zk9 (by decide) zl_231 rfl rfl rfl dX9_init_49 ?_
  refine zr_aload_n 0 dX9_init_52 rfl ?_
  refine zr_iconst 4 dX9_init_53 (by decide) ?_
  refine zr_newa (t := 0) (N := 4) (atype := .int) (by decide) rfl zl_3 (by decide) (by decide) (by decide) (Nat.le_of_ble_eq_true rfl) (Nat.le_of_ble_eq_true rfl) dX9_init_54 ?_
  replace hf := zb1_s hf
  obtain ⟨m25, h26, hf⟩ := hf
  obtain rfl := Option.some.inj h26
  replace hf := zb1_s hf
  obtain ⟨m27, h28, hf⟩ := hf
  refine zr_putF h28 hin rfl zk9 (by decide) zl_232 rfl rfl rfl dX9_init_56 ?_
  refine zr_aload_n 0 dX9_init_59 rfl ?_
  refine zr_iconst 4 dX9_init_60 (by decide) ?_
  refine zr_newa (t := 0) (N := 4) (atype := .int) (by decide) rfl zl_3 (by decide) (by decide) (by decide) (Nat.le_of_ble_eq_true rfl) (Nat.le_of_ble_eq_true rfl) dX9_init_61 ?_
  replace hf := zb1_s hf
  obtain ⟨m29, h30, hf⟩ := hf
  obtain rfl := Option.some.inj h30
  replace hf := zb1_s hf
  obtain ⟨m31, h32, hf⟩ := hf
  refine zr_putF h32 hin rfl zk9 (by decide) zl_233 rfl rfl rfl dX9_init_63 ?_
  refine zr_aload_n 0 dX9_init_66 rfl ?_
  refine zr_iconst 4 dX9_init_67 (by decide) ?_
  refine zr_newa (t := 0) (N := 4) (atype := .int) (by decide) rfl zl_3 (by decide) (by decide) (by decide) (Nat.le_of_ble_eq_true rfl) (Nat.le_of_ble_eq_true rfl) dX9_init_68 ?_
  replace hf := zb1_s hf
  obtain ⟨m33, h34, hf⟩ := hf
  obtain rfl := Option.some.inj h34
  replace hf := zb1_s hf
  obtain ⟨m35, h36, hf⟩ := hf
  refine zr_putF h36 hin rfl zk9 (by decide) zl_234 rfl rfl rfl dX9_init_70 ?_
  refine zr_aload_n 0 dX9_init_73 rfl ?_
  refine zr_bipush 100 dX9_init_74 (by decide) ?_
  refine zr_newa (t := 0) (N := 100) (atype := .int) (by decide) rfl zl_3 (by decide) (by decide) (by decide) (Nat.le_of_ble_eq_true rfl) (Nat.le_of_ble_eq_true rfl) dX9_init_76 ?_
  replace hf := zb1_s hf
  obtain ⟨m37, h38, hf⟩ := hf
  obtain rfl := Option.some.inj h38
  replace hf := zb1_s hf
  obtain ⟨m39, h40, hf⟩ := hf
  refine zr_putF h40 hin rfl zk9 (by decide) zl_7 rfl rfl rfl dX9_init_78 ?_
  cases hf
  exact zr_vret dX9_init_81
theorem zl_235 : Cond.methodLink RX6 3 Lib.objectInit ∈ zt := zt_at 292 (by decide +kernel)
theorem zl_236 : Cond.fieldLink RX6 9 "TwoEchoes$Sight" "wasHeard" "[I" ∈ zt := zt_at 296 (by decide +kernel)
theorem zl_237 : Cond.fieldLink RX6 15 "TwoEchoes$Sight" "place" "[I" ∈ zt := zt_at 298 (by decide +kernel)
theorem zl_238 : Cond.fieldLink RX6 18 "TwoEchoes$Sight" "minute" "[I" ∈ zt := zt_at 300 (by decide +kernel)
theorem zl_239 : Cond.fieldLink RX6 21 "TwoEchoes$Sight" "word" "[I" ∈ zt := zt_at 302 (by decide +kernel)
theorem dX6_init_0 : decode cX6_init 0 = .ok (.aload_n 0, 1) := by decide +kernel
theorem dX6_init_1 : decode cX6_init 1 = .ok (.invokespecial 3, 3) := by decide +kernel
theorem dX6_init_4 : decode cX6_init 4 = .ok (.aload_n 0, 1) := by decide +kernel
theorem dX6_init_5 : decode cX6_init 5 = .ok (.bipush 8, 2) := by decide +kernel
theorem dX6_init_7 : decode cX6_init 7 = .ok (.newarray .int, 2) := by decide +kernel
theorem dX6_init_9 : decode cX6_init 9 = .ok (.putfield 9, 3) := by decide +kernel
theorem dX6_init_12 : decode cX6_init 12 = .ok (.aload_n 0, 1) := by decide +kernel
theorem dX6_init_13 : decode cX6_init 13 = .ok (.bipush 8, 2) := by decide +kernel
theorem dX6_init_15 : decode cX6_init 15 = .ok (.newarray .int, 2) := by decide +kernel
theorem dX6_init_17 : decode cX6_init 17 = .ok (.putfield 15, 3) := by decide +kernel
theorem dX6_init_20 : decode cX6_init 20 = .ok (.aload_n 0, 1) := by decide +kernel
theorem dX6_init_21 : decode cX6_init 21 = .ok (.bipush 8, 2) := by decide +kernel
theorem dX6_init_23 : decode cX6_init 23 = .ok (.newarray .int, 2) := by decide +kernel
theorem dX6_init_25 : decode cX6_init 25 = .ok (.putfield 18, 3) := by decide +kernel
theorem dX6_init_28 : decode cX6_init 28 = .ok (.aload_n 0, 1) := by decide +kernel
theorem dX6_init_29 : decode cX6_init 29 = .ok (.bipush 8, 2) := by decide +kernel
theorem dX6_init_31 : decode cX6_init 31 = .ok (.newarray .int, 2) := by decide +kernel
theorem dX6_init_33 : decode cX6_init 33 = .ok (.putfield 21, 3) := by decide +kernel
theorem dX6_init_36 : decode cX6_init 36 = .ok (.return_, 1) := by decide +kernel
def fX6_init (μ : zM) (x0 : Nat) : Option (zM) :=
  zb1 (some (zm_nw μ (.inl (0, 8, .inl (fun _ => 0))))) fun m1 =>
  zb1 (zm_p m1 6 x0 1 (.ref μ.2.1)) fun m3 =>
  zb1 (some (zm_nw m3 (.inl (0, 8, .inl (fun _ => 0))))) fun m5 =>
  zb1 (zm_p m5 6 x0 2 (.ref m3.2.1)) fun m7 =>
  zb1 (some (zm_nw m7 (.inl (0, 8, .inl (fun _ => 0))))) fun m9 =>
  zb1 (zm_p m9 6 x0 3 (.ref m7.2.1)) fun m11 =>
  zb1 (some (zm_nw m11 (.inl (0, 8, .inl (fun _ => 0))))) fun m13 =>
  zb1 (zm_p m13 6 x0 4 (.ref m11.2.1)) fun m15 =>
  some m15
set_option maxHeartbeats 4000000 in
set_option maxRecDepth 100000 in
theorem cX6_init_ok {μ : zM} {x0 : Nat} {mo : zM} (hf : fX6_init μ x0 = some mo) : zC yX6_init cX6_init 1 (none) 1 4 32 [.ref x0] μ (none) mo := by
  unfold fX6_init at hf
  refine zC.of (by decide) (Nat.le_of_ble_eq_true rfl) (fun K hin => ?_)
  replace hin := hin rfl
  show zz K cX6_init (1, RX6, none, 1, 4, 32, none, mo) 0 0 0 [(0, .ref x0)] [] μ
  refine zr_aload_n 0 dX6_init_0 rfl ?_
  refine zr_objInit zl_235 zl_1 zl_2 (Nat.le_of_ble_eq_true rfl) (Nat.le_of_ble_eq_true rfl) dX6_init_1 ?_
  refine zr_aload_n 0 dX6_init_4 rfl ?_
  refine zr_bipush 8 dX6_init_5 (by decide) ?_
  refine zr_newa (t := 0) (N := 8) (atype := .int) (by decide) rfl zl_3 (by decide) (by decide) (by decide) (Nat.le_of_ble_eq_true rfl) (Nat.le_of_ble_eq_true rfl) dX6_init_7 ?_
  replace hf := zb1_s hf
  obtain ⟨m1, h2, hf⟩ := hf
  obtain rfl := Option.some.inj h2
  replace hf := zb1_s hf
  obtain ⟨m3, h4, hf⟩ := hf
  refine zr_putF h4 hin rfl zk6 (by decide) zl_236 rfl rfl rfl dX6_init_9 ?_
  refine zr_aload_n 0 dX6_init_12 rfl ?_
  refine zr_bipush 8 dX6_init_13 (by decide) ?_
  refine zr_newa (t := 0) (N := 8) (atype := .int) (by decide) rfl zl_3 (by decide) (by decide) (by decide) (Nat.le_of_ble_eq_true rfl) (Nat.le_of_ble_eq_true rfl) dX6_init_15 ?_
  replace hf := zb1_s hf
  obtain ⟨m5, h6, hf⟩ := hf
  obtain rfl := Option.some.inj h6
  replace hf := zb1_s hf
  obtain ⟨m7, h8, hf⟩ := hf
  refine zr_putF h8 hin rfl zk6 (by decide) zl_237 rfl rfl rfl dX6_init_17 ?_
  refine zr_aload_n 0 dX6_init_20 rfl ?_
  refine zr_bipush 8 dX6_init_21 (by decide) ?_
  refine zr_newa (t := 0) (N := 8) (atype := .int) (by decide) rfl zl_3 (by decide) (by decide) (by decide) (Nat.le_of_ble_eq_true rfl) (Nat.le_of_ble_eq_true rfl) dX6_init_23 ?_
  replace hf := zb1_s hf
  obtain ⟨m9, h10, hf⟩ := hf
  obtain rfl := Option.some.inj h10
  replace hf := zb1_s hf
  obtain ⟨m11, h12, hf⟩ := hf
  refine zr_putF h12 hin rfl zk6 (by decide) zl_238 rfl rfl rfl dX6_init_25 ?_
  refine zr_aload_n 0 dX6_init_28 rfl ?_
  refine zr_bipush 8 dX6_init_29 (by decide) ?_
  refine zr_newa (t := 0) (N := 8) (atype := .int) (by decide) rfl zl_3 (by decide) (by decide) (by decide) (Nat.le_of_ble_eq_true rfl) (Nat.le_of_ble_eq_true rfl) dX6_init_31 ?_
  replace hf := zb1_s hf
  obtain ⟨m13, h14, hf⟩ := hf
  obtain rfl := Option.some.inj h14
  replace hf := zb1_s hf
  obtain ⟨m15, h16, hf⟩ := hf
  refine zr_putF h16 hin rfl zk6 (by decide) zl_239 rfl rfl rfl dX6_init_33 ?_
  cases hf
  exact zr_vret dX6_init_36
theorem zl_240 : Cond.methodLink RX4 3 Lib.objectInit ∈ zt := zt_at 358 (by decide +kernel)
theorem zl_241 : Cond.classLink RX4 9 RX9 ∈ zt := zt_at 359 (by decide +kernel)
theorem zl_242 : Cond.instantiable RX9 13 ∈ zt := zt_at 166 (by decide +kernel)
theorem zl_243 : Cond.code yX9_init cX9_init 1 (none) ∈ zt := zt_at 169 (by decide +kernel)
theorem zvs_X9_init : zvS yX9_init cX9_init 1 (none) 0 := ⟨zl_243, zl_14, ⟨by decide +kernel, by decide +kernel, by decide +kernel⟩, by decide⟩
theorem zl_244 : Cond.methodLinkNest RX4 11 yX9_init "TwoEchoes" ∈ zn := zn_at 360 (by decide +kernel)
theorem zl_245 : Cond.instanceMethod yX9_init ∈ zt := zt_at 168 (by decide +kernel)
theorem zl_246 : Cond.fieldLink RX4 12 "TwoEchoes$Reader" "valley" "LTwoEchoes$Valley;" ∈ zt := zt_at 367 (by decide +kernel)
theorem zl_247 : Cond.classLink RX4 18 RX2 ∈ zt := zt_at 361 (by decide +kernel)
theorem zl_248 : Cond.instantiable RX2 4 ∈ zt := zt_at 240 (by decide +kernel)
theorem zl_249 : Cond.initialized RX2 ∈ zt := zt_at 132 (by decide +kernel)
theorem zl_250 : Cond.code yX2_init cX2_init 1 (none) ∈ zt := zt_at 243 (by decide +kernel)
theorem zvs_X2_init : zvS yX2_init cX2_init 1 (none) 0 := ⟨zl_250, zl_249, ⟨by decide +kernel, by decide +kernel, by decide +kernel⟩, by decide⟩
theorem zl_251 : Cond.methodLinkNest RX4 20 yX2_init "TwoEchoes" ∈ zn := zn_at 362 (by decide +kernel)
theorem zl_252 : Cond.instanceMethod yX2_init ∈ zt := zt_at 242 (by decide +kernel)
theorem zl_253 : Cond.fieldLink RX4 21 "TwoEchoes$Reader" "day" "LTwoEchoes$Day;" ∈ zt := zt_at 369 (by decide +kernel)
theorem zl_254 : Cond.classLink RX4 25 RX3 ∈ zt := zt_at 363 (by decide +kernel)
theorem zl_255 : Cond.instantiable RX3 4 ∈ zt := zt_at 266 (by decide +kernel)
theorem zl_256 : Cond.code yX3_init cX3_init 1 (none) ∈ zt := zt_at 269 (by decide +kernel)
theorem zvs_X3_init : zvS yX3_init cX3_init 1 (none) 0 := ⟨zl_256, zl_207, ⟨by decide +kernel, by decide +kernel, by decide +kernel⟩, by decide⟩
theorem zl_257 : Cond.methodLinkNest RX4 27 yX3_init "TwoEchoes" ∈ zn := zn_at 364 (by decide +kernel)
theorem zl_258 : Cond.instanceMethod yX3_init ∈ zt := zt_at 268 (by decide +kernel)
theorem zl_259 : Cond.fieldLink RX4 28 "TwoEchoes$Reader" "lesson" "LTwoEchoes$Lesson;" ∈ zt := zt_at 371 (by decide +kernel)
theorem zl_260 : Cond.classLink RX4 32 RX6 ∈ zt := zt_at 365 (by decide +kernel)
theorem zl_261 : Cond.instantiable RX6 5 ∈ zt := zt_at 288 (by decide +kernel)
theorem zl_262 : Cond.initialized RX6 ∈ zt := zt_at 134 (by decide +kernel)
theorem zl_263 : Cond.code yX6_init cX6_init 1 (none) ∈ zt := zt_at 291 (by decide +kernel)
theorem zvs_X6_init : zvS yX6_init cX6_init 1 (none) 0 := ⟨zl_263, zl_262, ⟨by decide +kernel, by decide +kernel, by decide +kernel⟩, by decide⟩
theorem zl_264 : Cond.methodLinkNest RX4 34 yX6_init "TwoEchoes" ∈ zn := zn_at 366 (by decide +kernel)
theorem zl_265 : Cond.instanceMethod yX6_init ∈ zt := zt_at 290 (by decide +kernel)
theorem zl_266 : Cond.fieldLink RX4 35 "TwoEchoes$Reader" "sight" "LTwoEchoes$Sight;" ∈ zt := zt_at 373 (by decide +kernel)
theorem zl_267 : Cond.fieldLink RX4 39 "TwoEchoes$Reader" "fault" "I" ∈ zt := zt_at 375 (by decide +kernel)
theorem zl_268 : Cond.fieldLink RX4 43 "TwoEchoes$Reader" "faultPlace" "I" ∈ zt := zt_at 377 (by decide +kernel)
theorem zl_269 : Cond.fieldLink RX4 46 "TwoEchoes$Reader" "length" "I" ∈ zt := zt_at 380 (by decide +kernel)
theorem zl_270 : Cond.fieldLink RX4 49 "TwoEchoes$Reader" "token" "I" ∈ zt := zt_at 381 (by decide +kernel)
theorem zl_271 : Cond.fieldLink RX4 52 "TwoEchoes$Reader" "start" "I" ∈ zt := zt_at 382 (by decide +kernel)
theorem zl_272 : Cond.fieldLink RX4 55 "TwoEchoes$Reader" "behind" "I" ∈ zt := zt_at 383 (by decide +kernel)
theorem zl_273 : Cond.fieldLink RX4 58 "TwoEchoes$Reader" "numbers" "[I" ∈ zt := zt_at 384 (by decide +kernel)
theorem zl_274 : Cond.fieldLink RX4 62 "TwoEchoes$Reader" "places" "[I" ∈ zt := zt_at 385 (by decide +kernel)
theorem zl_275 : Cond.fieldLink RX4 65 "TwoEchoes$Reader" "tape" "[B" ∈ zt := zt_at 379 (by decide +kernel)
theorem dX4_init_0 : decode cX4_init 0 = .ok (.aload_n 0, 1) := by decide +kernel
theorem dX4_init_1 : decode cX4_init 1 = .ok (.invokespecial 3, 3) := by decide +kernel
theorem dX4_init_4 : decode cX4_init 4 = .ok (.aload_n 0, 1) := by decide +kernel
theorem dX4_init_5 : decode cX4_init 5 = .ok (.new 9, 3) := by decide +kernel
theorem dX4_init_8 : decode cX4_init 8 = .ok (.dup, 1) := by decide +kernel
theorem dX4_init_9 : decode cX4_init 9 = .ok (.invokespecial 11, 3) := by decide +kernel
theorem dX4_init_12 : decode cX4_init 12 = .ok (.putfield 12, 3) := by decide +kernel
theorem dX4_init_15 : decode cX4_init 15 = .ok (.aload_n 0, 1) := by decide +kernel
theorem dX4_init_16 : decode cX4_init 16 = .ok (.new 18, 3) := by decide +kernel
theorem dX4_init_19 : decode cX4_init 19 = .ok (.dup, 1) := by decide +kernel
theorem dX4_init_20 : decode cX4_init 20 = .ok (.invokespecial 20, 3) := by decide +kernel
theorem dX4_init_23 : decode cX4_init 23 = .ok (.putfield 21, 3) := by decide +kernel
theorem dX4_init_26 : decode cX4_init 26 = .ok (.aload_n 0, 1) := by decide +kernel
theorem dX4_init_27 : decode cX4_init 27 = .ok (.new 25, 3) := by decide +kernel
theorem dX4_init_30 : decode cX4_init 30 = .ok (.dup, 1) := by decide +kernel
theorem dX4_init_31 : decode cX4_init 31 = .ok (.invokespecial 27, 3) := by decide +kernel
theorem dX4_init_34 : decode cX4_init 34 = .ok (.putfield 28, 3) := by decide +kernel
theorem dX4_init_37 : decode cX4_init 37 = .ok (.aload_n 0, 1) := by decide +kernel
theorem dX4_init_38 : decode cX4_init 38 = .ok (.new 32, 3) := by decide +kernel
theorem dX4_init_41 : decode cX4_init 41 = .ok (.dup, 1) := by decide +kernel
theorem dX4_init_42 : decode cX4_init 42 = .ok (.invokespecial 34, 3) := by decide +kernel
theorem dX4_init_45 : decode cX4_init 45 = .ok (.putfield 35, 3) := by decide +kernel
theorem dX4_init_48 : decode cX4_init 48 = .ok (.aload_n 0, 1) := by decide +kernel
theorem dX4_init_49 : decode cX4_init 49 = .ok (.iconst 0, 1) := by decide +kernel
theorem dX4_init_50 : decode cX4_init 50 = .ok (.putfield 39, 3) := by decide +kernel
theorem dX4_init_53 : decode cX4_init 53 = .ok (.aload_n 0, 1) := by decide +kernel
theorem dX4_init_54 : decode cX4_init 54 = .ok (.iconst (-1), 1) := by decide +kernel
theorem dX4_init_55 : decode cX4_init 55 = .ok (.putfield 43, 3) := by decide +kernel
theorem dX4_init_58 : decode cX4_init 58 = .ok (.aload_n 0, 1) := by decide +kernel
theorem dX4_init_59 : decode cX4_init 59 = .ok (.iconst 0, 1) := by decide +kernel
theorem dX4_init_60 : decode cX4_init 60 = .ok (.putfield 46, 3) := by decide +kernel
theorem dX4_init_63 : decode cX4_init 63 = .ok (.aload_n 0, 1) := by decide +kernel
theorem dX4_init_64 : decode cX4_init 64 = .ok (.iconst 0, 1) := by decide +kernel
theorem dX4_init_65 : decode cX4_init 65 = .ok (.putfield 49, 3) := by decide +kernel
theorem dX4_init_68 : decode cX4_init 68 = .ok (.aload_n 0, 1) := by decide +kernel
theorem dX4_init_69 : decode cX4_init 69 = .ok (.iconst 0, 1) := by decide +kernel
theorem dX4_init_70 : decode cX4_init 70 = .ok (.putfield 52, 3) := by decide +kernel
theorem dX4_init_73 : decode cX4_init 73 = .ok (.aload_n 0, 1) := by decide +kernel
theorem dX4_init_74 : decode cX4_init 74 = .ok (.iconst 0, 1) := by decide +kernel
theorem dX4_init_75 : decode cX4_init 75 = .ok (.putfield 55, 3) := by decide +kernel
theorem dX4_init_78 : decode cX4_init 78 = .ok (.aload_n 0, 1) := by decide +kernel
theorem dX4_init_79 : decode cX4_init 79 = .ok (.iconst 3, 1) := by decide +kernel
theorem dX4_init_80 : decode cX4_init 80 = .ok (.newarray .int, 2) := by decide +kernel
theorem dX4_init_82 : decode cX4_init 82 = .ok (.putfield 58, 3) := by decide +kernel
theorem dX4_init_85 : decode cX4_init 85 = .ok (.aload_n 0, 1) := by decide +kernel
theorem dX4_init_86 : decode cX4_init 86 = .ok (.iconst 3, 1) := by decide +kernel
theorem dX4_init_87 : decode cX4_init 87 = .ok (.newarray .int, 2) := by decide +kernel
theorem dX4_init_89 : decode cX4_init 89 = .ok (.putfield 62, 3) := by decide +kernel
theorem dX4_init_92 : decode cX4_init 92 = .ok (.aload_n 0, 1) := by decide +kernel
theorem dX4_init_93 : decode cX4_init 93 = .ok (.aload_n 1, 1) := by decide +kernel
theorem dX4_init_94 : decode cX4_init 94 = .ok (.putfield 65, 3) := by decide +kernel
theorem dX4_init_97 : decode cX4_init 97 = .ok (.return_, 1) := by decide +kernel
def fX4_init (μ : zM) (x0 : Nat) (x1 : Nat) : Option (zM) :=
  zb1 (some (zm_nw μ (.inr (9, [.int 0, .null, .null, .null, .int 0, .null, .null, .null, .int 0, .null, .null, .null, .null])))) fun m1 =>
  zb1 (fX9_init m1 μ.2.1) fun m4 =>
  zb1 (zm_p m4 4 x0 0 (.ref μ.2.1)) fun m5 =>
  zb1 (some (zm_nw m5 (.inr (2, [.int 0, .null, .null, .null])))) fun m7 =>
  zb1 (fX2_init m7 m5.2.1) fun m10 =>
  zb1 (zm_p m10 4 x0 1 (.ref m5.2.1)) fun m11 =>
  zb1 (some (zm_nw m11 (.inr (3, [.int 0, .int 0, .null, .null])))) fun m13 =>
  zb1 (fX3_init m13 m11.2.1) fun m16 =>
  zb1 (zm_p m16 4 x0 2 (.ref m11.2.1)) fun m17 =>
  zb1 (some (zm_nw m17 (.inr (6, [.int 0, .null, .null, .null, .null])))) fun m19 =>
  zb1 (fX6_init m19 m17.2.1) fun m22 =>
  zb1 (zm_p m22 4 x0 3 (.ref m17.2.1)) fun m23 =>
  zb1 (zm_p m23 4 x0 4 (.int 0)) fun m25 =>
  zb1 (zm_p m25 4 x0 5 (.int (-1))) fun m27 =>
  zb1 (zm_p m27 4 x0 7 (.int 0)) fun m29 =>
  zb1 (zm_p m29 4 x0 8 (.int 0)) fun m31 =>
  zb1 (zm_p m31 4 x0 9 (.int 0)) fun m33 =>
  zb1 (zm_p m33 4 x0 10 (.int 0)) fun m35 =>
  zb1 (some (zm_nw m35 (.inl (0, 3, .inl (fun _ => 0))))) fun m37 =>
  zb1 (zm_p m37 4 x0 11 (.ref m35.2.1)) fun m39 =>
  zb1 (some (zm_nw m39 (.inl (0, 3, .inl (fun _ => 0))))) fun m41 =>
  zb1 (zm_p m41 4 x0 12 (.ref m39.2.1)) fun m43 =>
  zb1 (zm_p m43 4 x0 6 (.ref x1)) fun m45 =>
  some m45
set_option maxHeartbeats 4000000 in
set_option maxRecDepth 100000 in
theorem cX4_init_ok {μ : zM} {x0 : Nat} {x1 : Nat} {mo : zM} (hf : fX4_init μ x0 x1 = some mo) : zC yX4_init cX4_init 2 (none) 2 25 358 [.ref x0, .ref x1] μ (none) mo := by
  unfold fX4_init at hf
  refine zC.of (by decide) (Nat.le_of_ble_eq_true rfl) (fun K hin => ?_)
  replace hin := hin rfl
  show zz K cX4_init (2, RX4, none, 2, 25, 358, none, mo) 0 0 0 [(0, .ref x0), (1, .ref x1)] [] μ
  refine zr_aload_n 0 dX4_init_0 rfl ?_
  refine zr_objInit zl_240 zl_1 zl_2 (Nat.le_of_ble_eq_true rfl) (Nat.le_of_ble_eq_true rfl) dX4_init_1 ?_
  refine zr_aload_n 0 dX4_init_4 rfl ?_
  refine zr_new [.int 0, .null, .null, .null, .int 0, .null, .null, .null, .int 0, .null, .null, .null, .null] zk9 zl_241 zl_242 zl_14 (by decide +kernel) (Nat.le_of_ble_eq_true rfl) (Nat.le_of_ble_eq_true rfl) dX4_init_5 ?_
  replace hf := zb1_s hf
  obtain ⟨m1, h2, hf⟩ := hf
  obtain rfl := Option.some.inj h2
  refine zr_dup dX4_init_8 rfl ?_
  replace hf := zb1_s hf
  obtain ⟨m4, h3, hf⟩ := hf
  refine zr_callIN [] (cX9_init_ok h3) zvs_X9_init zl_245 rfl zl_244 rfl (Nat.le_of_ble_eq_true rfl) (Nat.le_of_ble_eq_true rfl) (Nat.le_of_ble_eq_true rfl) (Nat.le_of_ble_eq_true rfl) dX4_init_9 rfl ?_
  replace hf := zb1_s hf
  obtain ⟨m5, h6, hf⟩ := hf
  refine zr_putF h6 hin rfl zk4 (by decide) zl_246 rfl rfl rfl dX4_init_12 ?_
  refine zr_aload_n 0 dX4_init_15 rfl ?_
  refine zr_new [.int 0, .null, .null, .null] zk2 zl_247 zl_248 zl_249 (by decide +kernel) (Nat.le_of_ble_eq_true rfl) (Nat.le_of_ble_eq_true rfl) dX4_init_16 ?_
  replace hf := zb1_s hf
  obtain ⟨m7, h8, hf⟩ := hf
  obtain rfl := Option.some.inj h8
  refine zr_dup dX4_init_19 rfl ?_
  replace hf := zb1_s hf
  obtain ⟨m10, h9, hf⟩ := hf
  refine zr_callIN [] (cX2_init_ok h9) zvs_X2_init zl_252 rfl zl_251 rfl (Nat.le_of_ble_eq_true rfl) (Nat.le_of_ble_eq_true rfl) (Nat.le_of_ble_eq_true rfl) (Nat.le_of_ble_eq_true rfl) dX4_init_20 rfl ?_
  replace hf := zb1_s hf
  obtain ⟨m11, h12, hf⟩ := hf
  refine zr_putF h12 hin rfl zk4 (by decide) zl_253 rfl rfl rfl dX4_init_23 ?_
  refine zr_aload_n 0 dX4_init_26 rfl ?_
  refine zr_new [.int 0, .int 0, .null, .null] zk3 zl_254 zl_255 zl_207 (by decide +kernel) (Nat.le_of_ble_eq_true rfl) (Nat.le_of_ble_eq_true rfl) dX4_init_27 ?_
  replace hf := zb1_s hf
  obtain ⟨m13, h14, hf⟩ := hf
  obtain rfl := Option.some.inj h14
  refine zr_dup dX4_init_30 rfl ?_
  replace hf := zb1_s hf
  obtain ⟨m16, h15, hf⟩ := hf
  refine zr_callIN [] (cX3_init_ok h15) zvs_X3_init zl_258 rfl zl_257 rfl (Nat.le_of_ble_eq_true rfl) (Nat.le_of_ble_eq_true rfl) (Nat.le_of_ble_eq_true rfl) (Nat.le_of_ble_eq_true rfl) dX4_init_31 rfl ?_
  replace hf := zb1_s hf
  obtain ⟨m17, h18, hf⟩ := hf
  refine zr_putF h18 hin rfl zk4 (by decide) zl_259 rfl rfl rfl dX4_init_34 ?_
  refine zr_aload_n 0 dX4_init_37 rfl ?_
  refine zr_new [.int 0, .null, .null, .null, .null] zk6 zl_260 zl_261 zl_262 (by decide +kernel) (Nat.le_of_ble_eq_true rfl) (Nat.le_of_ble_eq_true rfl) dX4_init_38 ?_
  replace hf := zb1_s hf
  obtain ⟨m19, h20, hf⟩ := hf
  obtain rfl := Option.some.inj h20
  refine zr_dup dX4_init_41 rfl ?_
  replace hf := zb1_s hf
  obtain ⟨m22, h21, hf⟩ := hf
  refine zr_callIN [] (cX6_init_ok h21) zvs_X6_init zl_265 rfl zl_264 rfl (Nat.le_of_ble_eq_true rfl) (Nat.le_of_ble_eq_true rfl) (Nat.le_of_ble_eq_true rfl) (Nat.le_of_ble_eq_true rfl) dX4_init_42 rfl ?_
  replace hf := zb1_s hf
  obtain ⟨m23, h24, hf⟩ := hf
  refine zr_putF h24 hin rfl zk4 (by decide) zl_266 rfl rfl rfl dX4_init_45 ?_
  refine zr_aload_n 0 dX4_init_48 rfl ?_
  refine zr_iconst 0 dX4_init_49 (by decide) ?_
  replace hf := zb1_s hf
  obtain ⟨m25, h26, hf⟩ := hf
  refine zr_put h26 zk4 (by decide) zl_267 rfl rfl rfl dX4_init_50 ?_
  refine zr_aload_n 0 dX4_init_53 rfl ?_
  refine zr_iconst (-1) dX4_init_54 (by decide) ?_
  replace hf := zb1_s hf
  obtain ⟨m27, h28, hf⟩ := hf
  refine zr_put h28 zk4 (by decide) zl_268 rfl rfl rfl dX4_init_55 ?_
  refine zr_aload_n 0 dX4_init_58 rfl ?_
  refine zr_iconst 0 dX4_init_59 (by decide) ?_
  replace hf := zb1_s hf
  obtain ⟨m29, h30, hf⟩ := hf
  refine zr_put h30 zk4 (by decide) zl_269 rfl rfl rfl dX4_init_60 ?_
  refine zr_aload_n 0 dX4_init_63 rfl ?_
  refine zr_iconst 0 dX4_init_64 (by decide) ?_
  replace hf := zb1_s hf
  obtain ⟨m31, h32, hf⟩ := hf
  refine zr_put h32 zk4 (by decide) zl_270 rfl rfl rfl dX4_init_65 ?_
  refine zr_aload_n 0 dX4_init_68 rfl ?_
  refine zr_iconst 0 dX4_init_69 (by decide) ?_
  replace hf := zb1_s hf
  obtain ⟨m33, h34, hf⟩ := hf
  refine zr_put h34 zk4 (by decide) zl_271 rfl rfl rfl dX4_init_70 ?_
  refine zr_aload_n 0 dX4_init_73 rfl ?_
  refine zr_iconst 0 dX4_init_74 (by decide) ?_
  replace hf := zb1_s hf
  obtain ⟨m35, h36, hf⟩ := hf
  refine zr_put h36 zk4 (by decide) zl_272 rfl rfl rfl dX4_init_75 ?_
  refine zr_aload_n 0 dX4_init_78 rfl ?_
  refine zr_iconst 3 dX4_init_79 (by decide) ?_
  refine zr_newa (t := 0) (N := 3) (atype := .int) (by decide) rfl zl_3 (by decide) (by decide) (by decide) (Nat.le_of_ble_eq_true rfl) (Nat.le_of_ble_eq_true rfl) dX4_init_80 ?_
  replace hf := zb1_s hf
  obtain ⟨m37, h38, hf⟩ := hf
  obtain rfl := Option.some.inj h38
  replace hf := zb1_s hf
  obtain ⟨m39, h40, hf⟩ := hf
  refine zr_putF h40 hin rfl zk4 (by decide) zl_273 rfl rfl rfl dX4_init_82 ?_
  refine zr_aload_n 0 dX4_init_85 rfl ?_
  refine zr_iconst 3 dX4_init_86 (by decide) ?_
  refine zr_newa (t := 0) (N := 3) (atype := .int) (by decide) rfl zl_3 (by decide) (by decide) (by decide) (Nat.le_of_ble_eq_true rfl) (Nat.le_of_ble_eq_true rfl) dX4_init_87 ?_
  replace hf := zb1_s hf
  obtain ⟨m41, h42, hf⟩ := hf
  obtain rfl := Option.some.inj h42
  replace hf := zb1_s hf
  obtain ⟨m43, h44, hf⟩ := hf
  refine zr_putF h44 hin rfl zk4 (by decide) zl_274 rfl rfl rfl dX4_init_89 ?_
  refine zr_aload_n 0 dX4_init_92 rfl ?_
  refine zr_aload_n 1 dX4_init_93 rfl ?_
  replace hf := zb1_s hf
  obtain ⟨m45, h46, hf⟩ := hf
  refine zr_putF h46 hin rfl zk4 (by decide) zl_275 rfl rfl rfl dX4_init_94 ?_
  cases hf
  exact zr_vret dX4_init_97
theorem zl_276 : Cond.fieldLink RX9 49 "TwoEchoes$Valley" "skies" "I" ∈ zt := zt_at 202 (by decide +kernel)
theorem zl_277 : Cond.methodLink RX9 52 yJ7_fill_53178 ∈ zt := zt_at 542 (by decide +kernel)
theorem dX9_clear_0 : decode cX9_clear 0 = .ok (.aload_n 0, 1) := by decide +kernel
theorem dX9_clear_1 : decode cX9_clear 1 = .ok (.bipush 12, 2) := by decide +kernel
theorem dX9_clear_3 : decode cX9_clear 3 = .ok (.putfield 42, 3) := by decide +kernel
theorem dX9_clear_6 : decode cX9_clear 6 = .ok (.iconst 0, 1) := by decide +kernel
theorem dX9_clear_7 : decode cX9_clear 7 = .ok (.istore_n 1, 1) := by decide +kernel
theorem dX9_clear_8 : decode cX9_clear 8 = .ok (.iload_n 1, 1) := by decide +kernel
theorem dX9_clear_9 : decode cX9_clear 9 = .ok (.bipush 8, 2) := by decide +kernel
theorem dX9_clear_11 : decode cX9_clear 11 = .ok (.if_icmp .ge 30, 3) := by decide +kernel
theorem dX9_clear_14 : decode cX9_clear 14 = .ok (.aload_n 0, 1) := by decide +kernel
theorem dX9_clear_15 : decode cX9_clear 15 = .ok (.getfield 9, 3) := by decide +kernel
theorem dX9_clear_18 : decode cX9_clear 18 = .ok (.iload_n 1, 1) := by decide +kernel
theorem dX9_clear_19 : decode cX9_clear 19 = .ok (.iload_n 1, 1) := by decide +kernel
theorem dX9_clear_20 : decode cX9_clear 20 = .ok (.iastore, 1) := by decide +kernel
theorem dX9_clear_21 : decode cX9_clear 21 = .ok (.aload_n 0, 1) := by decide +kernel
theorem dX9_clear_22 : decode cX9_clear 22 = .ok (.getfield 15, 3) := by decide +kernel
theorem dX9_clear_25 : decode cX9_clear 25 = .ok (.iload_n 1, 1) := by decide +kernel
theorem dX9_clear_26 : decode cX9_clear 26 = .ok (.iconst 0, 1) := by decide +kernel
theorem dX9_clear_27 : decode cX9_clear 27 = .ok (.iastore, 1) := by decide +kernel
theorem dX9_clear_28 : decode cX9_clear 28 = .ok (.aload_n 0, 1) := by decide +kernel
theorem dX9_clear_29 : decode cX9_clear 29 = .ok (.getfield 18, 3) := by decide +kernel
theorem dX9_clear_32 : decode cX9_clear 32 = .ok (.iload_n 1, 1) := by decide +kernel
theorem dX9_clear_33 : decode cX9_clear 33 = .ok (.iconst 1, 1) := by decide +kernel
theorem dX9_clear_34 : decode cX9_clear 34 = .ok (.iastore, 1) := by decide +kernel
theorem dX9_clear_35 : decode cX9_clear 35 = .ok (.iinc 1 1, 3) := by decide +kernel
theorem dX9_clear_38 : decode cX9_clear 38 = .ok (.goto (-30), 3) := by decide +kernel
theorem dX9_clear_41 : decode cX9_clear 41 = .ok (.aload_n 0, 1) := by decide +kernel
theorem dX9_clear_42 : decode cX9_clear 42 = .ok (.iconst 0, 1) := by decide +kernel
theorem dX9_clear_43 : decode cX9_clear 43 = .ok (.putfield 46, 3) := by decide +kernel
theorem dX9_clear_46 : decode cX9_clear 46 = .ok (.aload_n 0, 1) := by decide +kernel
theorem dX9_clear_47 : decode cX9_clear 47 = .ok (.iconst 0, 1) := by decide +kernel
theorem dX9_clear_48 : decode cX9_clear 48 = .ok (.putfield 49, 3) := by decide +kernel
theorem dX9_clear_51 : decode cX9_clear 51 = .ok (.aload_n 0, 1) := by decide +kernel
theorem dX9_clear_52 : decode cX9_clear 52 = .ok (.getfield 39, 3) := by decide +kernel
theorem dX9_clear_55 : decode cX9_clear 55 = .ok (.iconst 0, 1) := by decide +kernel
theorem dX9_clear_56 : decode cX9_clear 56 = .ok (.invokestatic 52, 3) := by decide +kernel
theorem dX9_clear_59 : decode cX9_clear 59 = .ok (.return_, 1) := by decide +kernel
def fX9_clear_l8 (x0 : Nat) (F5 : Int32 → zM → Option (zM)) (x1_3 : Int32) (m4 : zM) : Option (zM) :=
  if 8 ≤ x1_3 then (
  some m4)
  else (
  zb1 (zm_gR m4 9 x0 1) fun v9 =>
  zb1 (zm_sI m4 0 v9 x1_3 x1_3) fun m11 =>
  zb1 (zm_gR m11 9 x0 2) fun v13 =>
  zb1 (zm_sI m11 0 v13 x1_3 0) fun m15 =>
  zb1 (zm_gR m15 9 x0 3) fun v17 =>
  zb1 (zm_sI m15 0 v17 x1_3 1) fun m19 =>
  F5 (x1_3 + 1) m19)
def fX9_clear (μ : zM) (x0 : Nat) : Option (zM) := zgd (zm_ck μ 9 x0) <|
  zb1 (zm_p μ 9 x0 0 (.int 12)) fun m1 =>
  zb1 (zf2 (fX9_clear_l8 x0) zfu 0 m1) fun m7 =>
  zb1 (zm_p m7 9 x0 4 (.int 0)) fun m22 =>
  zb1 (zm_p m22 9 x0 8 (.int 0)) fun m24 =>
  zb1 (zm_gR m24 9 x0 12) fun v26 =>
  zb1 (fJ7_fill_53178 m24 v26 0) fun m29 =>
  some m29
theorem fX9_clear_ck {μ : zM} {x0 : Nat} {z : zM} (h : fX9_clear μ x0 = some z) : zm_ck μ 9 x0 = true := (zgd_s h).1
set_option maxHeartbeats 4000000 in
set_option maxRecDepth 100000 in
theorem cX9_clear_ok {μ : zM} {x0 : Nat} {mo : zM} (hf : fX9_clear μ x0 = some mo) : zC yX9_clear cX9_clear 2 (none) 1 0 0 [.ref x0] μ (none) mo := by
  replace hf := (zgd_s hf).2
  refine zC.of (by decide) (Nat.le_of_ble_eq_true rfl) (fun K hin => ?_)
  clear hin
  show zz K cX9_clear (2, RX9, none, 1, 0, 0, none, mo) 0 0 0 [(0, .ref x0)] [] μ
  refine zr_aload_n 0 dX9_clear_0 rfl ?_
  refine zr_bipush 12 dX9_clear_1 (by decide) ?_
  replace hf := zb1_s hf
  obtain ⟨m1, h2, hf⟩ := hf
  refine zr_put h2 zk9 (by decide) zl_8 rfl rfl rfl dX9_clear_3 ?_
  refine zr_iconst 0 dX9_clear_6 (by decide) ?_
  refine zr_istore_n [(1, .int 0), (0, .ref x0)] dX9_clear_7 (Nat.le_of_ble_eq_true rfl) rfl ?_
  replace hf := zb1_s hf
  obtain ⟨m7, hg, hf⟩ := hf
  have hj8 : zz K cX9_clear (2, RX9, none, 1, 0, 0, none, mo) 0 0 41 [(0, .ref x0)] [] m7 := by
    refine zr_aload_n 0 dX9_clear_41 rfl ?_
    refine zr_iconst 0 dX9_clear_42 (by decide) ?_
    replace hf := zb1_s hf
    obtain ⟨m22, h23, hf⟩ := hf
    refine zr_put h23 zk9 (by decide) zl_103 rfl rfl rfl dX9_clear_43 ?_
    refine zr_aload_n 0 dX9_clear_46 rfl ?_
    refine zr_iconst 0 dX9_clear_47 (by decide) ?_
    replace hf := zb1_s hf
    obtain ⟨m24, h25, hf⟩ := hf
    refine zr_put h25 zk9 (by decide) zl_276 rfl rfl rfl dX9_clear_48 ?_
    refine zr_aload_n 0 dX9_clear_51 rfl ?_
    replace hf := zb1_s hf
    obtain ⟨v26, h27, hf⟩ := hf
    refine zr_get (zm_gR_g h27) zk9 (by decide) zl_7 dX9_clear_52 ?_
    refine zr_iconst 0 dX9_clear_55 (by decide) ?_
    replace hf := zb1_s hf
    obtain ⟨m29, h28, hf⟩ := hf
    refine zr_callS [.ref v26, .int 0] (cJ7_fill_53178_ok h28) zvs_J7_fill_53178 zl_49 zl_277 rfl (Nat.le_of_ble_eq_true rfl) (Nat.le_of_ble_eq_true rfl) (Nat.le_of_ble_eq_true rfl) (Nat.le_of_ble_eq_true rfl) dX9_clear_56 rfl ?_
    cases hf
    exact zr_vret dX9_clear_59
  clear hf
  have hf := hg
  clear hg
  have hL21 : ∀ (n : Nat) (x1_3 : Int32) (m4 : zM), zf2 (fX9_clear_l8 x0) n x1_3 m4 = some m7 → zz K cX9_clear (2, RX9, none, 1, 0, 0, none, mo) 0 0 8 [(0, .ref x0), (1, .int x1_3)] [] m4 := by
    intro n
    induction n with
    | zero => intro x1_3 m4 hf; cases hf
    | succ n ih6 =>
      intro x1_3 m4 hf
      replace hf := zf2_s hf
      generalize zf2 (fX9_clear_l8 x0) n = F5 at hf ih6
      unfold fX9_clear_l8 at hf
      refine zr_iload_n 1 dX9_clear_8 rfl ?_
      refine zr_bipush 8 dX9_clear_9 (by decide) ?_
      refine zr_icmp_ge 41 dX9_clear_11 (by decide) (fun hc => ?_) (fun hc => ?_)
      · rw [if_pos hc] at hf
        cases hf
        exact zr_lv [0] rfl hj8
      · rw [if_neg hc] at hf
        refine zr_aload_n 0 dX9_clear_14 rfl ?_
        replace hf := zb1_s hf
        obtain ⟨v9, h10, hf⟩ := hf
        refine zr_get (zm_gR_g h10) zk9 (by decide) zl_116 dX9_clear_15 ?_
        refine zr_iload_n 1 dX9_clear_18 rfl ?_
        refine zr_iload_n 1 dX9_clear_19 rfl ?_
        replace hf := zb1_s hf
        obtain ⟨m11, h12, hf⟩ := hf
        refine zr_iast h12 dX9_clear_20 ?_
        refine zr_aload_n 0 dX9_clear_21 rfl ?_
        replace hf := zb1_s hf
        obtain ⟨v13, h14, hf⟩ := hf
        refine zr_get (zm_gR_g h14) zk9 (by decide) zl_115 dX9_clear_22 ?_
        refine zr_iload_n 1 dX9_clear_25 rfl ?_
        refine zr_iconst 0 dX9_clear_26 (by decide) ?_
        replace hf := zb1_s hf
        obtain ⟨m15, h16, hf⟩ := hf
        refine zr_iast h16 dX9_clear_27 ?_
        refine zr_aload_n 0 dX9_clear_28 rfl ?_
        replace hf := zb1_s hf
        obtain ⟨v17, h18, hf⟩ := hf
        refine zr_get (zm_gR_g h18) zk9 (by decide) zl_228 dX9_clear_29 ?_
        refine zr_iload_n 1 dX9_clear_32 rfl ?_
        refine zr_iconst 1 dX9_clear_33 (by decide) ?_
        replace hf := zb1_s hf
        obtain ⟨m19, h20, hf⟩ := hf
        refine zr_iast h20 dX9_clear_34 ?_
        refine zr_iinc (j := 1) (x1_3 + 1) [(1, .int (x1_3 + 1)), (0, .ref x0)] dX9_clear_35 rfl rfl (Nat.le_of_ble_eq_true rfl) rfl ?_
        refine zr_goto 8 dX9_clear_38 (by decide) ?_
        exact zr_lv [1, 0] rfl (ih6 (x1_3 + 1) m19 hf)
  exact zr_lv [1, 0] rfl (hL21 _ 0 m1 hf)
theorem zl_278 : Cond.fieldLink RX6 24 "TwoEchoes$Sight" "facts" "I" ∈ zt := zt_at 293 (by decide +kernel)
theorem dX6_clear_0 : decode cX6_clear 0 = .ok (.aload_n 0, 1) := by decide +kernel
theorem dX6_clear_1 : decode cX6_clear 1 = .ok (.iconst 0, 1) := by decide +kernel
theorem dX6_clear_2 : decode cX6_clear 2 = .ok (.putfield 24, 3) := by decide +kernel
theorem dX6_clear_5 : decode cX6_clear 5 = .ok (.return_, 1) := by decide +kernel
def fX6_clear (μ : zM) (x0 : Nat) : Option (zM) := zgd (zm_ck μ 6 x0) <|
  zb1 (zm_p μ 6 x0 0 (.int 0)) fun m1 =>
  some m1
theorem fX6_clear_ck {μ : zM} {x0 : Nat} {z : zM} (h : fX6_clear μ x0 = some z) : zm_ck μ 6 x0 = true := (zgd_s h).1
set_option maxHeartbeats 4000000 in
set_option maxRecDepth 100000 in
theorem cX6_clear_ok {μ : zM} {x0 : Nat} {mo : zM} (hf : fX6_clear μ x0 = some mo) : zC yX6_clear cX6_clear 1 (none) 0 0 0 [.ref x0] μ (none) mo := by
  replace hf := (zgd_s hf).2
  refine zC.of (by decide) (Nat.le_of_ble_eq_true rfl) (fun K hin => ?_)
  clear hin
  show zz K cX6_clear (1, RX6, none, 0, 0, 0, none, mo) 0 0 0 [(0, .ref x0)] [] μ
  refine zr_aload_n 0 dX6_clear_0 rfl ?_
  refine zr_iconst 0 dX6_clear_1 (by decide) ?_
  replace hf := zb1_s hf
  obtain ⟨m1, h2, hf⟩ := hf
  refine zr_put h2 zk6 (by decide) zl_278 rfl rfl rfl dX6_clear_2 ?_
  cases hf
  exact zr_vret dX6_clear_5
theorem zl_279 : Cond.code yX9_clear cX9_clear 2 (none) ∈ zt := zt_at 541 (by decide +kernel)
theorem zvs_X9_clear : zvS yX9_clear cX9_clear 2 (none) 0 := ⟨zl_279, zl_14, ⟨by decide +kernel, by decide +kernel, by decide +kernel⟩, by decide⟩
theorem zl_280 : Cond.methodLink RX4 93 yX9_clear ∈ zt := zt_at 538 (by decide +kernel)
theorem zl_281 : Cond.instanceMethod yX9_clear ∈ zt := zt_at 539 (by decide +kernel)
theorem zl_282 : Cond.selects RX9 yX9_clear yX9_clear ∈ zt := zt_at 540 (by decide +kernel)
theorem zl_283 : Cond.code yX2_clear cX2_clear 1 (none) ∈ zt := zt_at 548 (by decide +kernel)
theorem zvs_X2_clear : zvS yX2_clear cX2_clear 1 (none) 0 := ⟨zl_283, zl_249, ⟨by decide +kernel, by decide +kernel, by decide +kernel⟩, by decide⟩
theorem zl_284 : Cond.methodLink RX4 96 yX2_clear ∈ zt := zt_at 545 (by decide +kernel)
theorem zl_285 : Cond.instanceMethod yX2_clear ∈ zt := zt_at 546 (by decide +kernel)
theorem zl_286 : Cond.selects RX2 yX2_clear yX2_clear ∈ zt := zt_at 547 (by decide +kernel)
theorem zl_287 : Cond.code yX3_clear cX3_clear 1 (none) ∈ zt := zt_at 552 (by decide +kernel)
theorem zvs_X3_clear : zvS yX3_clear cX3_clear 1 (none) 0 := ⟨zl_287, zl_207, ⟨by decide +kernel, by decide +kernel, by decide +kernel⟩, by decide⟩
theorem zl_288 : Cond.methodLink RX4 97 yX3_clear ∈ zt := zt_at 549 (by decide +kernel)
theorem zl_289 : Cond.instanceMethod yX3_clear ∈ zt := zt_at 550 (by decide +kernel)
theorem zl_290 : Cond.selects RX3 yX3_clear yX3_clear ∈ zt := zt_at 551 (by decide +kernel)
theorem zl_291 : Cond.code yX6_clear cX6_clear 1 (none) ∈ zt := zt_at 556 (by decide +kernel)
theorem zvs_X6_clear : zvS yX6_clear cX6_clear 1 (none) 0 := ⟨zl_291, zl_262, ⟨by decide +kernel, by decide +kernel, by decide +kernel⟩, by decide⟩
theorem zl_292 : Cond.methodLink RX4 98 yX6_clear ∈ zt := zt_at 553 (by decide +kernel)
theorem zl_293 : Cond.instanceMethod yX6_clear ∈ zt := zt_at 554 (by decide +kernel)
theorem zl_294 : Cond.selects RX6 yX6_clear yX6_clear ∈ zt := zt_at 555 (by decide +kernel)
theorem dX4_clearDraft_0 : decode cX4_clearDraft 0 = .ok (.iload_n 1, 1) := by decide +kernel
theorem dX4_clearDraft_1 : decode cX4_clearDraft 1 = .ok (.tableswitch 57 0 2 #[27, 37, 47], 27) := by decide +kernel
theorem dX4_clearDraft_28 : decode cX4_clearDraft 28 = .ok (.aload_n 0, 1) := by decide +kernel
theorem dX4_clearDraft_29 : decode cX4_clearDraft 29 = .ok (.getfield 12, 3) := by decide +kernel
theorem dX4_clearDraft_32 : decode cX4_clearDraft 32 = .ok (.invokevirtual 93, 3) := by decide +kernel
theorem dX4_clearDraft_35 : decode cX4_clearDraft 35 = .ok (.goto 30, 3) := by decide +kernel
theorem dX4_clearDraft_38 : decode cX4_clearDraft 38 = .ok (.aload_n 0, 1) := by decide +kernel
theorem dX4_clearDraft_39 : decode cX4_clearDraft 39 = .ok (.getfield 21, 3) := by decide +kernel
theorem dX4_clearDraft_42 : decode cX4_clearDraft 42 = .ok (.invokevirtual 96, 3) := by decide +kernel
theorem dX4_clearDraft_45 : decode cX4_clearDraft 45 = .ok (.goto 20, 3) := by decide +kernel
theorem dX4_clearDraft_48 : decode cX4_clearDraft 48 = .ok (.aload_n 0, 1) := by decide +kernel
theorem dX4_clearDraft_49 : decode cX4_clearDraft 49 = .ok (.getfield 28, 3) := by decide +kernel
theorem dX4_clearDraft_52 : decode cX4_clearDraft 52 = .ok (.invokevirtual 97, 3) := by decide +kernel
theorem dX4_clearDraft_55 : decode cX4_clearDraft 55 = .ok (.goto 10, 3) := by decide +kernel
theorem dX4_clearDraft_58 : decode cX4_clearDraft 58 = .ok (.aload_n 0, 1) := by decide +kernel
theorem dX4_clearDraft_59 : decode cX4_clearDraft 59 = .ok (.getfield 35, 3) := by decide +kernel
theorem dX4_clearDraft_62 : decode cX4_clearDraft 62 = .ok (.invokevirtual 98, 3) := by decide +kernel
theorem dX4_clearDraft_65 : decode cX4_clearDraft 65 = .ok (.return_, 1) := by decide +kernel
def fX4_clearDraft (μ : zM) (x0 : Nat) (x1 : Int32) : Option (zM) := zgd (zm_ck μ 4 x0) <|
  zb1 (if x1 = 0 then (
  zb1 (zm_gR μ 4 x0 0) fun v3 =>
  zb1 (fX9_clear μ v3) fun m6 =>
  some m6)
  else (
  if x1 = 1 then (
  zb1 (zm_gR μ 4 x0 1) fun v8 =>
  zb1 (fX2_clear μ v8) fun m11 =>
  some m11)
  else (
  if x1 = 2 then (
  zb1 (zm_gR μ 4 x0 2) fun v13 =>
  zb1 (fX3_clear μ v13) fun m16 =>
  some m16)
  else (
  zb1 (zm_gR μ 4 x0 3) fun v18 =>
  zb1 (fX6_clear μ v18) fun m21 =>
  some m21)))) fun m1 =>
  some m1
theorem fX4_clearDraft_ck {μ : zM} {x0 : Nat} {x1 : Int32} {z : zM} (h : fX4_clearDraft μ x0 x1 = some z) : zm_ck μ 4 x0 = true := (zgd_s h).1
set_option maxHeartbeats 4000000 in
set_option maxRecDepth 100000 in
theorem cX4_clearDraft_ok {μ : zM} {x0 : Nat} {x1 : Int32} {mo : zM} (hf : fX4_clearDraft μ x0 x1 = some mo) : zC yX4_clearDraft cX4_clearDraft 2 (none) 2 0 0 [.ref x0, .int x1] μ (none) mo := by
  replace hf := (zgd_s hf).2
  refine zC.of (by decide) (Nat.le_of_ble_eq_true rfl) (fun K hin => ?_)
  clear hin
  show zz K cX4_clearDraft (2, RX4, none, 2, 0, 0, none, mo) 0 0 0 [(0, .ref x0), (1, .int x1)] [] μ
  refine zr_iload_n 1 dX4_clearDraft_0 rfl ?_
  replace hf := zb1_s hf
  obtain ⟨m1, hg, hf⟩ := hf
  have hj2 : zz K cX4_clearDraft (2, RX4, none, 2, 0, 0, none, mo) 0 0 65 [] [] m1 := by
    cases hf
    exact zr_vret dX4_clearDraft_65
  clear hf
  have hf := hg
  clear hg
  rcases zdec (x1 = 0) with hs7 | hs7
  · rw [if_pos hs7] at hf
    refine zr_tableIn (off := 27) 28 dX4_clearDraft_1 (by rw [hs7]; decide) (by rw [hs7]; decide) (by rw [hs7]; rfl) (by decide) ?_
    refine zr_aload_n 0 dX4_clearDraft_28 rfl ?_
    replace hf := zb1_s hf
    obtain ⟨v3, h4, hf⟩ := hf
    refine zr_get (zm_gR_g h4) zk4 (by decide) zl_246 dX4_clearDraft_29 ?_
    replace hf := zb1_s hf
    obtain ⟨m6, h5, hf⟩ := hf
    refine zr_callV (ci := 9) [] (cX9_clear_ok h5) zvs_X9_clear zl_281 zl_282 (fX9_clear_ck h5) rfl rfl zl_280 rfl (Nat.le_of_ble_eq_true rfl) (Nat.le_of_ble_eq_true rfl) (Nat.le_of_ble_eq_true rfl) (Nat.le_of_ble_eq_true rfl) dX4_clearDraft_32 rfl ?_
    refine zr_goto 65 dX4_clearDraft_35 (by decide) ?_
    cases hf
    exact zr_lv [] rfl hj2
  rw [if_neg hs7] at hf
  rcases zdec (x1 = 1) with hs12 | hs12
  · rw [if_pos hs12] at hf
    refine zr_tableIn (off := 37) 38 dX4_clearDraft_1 (by rw [hs12]; decide) (by rw [hs12]; decide) (by rw [hs12]; rfl) (by decide) ?_
    refine zr_aload_n 0 dX4_clearDraft_38 rfl ?_
    replace hf := zb1_s hf
    obtain ⟨v8, h9, hf⟩ := hf
    refine zr_get (zm_gR_g h9) zk4 (by decide) zl_253 dX4_clearDraft_39 ?_
    replace hf := zb1_s hf
    obtain ⟨m11, h10, hf⟩ := hf
    refine zr_callV (ci := 2) [] (cX2_clear_ok h10) zvs_X2_clear zl_285 zl_286 (fX2_clear_ck h10) rfl rfl zl_284 rfl (Nat.le_of_ble_eq_true rfl) (Nat.le_of_ble_eq_true rfl) (Nat.le_of_ble_eq_true rfl) (Nat.le_of_ble_eq_true rfl) dX4_clearDraft_42 rfl ?_
    refine zr_goto 65 dX4_clearDraft_45 (by decide) ?_
    cases hf
    exact zr_lv [] rfl hj2
  rw [if_neg hs12] at hf
  rcases zdec (x1 = 2) with hs17 | hs17
  · rw [if_pos hs17] at hf
    refine zr_tableIn (off := 47) 48 dX4_clearDraft_1 (by rw [hs17]; decide) (by rw [hs17]; decide) (by rw [hs17]; rfl) (by decide) ?_
    refine zr_aload_n 0 dX4_clearDraft_48 rfl ?_
    replace hf := zb1_s hf
    obtain ⟨v13, h14, hf⟩ := hf
    refine zr_get (zm_gR_g h14) zk4 (by decide) zl_259 dX4_clearDraft_49 ?_
    replace hf := zb1_s hf
    obtain ⟨m16, h15, hf⟩ := hf
    refine zr_callV (ci := 3) [] (cX3_clear_ok h15) zvs_X3_clear zl_289 zl_290 (fX3_clear_ck h15) rfl rfl zl_288 rfl (Nat.le_of_ble_eq_true rfl) (Nat.le_of_ble_eq_true rfl) (Nat.le_of_ble_eq_true rfl) (Nat.le_of_ble_eq_true rfl) dX4_clearDraft_52 rfl ?_
    refine zr_goto 65 dX4_clearDraft_55 (by decide) ?_
    cases hf
    exact zr_lv [] rfl hj2
  rw [if_neg hs17] at hf
  refine zr_tableOut 58 dX4_clearDraft_1 (by simp only [← Int32.toInt_inj] at hs7 hs12 hs17; simp at hs7 hs12 hs17; omega) (by decide) ?_
  refine zr_aload_n 0 dX4_clearDraft_58 rfl ?_
  replace hf := zb1_s hf
  obtain ⟨v18, h19, hf⟩ := hf
  refine zr_get (zm_gR_g h19) zk4 (by decide) zl_266 dX4_clearDraft_59 ?_
  replace hf := zb1_s hf
  obtain ⟨m21, h20, hf⟩ := hf
  refine zr_callV (ci := 6) [] (cX6_clear_ok h20) zvs_X6_clear zl_293 zl_294 (fX6_clear_ck h20) rfl rfl zl_292 rfl (Nat.le_of_ble_eq_true rfl) (Nat.le_of_ble_eq_true rfl) (Nat.le_of_ble_eq_true rfl) (Nat.le_of_ble_eq_true rfl) dX4_clearDraft_62 rfl ?_
  cases hf
  exact zr_lv [] rfl hj2
theorem dX4_isBlank_0 : decode cX4_isBlank 0 = .ok (.iload_n 0, 1) := by decide +kernel
theorem dX4_isBlank_1 : decode cX4_isBlank 1 = .ok (.bipush 10, 2) := by decide +kernel
theorem dX4_isBlank_3 : decode cX4_isBlank 3 = .ok (.if_icmp .eq 9, 3) := by decide +kernel
theorem dX4_isBlank_6 : decode cX4_isBlank 6 = .ok (.iload_n 0, 1) := by decide +kernel
theorem dX4_isBlank_7 : decode cX4_isBlank 7 = .ok (.bipush 32, 2) := by decide +kernel
theorem dX4_isBlank_9 : decode cX4_isBlank 9 = .ok (.if_icmp .ne 7, 3) := by decide +kernel
theorem dX4_isBlank_12 : decode cX4_isBlank 12 = .ok (.iconst 1, 1) := by decide +kernel
theorem dX4_isBlank_13 : decode cX4_isBlank 13 = .ok (.goto 4, 3) := by decide +kernel
theorem dX4_isBlank_16 : decode cX4_isBlank 16 = .ok (.iconst 0, 1) := by decide +kernel
theorem dX4_isBlank_17 : decode cX4_isBlank 17 = .ok (.ireturn, 1) := by decide +kernel
def fX4_isBlank (μ : zM) (x0 : Int32) : Option (Int32) :=
  zb1 (if x0 = 10 then (
  some 1)
  else (
  if x0 = 32 then (
  some 1)
  else (
  some 0))) fun s1 =>
  zb1 (zbz s1) fun v3 =>
  some v3
set_option maxHeartbeats 4000000 in
set_option maxRecDepth 100000 in
theorem cX4_isBlank_ok {μ : zM} {x0 : Int32} {r : Int32} (hf : fX4_isBlank μ x0 = some r) : zC yX4_isBlank cX4_isBlank 1 (some .boolean) 0 0 0 [.int x0] μ (some (.int r)) μ := by
  unfold fX4_isBlank at hf
  refine zC.of (by decide) (Nat.le_of_ble_eq_true rfl) (fun K hin => ?_)
  clear hin
  show zz K cX4_isBlank (1, RX4, some .boolean, 0, 0, 0, some (.int r), μ) 0 0 0 [(0, .int x0)] [] μ
  refine zr_iload_n 0 dX4_isBlank_0 rfl ?_
  refine zr_bipush 10 dX4_isBlank_1 (by decide) ?_
  replace hf := zb1_s hf
  obtain ⟨s1, hg, hf⟩ := hf
  have hj2 : zz K cX4_isBlank (1, RX4, some .boolean, 0, 0, 0, some (.int r), μ) 0 0 17 [] [.int s1] μ := by
    replace hf := zb1_s hf
    obtain ⟨v3, hn4, hf⟩ := hf
    obtain ⟨hn4, rfl⟩ := zbz_s hn4
    cases hf
    exact zr_zret hn4 dX4_isBlank_17
  clear hf
  have hf := hg
  clear hg
  refine zr_icmp_eq 12 dX4_isBlank_3 (by decide) (fun hc => ?_) (fun hc => ?_)
  · rw [if_pos hc] at hf
    refine zr_iconst 1 dX4_isBlank_12 (by decide) ?_
    refine zr_goto 17 dX4_isBlank_13 (by decide) ?_
    cases hf
    exact zr_lv [] rfl hj2
  · rw [if_neg hc] at hf
    refine zr_iload_n 0 dX4_isBlank_6 rfl ?_
    refine zr_bipush 32 dX4_isBlank_7 (by decide) ?_
    refine zr_icmp_ne 16 dX4_isBlank_9 (by decide) (fun hc => ?_) (fun hc => ?_)
    · rw [if_neg hc] at hf
      refine zr_iconst 0 dX4_isBlank_16 (by decide) ?_
      cases hf
      exact zr_lv [] rfl hj2
    · rw [if_pos hc] at hf
      refine zr_iconst 1 dX4_isBlank_12 (by decide) ?_
      refine zr_goto 17 dX4_isBlank_13 (by decide) ?_
      cases hf
      exact zr_lv [] rfl hj2
theorem dX4_isLetter_0 : decode cX4_isLetter 0 = .ok (.iload_n 0, 1) := by decide +kernel
theorem dX4_isLetter_1 : decode cX4_isLetter 1 = .ok (.bipush 97, 2) := by decide +kernel
theorem dX4_isLetter_3 : decode cX4_isLetter 3 = .ok (.if_icmp .lt 13, 3) := by decide +kernel
theorem dX4_isLetter_6 : decode cX4_isLetter 6 = .ok (.iload_n 0, 1) := by decide +kernel
theorem dX4_isLetter_7 : decode cX4_isLetter 7 = .ok (.bipush 122, 2) := by decide +kernel
theorem dX4_isLetter_9 : decode cX4_isLetter 9 = .ok (.if_icmp .gt 7, 3) := by decide +kernel
theorem dX4_isLetter_12 : decode cX4_isLetter 12 = .ok (.iconst 1, 1) := by decide +kernel
theorem dX4_isLetter_13 : decode cX4_isLetter 13 = .ok (.goto 4, 3) := by decide +kernel
theorem dX4_isLetter_16 : decode cX4_isLetter 16 = .ok (.iconst 0, 1) := by decide +kernel
theorem dX4_isLetter_17 : decode cX4_isLetter 17 = .ok (.ireturn, 1) := by decide +kernel
def fX4_isLetter (μ : zM) (x0 : Int32) : Option (Int32) :=
  zb1 (if x0 < 97 then (
  some 0)
  else (
  if 122 < x0 then (
  some 0)
  else (
  some 1))) fun s1 =>
  zb1 (zbz s1) fun v3 =>
  some v3
set_option maxHeartbeats 4000000 in
set_option maxRecDepth 100000 in
theorem cX4_isLetter_ok {μ : zM} {x0 : Int32} {r : Int32} (hf : fX4_isLetter μ x0 = some r) : zC yX4_isLetter cX4_isLetter 1 (some .boolean) 0 0 0 [.int x0] μ (some (.int r)) μ := by
  unfold fX4_isLetter at hf
  refine zC.of (by decide) (Nat.le_of_ble_eq_true rfl) (fun K hin => ?_)
  clear hin
  show zz K cX4_isLetter (1, RX4, some .boolean, 0, 0, 0, some (.int r), μ) 0 0 0 [(0, .int x0)] [] μ
  refine zr_iload_n 0 dX4_isLetter_0 rfl ?_
  refine zr_bipush 97 dX4_isLetter_1 (by decide) ?_
  replace hf := zb1_s hf
  obtain ⟨s1, hg, hf⟩ := hf
  have hj2 : zz K cX4_isLetter (1, RX4, some .boolean, 0, 0, 0, some (.int r), μ) 0 0 17 [] [.int s1] μ := by
    replace hf := zb1_s hf
    obtain ⟨v3, hn4, hf⟩ := hf
    obtain ⟨hn4, rfl⟩ := zbz_s hn4
    cases hf
    exact zr_zret hn4 dX4_isLetter_17
  clear hf
  have hf := hg
  clear hg
  refine zr_icmp_lt 16 dX4_isLetter_3 (by decide) (fun hc => ?_) (fun hc => ?_)
  · rw [if_pos hc] at hf
    refine zr_iconst 0 dX4_isLetter_16 (by decide) ?_
    cases hf
    exact zr_lv [] rfl hj2
  · rw [if_neg hc] at hf
    refine zr_iload_n 0 dX4_isLetter_6 rfl ?_
    refine zr_bipush 122 dX4_isLetter_7 (by decide) ?_
    refine zr_icmp_gt 16 dX4_isLetter_9 (by decide) (fun hc => ?_) (fun hc => ?_)
    · rw [if_pos hc] at hf
      refine zr_iconst 0 dX4_isLetter_16 (by decide) ?_
      cases hf
      exact zr_lv [] rfl hj2
    · rw [if_neg hc] at hf
      refine zr_iconst 1 dX4_isLetter_12 (by decide) ?_
      refine zr_goto 17 dX4_isLetter_13 (by decide) ?_
      cases hf
      exact zr_lv [] rfl hj2
theorem dX4_isDigit_0 : decode cX4_isDigit 0 = .ok (.iload_n 0, 1) := by decide +kernel
theorem dX4_isDigit_1 : decode cX4_isDigit 1 = .ok (.bipush 48, 2) := by decide +kernel
theorem dX4_isDigit_3 : decode cX4_isDigit 3 = .ok (.if_icmp .lt 13, 3) := by decide +kernel
theorem dX4_isDigit_6 : decode cX4_isDigit 6 = .ok (.iload_n 0, 1) := by decide +kernel
theorem dX4_isDigit_7 : decode cX4_isDigit 7 = .ok (.bipush 57, 2) := by decide +kernel
theorem dX4_isDigit_9 : decode cX4_isDigit 9 = .ok (.if_icmp .gt 7, 3) := by decide +kernel
theorem dX4_isDigit_12 : decode cX4_isDigit 12 = .ok (.iconst 1, 1) := by decide +kernel
theorem dX4_isDigit_13 : decode cX4_isDigit 13 = .ok (.goto 4, 3) := by decide +kernel
theorem dX4_isDigit_16 : decode cX4_isDigit 16 = .ok (.iconst 0, 1) := by decide +kernel
theorem dX4_isDigit_17 : decode cX4_isDigit 17 = .ok (.ireturn, 1) := by decide +kernel
def fX4_isDigit (μ : zM) (x0 : Int32) : Option (Int32) :=
  zb1 (if x0 < 48 then (
  some 0)
  else (
  if 57 < x0 then (
  some 0)
  else (
  some 1))) fun s1 =>
  zb1 (zbz s1) fun v3 =>
  some v3
set_option maxHeartbeats 4000000 in
set_option maxRecDepth 100000 in
theorem cX4_isDigit_ok {μ : zM} {x0 : Int32} {r : Int32} (hf : fX4_isDigit μ x0 = some r) : zC yX4_isDigit cX4_isDigit 1 (some .boolean) 0 0 0 [.int x0] μ (some (.int r)) μ := by
  unfold fX4_isDigit at hf
  refine zC.of (by decide) (Nat.le_of_ble_eq_true rfl) (fun K hin => ?_)
  clear hin
  show zz K cX4_isDigit (1, RX4, some .boolean, 0, 0, 0, some (.int r), μ) 0 0 0 [(0, .int x0)] [] μ
  refine zr_iload_n 0 dX4_isDigit_0 rfl ?_
  refine zr_bipush 48 dX4_isDigit_1 (by decide) ?_
  replace hf := zb1_s hf
  obtain ⟨s1, hg, hf⟩ := hf
  have hj2 : zz K cX4_isDigit (1, RX4, some .boolean, 0, 0, 0, some (.int r), μ) 0 0 17 [] [.int s1] μ := by
    replace hf := zb1_s hf
    obtain ⟨v3, hn4, hf⟩ := hf
    obtain ⟨hn4, rfl⟩ := zbz_s hn4
    cases hf
    exact zr_zret hn4 dX4_isDigit_17
  clear hf
  have hf := hg
  clear hg
  refine zr_icmp_lt 16 dX4_isDigit_3 (by decide) (fun hc => ?_) (fun hc => ?_)
  · rw [if_pos hc] at hf
    refine zr_iconst 0 dX4_isDigit_16 (by decide) ?_
    cases hf
    exact zr_lv [] rfl hj2
  · rw [if_neg hc] at hf
    refine zr_iload_n 0 dX4_isDigit_6 rfl ?_
    refine zr_bipush 57 dX4_isDigit_7 (by decide) ?_
    refine zr_icmp_gt 16 dX4_isDigit_9 (by decide) (fun hc => ?_) (fun hc => ?_)
    · rw [if_pos hc] at hf
      refine zr_iconst 0 dX4_isDigit_16 (by decide) ?_
      cases hf
      exact zr_lv [] rfl hj2
    · rw [if_neg hc] at hf
      refine zr_iconst 1 dX4_isDigit_12 (by decide) ?_
      refine zr_goto 17 dX4_isDigit_13 (by decide) ?_
      cases hf
      exact zr_lv [] rfl hj2
theorem zl_295 : Cond.code yX4_isBlank cX4_isBlank 1 (some .boolean) ∈ zt := zt_at 563 (by decide +kernel)
theorem zl_296 : Cond.initialized RX4 ∈ zt := zt_at 135 (by decide +kernel)
theorem zvs_X4_isBlank : zvS yX4_isBlank cX4_isBlank 1 (some .boolean) 1 := ⟨zl_295, zl_296, ⟨by decide +kernel, by decide +kernel, by decide +kernel⟩, by decide⟩
theorem zl_297 : Cond.methodLink RX4 236 yX4_isBlank ∈ zt := zt_at 561 (by decide +kernel)
theorem zl_298 : Cond.static yX4_isBlank ∈ zt := zt_at 562 (by decide +kernel)
theorem zl_299 : Cond.code yX4_isLetter cX4_isLetter 1 (some .boolean) ∈ zt := zt_at 566 (by decide +kernel)
theorem zvs_X4_isLetter : zvS yX4_isLetter cX4_isLetter 1 (some .boolean) 1 := ⟨zl_299, zl_296, ⟨by decide +kernel, by decide +kernel, by decide +kernel⟩, by decide⟩
theorem zl_300 : Cond.methodLink RX4 240 yX4_isLetter ∈ zt := zt_at 564 (by decide +kernel)
theorem zl_301 : Cond.static yX4_isLetter ∈ zt := zt_at 565 (by decide +kernel)
theorem zl_302 : Cond.code yX4_isDigit cX4_isDigit 1 (some .boolean) ∈ zt := zt_at 569 (by decide +kernel)
theorem zvs_X4_isDigit : zvS yX4_isDigit cX4_isDigit 1 (some .boolean) 1 := ⟨zl_302, zl_296, ⟨by decide +kernel, by decide +kernel, by decide +kernel⟩, by decide⟩
theorem zl_303 : Cond.methodLink RX4 243 yX4_isDigit ∈ zt := zt_at 567 (by decide +kernel)
theorem zl_304 : Cond.static yX4_isDigit ∈ zt := zt_at 568 (by decide +kernel)
theorem dX4_advance_0 : decode cX4_advance 0 = .ok (.aload_n 0, 1) := by decide +kernel
theorem dX4_advance_1 : decode cX4_advance 1 = .ok (.getfield 55, 3) := by decide +kernel
theorem dX4_advance_4 : decode cX4_advance 4 = .ok (.istore_n 1, 1) := by decide +kernel
theorem dX4_advance_5 : decode cX4_advance 5 = .ok (.iload_n 1, 1) := by decide +kernel
theorem dX4_advance_6 : decode cX4_advance 6 = .ok (.aload_n 0, 1) := by decide +kernel
theorem dX4_advance_7 : decode cX4_advance 7 = .ok (.getfield 46, 3) := by decide +kernel
theorem dX4_advance_10 : decode cX4_advance 10 = .ok (.if_icmp .ge 21, 3) := by decide +kernel
theorem dX4_advance_13 : decode cX4_advance 13 = .ok (.aload_n 0, 1) := by decide +kernel
theorem dX4_advance_14 : decode cX4_advance 14 = .ok (.getfield 65, 3) := by decide +kernel
theorem dX4_advance_17 : decode cX4_advance 17 = .ok (.iload_n 1, 1) := by decide +kernel
theorem dX4_advance_18 : decode cX4_advance 18 = .ok (.baload, 1) := by decide +kernel
theorem dX4_advance_19 : decode cX4_advance 19 = .ok (.invokestatic 236, 3) := by decide +kernel
theorem dX4_advance_22 : decode cX4_advance 22 = .ok (.ifCond .eq 9, 3) := by decide +kernel
theorem dX4_advance_25 : decode cX4_advance 25 = .ok (.iinc 1 1, 3) := by decide +kernel
theorem dX4_advance_28 : decode cX4_advance 28 = .ok (.goto (-23), 3) := by decide +kernel
theorem dX4_advance_31 : decode cX4_advance 31 = .ok (.aload_n 0, 1) := by decide +kernel
theorem dX4_advance_32 : decode cX4_advance 32 = .ok (.iload_n 1, 1) := by decide +kernel
theorem dX4_advance_33 : decode cX4_advance 33 = .ok (.putfield 52, 3) := by decide +kernel
theorem dX4_advance_36 : decode cX4_advance 36 = .ok (.iload_n 1, 1) := by decide +kernel
theorem dX4_advance_37 : decode cX4_advance 37 = .ok (.aload_n 0, 1) := by decide +kernel
theorem dX4_advance_38 : decode cX4_advance 38 = .ok (.getfield 46, 3) := by decide +kernel
theorem dX4_advance_41 : decode cX4_advance 41 = .ok (.if_icmp .lt 11, 3) := by decide +kernel
theorem dX4_advance_44 : decode cX4_advance 44 = .ok (.aload_n 0, 1) := by decide +kernel
theorem dX4_advance_45 : decode cX4_advance 45 = .ok (.iconst 0, 1) := by decide +kernel
theorem dX4_advance_46 : decode cX4_advance 46 = .ok (.putfield 49, 3) := by decide +kernel
theorem dX4_advance_49 : decode cX4_advance 49 = .ok (.goto 132, 3) := by decide +kernel
theorem dX4_advance_52 : decode cX4_advance 52 = .ok (.aload_n 0, 1) := by decide +kernel
theorem dX4_advance_53 : decode cX4_advance 53 = .ok (.getfield 65, 3) := by decide +kernel
theorem dX4_advance_56 : decode cX4_advance 56 = .ok (.iload_n 1, 1) := by decide +kernel
theorem dX4_advance_57 : decode cX4_advance 57 = .ok (.baload, 1) := by decide +kernel
theorem dX4_advance_58 : decode cX4_advance 58 = .ok (.invokestatic 240, 3) := by decide +kernel
theorem dX4_advance_61 : decode cX4_advance 61 = .ok (.ifCond .eq 37, 3) := by decide +kernel
theorem dX4_advance_64 : decode cX4_advance 64 = .ok (.iload_n 1, 1) := by decide +kernel
theorem dX4_advance_65 : decode cX4_advance 65 = .ok (.aload_n 0, 1) := by decide +kernel
theorem dX4_advance_66 : decode cX4_advance 66 = .ok (.getfield 46, 3) := by decide +kernel
theorem dX4_advance_69 : decode cX4_advance 69 = .ok (.if_icmp .ge 21, 3) := by decide +kernel
theorem dX4_advance_72 : decode cX4_advance 72 = .ok (.aload_n 0, 1) := by decide +kernel
theorem dX4_advance_73 : decode cX4_advance 73 = .ok (.getfield 65, 3) := by decide +kernel
theorem dX4_advance_76 : decode cX4_advance 76 = .ok (.iload_n 1, 1) := by decide +kernel
theorem dX4_advance_77 : decode cX4_advance 77 = .ok (.baload, 1) := by decide +kernel
theorem dX4_advance_78 : decode cX4_advance 78 = .ok (.invokestatic 240, 3) := by decide +kernel
theorem dX4_advance_81 : decode cX4_advance 81 = .ok (.ifCond .eq 9, 3) := by decide +kernel
theorem dX4_advance_84 : decode cX4_advance 84 = .ok (.iinc 1 1, 3) := by decide +kernel
theorem dX4_advance_87 : decode cX4_advance 87 = .ok (.goto (-23), 3) := by decide +kernel
theorem dX4_advance_90 : decode cX4_advance 90 = .ok (.aload_n 0, 1) := by decide +kernel
theorem dX4_advance_91 : decode cX4_advance 91 = .ok (.iconst 1, 1) := by decide +kernel
theorem dX4_advance_92 : decode cX4_advance 92 = .ok (.putfield 49, 3) := by decide +kernel
theorem dX4_advance_95 : decode cX4_advance 95 = .ok (.goto 86, 3) := by decide +kernel
theorem dX4_advance_98 : decode cX4_advance 98 = .ok (.aload_n 0, 1) := by decide +kernel
theorem dX4_advance_99 : decode cX4_advance 99 = .ok (.getfield 65, 3) := by decide +kernel
theorem dX4_advance_102 : decode cX4_advance 102 = .ok (.iload_n 1, 1) := by decide +kernel
theorem dX4_advance_103 : decode cX4_advance 103 = .ok (.baload, 1) := by decide +kernel
theorem dX4_advance_104 : decode cX4_advance 104 = .ok (.invokestatic 243, 3) := by decide +kernel
theorem dX4_advance_107 : decode cX4_advance 107 = .ok (.ifCond .eq 51, 3) := by decide +kernel
theorem dX4_advance_110 : decode cX4_advance 110 = .ok (.iload_n 1, 1) := by decide +kernel
theorem dX4_advance_111 : decode cX4_advance 111 = .ok (.aload_n 0, 1) := by decide +kernel
theorem dX4_advance_112 : decode cX4_advance 112 = .ok (.getfield 46, 3) := by decide +kernel
theorem dX4_advance_115 : decode cX4_advance 115 = .ok (.if_icmp .ge 21, 3) := by decide +kernel
theorem dX4_advance_118 : decode cX4_advance 118 = .ok (.aload_n 0, 1) := by decide +kernel
theorem dX4_advance_119 : decode cX4_advance 119 = .ok (.getfield 65, 3) := by decide +kernel
theorem dX4_advance_122 : decode cX4_advance 122 = .ok (.iload_n 1, 1) := by decide +kernel
theorem dX4_advance_123 : decode cX4_advance 123 = .ok (.baload, 1) := by decide +kernel
theorem dX4_advance_124 : decode cX4_advance 124 = .ok (.invokestatic 243, 3) := by decide +kernel
theorem dX4_advance_127 : decode cX4_advance 127 = .ok (.ifCond .eq 9, 3) := by decide +kernel
theorem dX4_advance_130 : decode cX4_advance 130 = .ok (.iinc 1 1, 3) := by decide +kernel
theorem dX4_advance_133 : decode cX4_advance 133 = .ok (.goto (-23), 3) := by decide +kernel
theorem dX4_advance_136 : decode cX4_advance 136 = .ok (.aload_n 0, 1) := by decide +kernel
theorem dX4_advance_137 : decode cX4_advance 137 = .ok (.iload_n 1, 1) := by decide +kernel
theorem dX4_advance_138 : decode cX4_advance 138 = .ok (.aload_n 0, 1) := by decide +kernel
theorem dX4_advance_139 : decode cX4_advance 139 = .ok (.getfield 52, 3) := by decide +kernel
theorem dX4_advance_142 : decode cX4_advance 142 = .ok (.isub, 1) := by decide +kernel
theorem dX4_advance_143 : decode cX4_advance 143 = .ok (.iconst 2, 1) := by decide +kernel
theorem dX4_advance_144 : decode cX4_advance 144 = .ok (.if_icmp .gt 7, 3) := by decide +kernel
theorem dX4_advance_147 : decode cX4_advance 147 = .ok (.iconst 2, 1) := by decide +kernel
theorem dX4_advance_148 : decode cX4_advance 148 = .ok (.goto 4, 3) := by decide +kernel
theorem dX4_advance_151 : decode cX4_advance 151 = .ok (.iconst 4, 1) := by decide +kernel
theorem dX4_advance_152 : decode cX4_advance 152 = .ok (.putfield 49, 3) := by decide +kernel
theorem dX4_advance_155 : decode cX4_advance 155 = .ok (.goto 26, 3) := by decide +kernel
theorem dX4_advance_158 : decode cX4_advance 158 = .ok (.aload_n 0, 1) := by decide +kernel
theorem dX4_advance_159 : decode cX4_advance 159 = .ok (.aload_n 0, 1) := by decide +kernel
theorem dX4_advance_160 : decode cX4_advance 160 = .ok (.getfield 65, 3) := by decide +kernel
theorem dX4_advance_163 : decode cX4_advance 163 = .ok (.iload_n 1, 1) := by decide +kernel
theorem dX4_advance_164 : decode cX4_advance 164 = .ok (.baload, 1) := by decide +kernel
theorem dX4_advance_165 : decode cX4_advance 165 = .ok (.bipush 59, 2) := by decide +kernel
theorem dX4_advance_167 : decode cX4_advance 167 = .ok (.if_icmp .ne 7, 3) := by decide +kernel
theorem dX4_advance_170 : decode cX4_advance 170 = .ok (.iconst 3, 1) := by decide +kernel
theorem dX4_advance_171 : decode cX4_advance 171 = .ok (.goto 4, 3) := by decide +kernel
theorem dX4_advance_174 : decode cX4_advance 174 = .ok (.iconst 4, 1) := by decide +kernel
theorem dX4_advance_175 : decode cX4_advance 175 = .ok (.putfield 49, 3) := by decide +kernel
theorem dX4_advance_178 : decode cX4_advance 178 = .ok (.iinc 1 1, 3) := by decide +kernel
theorem dX4_advance_181 : decode cX4_advance 181 = .ok (.aload_n 0, 1) := by decide +kernel
theorem dX4_advance_182 : decode cX4_advance 182 = .ok (.iload_n 1, 1) := by decide +kernel
theorem dX4_advance_183 : decode cX4_advance 183 = .ok (.putfield 55, 3) := by decide +kernel
theorem dX4_advance_186 : decode cX4_advance 186 = .ok (.return_, 1) := by decide +kernel
def fX4_advance_l5 (μ : zM) (x0 : Nat) (F4 : Int32 → Option (Int32)) (x1_3 : Int32) : Option (Int32) :=
  zb1 (zm_gI μ 4 x0 7) fun v8 =>
  if v8 ≤ x1_3 then (
  some x1_3)
  else (
  zb1 (zm_gR μ 4 x0 6) fun v10 =>
  zb1 (zm_aI μ 1 v10 x1_3) fun v12 =>
  zb1 (fX4_isBlank μ v12) fun v15 =>
  if v15 = 0 then (
  some x1_3)
  else (
  F4 (x1_3 + 1)))
def fX4_advance_l110x (m17 : zM) (x0 : Nat) (F47 : Int32 → Option (Int32)) (x1_46 : Int32) : Option (Int32) :=
  zb1 (zm_gI m17 4 x0 7) fun v51 =>
  if v51 ≤ x1_46 then (
  some x1_46)
  else (
  zb1 (zm_gR m17 4 x0 6) fun v53 =>
  zb1 (zm_aI m17 1 v53 x1_46) fun v55 =>
  zb1 (fX4_isDigit m17 v55) fun v58 =>
  if v58 = 0 then (
  some x1_46)
  else (
  F47 (x1_46 + 1)))
def fX4_advance_l64x (m17 : zM) (x0 : Nat) (F67 : Int32 → Option (Int32)) (x1_66 : Int32) : Option (Int32) :=
  zb1 (zm_gI m17 4 x0 7) fun v71 =>
  if v71 ≤ x1_66 then (
  some x1_66)
  else (
  zb1 (zm_gR m17 4 x0 6) fun v73 =>
  zb1 (zm_aI m17 1 v73 x1_66) fun v75 =>
  zb1 (fX4_isLetter m17 v75) fun v78 =>
  if v78 = 0 then (
  some x1_66)
  else (
  F67 (x1_66 + 1)))
def fX4_advance (μ : zM) (x0 : Nat) : Option (zM) := zgd (zm_ck μ 4 x0) <|
  zb1 (zm_gI μ 4 x0 10) fun v1 =>
  zb1 (zf1 (fX4_advance_l5 μ x0) zfu v1) fun x1_6 =>
  zb1 (zm_p μ 4 x0 9 (.int x1_6)) fun m17 =>
  zb1 (zm_gI m17 4 x0 7) fun v19 =>
  zb2 (if x1_6 < v19 then (
  zb1 (zm_gR m17 4 x0 6) fun v26 =>
  zb1 (zm_aI m17 1 v26 x1_6) fun v28 =>
  zb1 (fX4_isLetter m17 v28) fun v31 =>
  if v31 = 0 then (
  zb1 (zm_gR m17 4 x0 6) fun v32 =>
  zb1 (zm_aI m17 1 v32 x1_6) fun v34 =>
  zb1 (fX4_isDigit m17 v34) fun v37 =>
  if v37 = 0 then (
  zb1 (zm_gR m17 4 x0 6) fun v38 =>
  zb1 (zm_aI m17 1 v38 x1_6) fun v40 =>
  zb1 (if v40 = 59 then (
  some 3)
  else (
  some 4)) fun s42 =>
  zb1 (zm_p m17 4 x0 8 (.int s42)) fun m44 =>
  some ((x1_6 + 1), m44))
  else (
  zb1 (zf1 (fX4_advance_l110x m17 x0) zfu x1_6) fun x1_49 =>
  zb1 (zm_gI m17 4 x0 9) fun v60 =>
  zb1 (if 2 < (x1_49 - v60) then (
  some 4)
  else (
  some 2)) fun s62 =>
  zb1 (zm_p m17 4 x0 8 (.int s62)) fun m64 =>
  some (x1_49, m64)))
  else (
  zb1 (zf1 (fX4_advance_l64x m17 x0) zfu x1_6) fun x1_69 =>
  zb1 (zm_p m17 4 x0 8 (.int 1)) fun m80 =>
  some (x1_69, m80)))
  else (
  zb1 (zm_p m17 4 x0 8 (.int 0)) fun m82 =>
  some (x1_6, m82))) fun x1_21 m22 =>
  zb1 (zm_p m22 4 x0 10 (.int x1_21)) fun m24 =>
  some m24
theorem fX4_advance_ck {μ : zM} {x0 : Nat} {z : zM} (h : fX4_advance μ x0 = some z) : zm_ck μ 4 x0 = true := (zgd_s h).1
set_option maxHeartbeats 4000000 in
set_option maxRecDepth 100000 in
theorem cX4_advance_ok {μ : zM} {x0 : Nat} {mo : zM} (hf : fX4_advance μ x0 = some mo) : zC yX4_advance cX4_advance 2 (none) 1 0 0 [.ref x0] μ (none) mo := by
  replace hf := (zgd_s hf).2
  refine zC.of (by decide) (Nat.le_of_ble_eq_true rfl) (fun K hin => ?_)
  clear hin
  show zz K cX4_advance (2, RX4, none, 1, 0, 0, none, mo) 0 0 0 [(0, .ref x0)] [] μ
  refine zr_aload_n 0 dX4_advance_0 rfl ?_
  replace hf := zb1_s hf
  obtain ⟨v1, h2, hf⟩ := hf
  refine zr_get (zm_gI_g h2) zk4 (by decide) zl_272 dX4_advance_1 ?_
  refine zr_istore_n [(1, .int v1), (0, .ref x0)] dX4_advance_4 (Nat.le_of_ble_eq_true rfl) rfl ?_
  replace hf := zb1_s hf
  obtain ⟨x1_6, hg, hf⟩ := hf
  have hj7 : zz K cX4_advance (2, RX4, none, 1, 0, 0, none, mo) 0 0 31 [(0, .ref x0), (1, .int x1_6)] [] μ := by
    refine zr_aload_n 0 dX4_advance_31 rfl ?_
    refine zr_iload_n 1 dX4_advance_32 rfl ?_
    replace hf := zb1_s hf
    obtain ⟨m17, h18, hf⟩ := hf
    refine zr_put h18 zk4 (by decide) zl_271 rfl rfl rfl dX4_advance_33 ?_
    refine zr_iload_n 1 dX4_advance_36 rfl ?_
    refine zr_aload_n 0 dX4_advance_37 rfl ?_
    replace hf := zb1_s hf
    obtain ⟨v19, h20, hf⟩ := hf
    refine zr_get (zm_gI_g h20) zk4 (by decide) zl_269 dX4_advance_38 ?_
    replace hf := zb2_s hf
    obtain ⟨x1_21, m22, hg, hf⟩ := hf
    have hj23 : zz K cX4_advance (2, RX4, none, 1, 0, 0, none, mo) 0 0 181 [(0, .ref x0), (1, .int x1_21)] [] m22 := by
      refine zr_aload_n 0 dX4_advance_181 rfl ?_
      refine zr_iload_n 1 dX4_advance_182 rfl ?_
      replace hf := zb1_s hf
      obtain ⟨m24, h25, hf⟩ := hf
      refine zr_put h25 zk4 (by decide) zl_272 rfl rfl rfl dX4_advance_183 ?_
      cases hf
      exact zr_vret dX4_advance_186
    clear hf
    have hf := hg
    clear hg
    refine zr_icmp_lt 52 dX4_advance_41 (by decide) (fun hc => ?_) (fun hc => ?_)
    · rw [if_pos hc] at hf
      refine zr_aload_n 0 dX4_advance_52 rfl ?_
      replace hf := zb1_s hf
      obtain ⟨v26, h27, hf⟩ := hf
      refine zr_get (zm_gR_g h27) zk4 (by decide) zl_275 dX4_advance_53 ?_
      refine zr_iload_n 1 dX4_advance_56 rfl ?_
      replace hf := zb1_s hf
      obtain ⟨v28, h29, hf⟩ := hf
      refine zr_bald h29 dX4_advance_57 ?_
      replace hf := zb1_s hf
      obtain ⟨v31, h30, hf⟩ := hf
      refine zr_callS [.int v28] (cX4_isLetter_ok h30) zvs_X4_isLetter zl_301 zl_300 rfl (Nat.le_of_ble_eq_true rfl) (Nat.le_of_ble_eq_true rfl) (Nat.le_of_ble_eq_true rfl) (Nat.le_of_ble_eq_true rfl) dX4_advance_58 rfl ?_
      refine zr_if_eq 98 dX4_advance_61 (by decide) (fun hc => ?_) (fun hc => ?_)
      · rw [if_pos hc] at hf
        refine zr_aload_n 0 dX4_advance_98 rfl ?_
        replace hf := zb1_s hf
        obtain ⟨v32, h33, hf⟩ := hf
        refine zr_get (zm_gR_g h33) zk4 (by decide) zl_275 dX4_advance_99 ?_
        refine zr_iload_n 1 dX4_advance_102 rfl ?_
        replace hf := zb1_s hf
        obtain ⟨v34, h35, hf⟩ := hf
        refine zr_bald h35 dX4_advance_103 ?_
        replace hf := zb1_s hf
        obtain ⟨v37, h36, hf⟩ := hf
        refine zr_callS [.int v34] (cX4_isDigit_ok h36) zvs_X4_isDigit zl_304 zl_303 rfl (Nat.le_of_ble_eq_true rfl) (Nat.le_of_ble_eq_true rfl) (Nat.le_of_ble_eq_true rfl) (Nat.le_of_ble_eq_true rfl) dX4_advance_104 rfl ?_
        refine zr_if_eq 158 dX4_advance_107 (by decide) (fun hc => ?_) (fun hc => ?_)
        · rw [if_pos hc] at hf
          refine zr_aload_n 0 dX4_advance_158 rfl ?_
          refine zr_aload_n 0 dX4_advance_159 rfl ?_
          replace hf := zb1_s hf
          obtain ⟨v38, h39, hf⟩ := hf
          refine zr_get (zm_gR_g h39) zk4 (by decide) zl_275 dX4_advance_160 ?_
          refine zr_iload_n 1 dX4_advance_163 rfl ?_
          replace hf := zb1_s hf
          obtain ⟨v40, h41, hf⟩ := hf
          refine zr_bald h41 dX4_advance_164 ?_
          refine zr_bipush 59 dX4_advance_165 (by decide) ?_
          replace hf := zb1_s hf
          obtain ⟨s42, hg, hf⟩ := hf
          have hj43 : zz K cX4_advance (2, RX4, none, 1, 0, 0, none, mo) 0 0 175 [(0, .ref x0), (1, .int x1_6)] [.int s42, .ref x0] m17 := by
            replace hf := zb1_s hf
            obtain ⟨m44, h45, hf⟩ := hf
            refine zr_put h45 zk4 (by decide) zl_270 rfl rfl rfl dX4_advance_175 ?_
            refine zr_iinc (j := 1) (x1_6 + 1) [(1, .int (x1_6 + 1)), (0, .ref x0)] dX4_advance_178 rfl rfl (Nat.le_of_ble_eq_true rfl) rfl ?_
            cases hf
            exact zr_lv [1, 0] rfl hj23
          clear hf
          have hf := hg
          clear hg
          refine zr_icmp_ne 174 dX4_advance_167 (by decide) (fun hc => ?_) (fun hc => ?_)
          · rw [if_neg hc] at hf
            refine zr_iconst 4 dX4_advance_174 (by decide) ?_
            cases hf
            exact zr_lv [0, 1] rfl hj43
          · rw [if_pos hc] at hf
            refine zr_iconst 3 dX4_advance_170 (by decide) ?_
            refine zr_goto 175 dX4_advance_171 (by decide) ?_
            cases hf
            exact zr_lv [0, 1] rfl hj43
        · rw [if_neg hc] at hf
          replace hf := zb1_s hf
          obtain ⟨x1_49, hg, hf⟩ := hf
          have hj50 : zz K cX4_advance (2, RX4, none, 1, 0, 0, none, mo) 0 0 136 [(0, .ref x0), (1, .int x1_49)] [] m17 := by
            refine zr_aload_n 0 dX4_advance_136 rfl ?_
            refine zr_iload_n 1 dX4_advance_137 rfl ?_
            refine zr_aload_n 0 dX4_advance_138 rfl ?_
            replace hf := zb1_s hf
            obtain ⟨v60, h61, hf⟩ := hf
            refine zr_get (zm_gI_g h61) zk4 (by decide) zl_271 dX4_advance_139 ?_
            refine zr_isub dX4_advance_142 ?_
            refine zr_iconst 2 dX4_advance_143 (by decide) ?_
            replace hf := zb1_s hf
            obtain ⟨s62, hg, hf⟩ := hf
            have hj63 : zz K cX4_advance (2, RX4, none, 1, 0, 0, none, mo) 0 0 152 [(0, .ref x0), (1, .int x1_49)] [.int s62, .ref x0] m17 := by
              replace hf := zb1_s hf
              obtain ⟨m64, h65, hf⟩ := hf
              refine zr_put h65 zk4 (by decide) zl_270 rfl rfl rfl dX4_advance_152 ?_
              refine zr_goto 181 dX4_advance_155 (by decide) ?_
              cases hf
              exact zr_lv [0, 1] rfl hj23
            clear hf
            have hf := hg
            clear hg
            refine zr_icmp_gt 151 dX4_advance_144 (by decide) (fun hc => ?_) (fun hc => ?_)
            · rw [if_pos hc] at hf
              refine zr_iconst 4 dX4_advance_151 (by decide) ?_
              cases hf
              exact zr_lv [0, 1] rfl hj63
            · rw [if_neg hc] at hf
              refine zr_iconst 2 dX4_advance_147 (by decide) ?_
              refine zr_goto 152 dX4_advance_148 (by decide) ?_
              cases hf
              exact zr_lv [0, 1] rfl hj63
          clear hf
          have hf := hg
          clear hg
          have hL59 : ∀ (n : Nat) (x1_46 : Int32), zf1 (fX4_advance_l110x m17 x0) n x1_46 = some x1_49 → zz K cX4_advance (2, RX4, none, 1, 0, 0, none, mo) 0 0 110 [(0, .ref x0), (1, .int x1_46)] [] m17 := by
            intro n
            induction n with
            | zero => intro x1_46 hf; cases hf
            | succ n ih48 =>
              intro x1_46 hf
              replace hf := zf1_s hf
              generalize zf1 (fX4_advance_l110x m17 x0) n = F47 at hf ih48
              unfold fX4_advance_l110x at hf
              refine zr_iload_n 1 dX4_advance_110 rfl ?_
              refine zr_aload_n 0 dX4_advance_111 rfl ?_
              replace hf := zb1_s hf
              obtain ⟨v51, h52, hf⟩ := hf
              refine zr_get (zm_gI_g h52) zk4 (by decide) zl_269 dX4_advance_112 ?_
              refine zr_icmp_ge 136 dX4_advance_115 (by decide) (fun hc => ?_) (fun hc => ?_)
              · rw [if_pos hc] at hf
                cases hf
                exact zr_lv [0, 1] rfl hj50
              · rw [if_neg hc] at hf
                refine zr_aload_n 0 dX4_advance_118 rfl ?_
                replace hf := zb1_s hf
                obtain ⟨v53, h54, hf⟩ := hf
                refine zr_get (zm_gR_g h54) zk4 (by decide) zl_275 dX4_advance_119 ?_
                refine zr_iload_n 1 dX4_advance_122 rfl ?_
                replace hf := zb1_s hf
                obtain ⟨v55, h56, hf⟩ := hf
                refine zr_bald h56 dX4_advance_123 ?_
                replace hf := zb1_s hf
                obtain ⟨v58, h57, hf⟩ := hf
                refine zr_callS [.int v55] (cX4_isDigit_ok h57) zvs_X4_isDigit zl_304 zl_303 rfl (Nat.le_of_ble_eq_true rfl) (Nat.le_of_ble_eq_true rfl) (Nat.le_of_ble_eq_true rfl) (Nat.le_of_ble_eq_true rfl) dX4_advance_124 rfl ?_
                refine zr_if_eq 136 dX4_advance_127 (by decide) (fun hc => ?_) (fun hc => ?_)
                · rw [if_pos hc] at hf
                  cases hf
                  exact zr_lv [0, 1] rfl hj50
                · rw [if_neg hc] at hf
                  refine zr_iinc (j := 1) (x1_46 + 1) [(1, .int (x1_46 + 1)), (0, .ref x0)] dX4_advance_130 rfl rfl (Nat.le_of_ble_eq_true rfl) rfl ?_
                  refine zr_goto 110 dX4_advance_133 (by decide) ?_
                  exact zr_lv [1, 0] rfl (ih48 (x1_46 + 1) hf)
          exact zr_lv [0, 1] rfl (hL59 _ x1_6 hf)
      · rw [if_neg hc] at hf
        replace hf := zb1_s hf
        obtain ⟨x1_69, hg, hf⟩ := hf
        have hj70 : zz K cX4_advance (2, RX4, none, 1, 0, 0, none, mo) 0 0 90 [(0, .ref x0), (1, .int x1_69)] [] m17 := by
          refine zr_aload_n 0 dX4_advance_90 rfl ?_
          refine zr_iconst 1 dX4_advance_91 (by decide) ?_
          replace hf := zb1_s hf
          obtain ⟨m80, h81, hf⟩ := hf
          refine zr_put h81 zk4 (by decide) zl_270 rfl rfl rfl dX4_advance_92 ?_
          refine zr_goto 181 dX4_advance_95 (by decide) ?_
          cases hf
          exact zr_lv [0, 1] rfl hj23
        clear hf
        have hf := hg
        clear hg
        have hL79 : ∀ (n : Nat) (x1_66 : Int32), zf1 (fX4_advance_l64x m17 x0) n x1_66 = some x1_69 → zz K cX4_advance (2, RX4, none, 1, 0, 0, none, mo) 0 0 64 [(0, .ref x0), (1, .int x1_66)] [] m17 := by
          intro n
          induction n with
          | zero => intro x1_66 hf; cases hf
          | succ n ih68 =>
            intro x1_66 hf
            replace hf := zf1_s hf
            generalize zf1 (fX4_advance_l64x m17 x0) n = F67 at hf ih68
            unfold fX4_advance_l64x at hf
            refine zr_iload_n 1 dX4_advance_64 rfl ?_
            refine zr_aload_n 0 dX4_advance_65 rfl ?_
            replace hf := zb1_s hf
            obtain ⟨v71, h72, hf⟩ := hf
            refine zr_get (zm_gI_g h72) zk4 (by decide) zl_269 dX4_advance_66 ?_
            refine zr_icmp_ge 90 dX4_advance_69 (by decide) (fun hc => ?_) (fun hc => ?_)
            · rw [if_pos hc] at hf
              cases hf
              exact zr_lv [0, 1] rfl hj70
            · rw [if_neg hc] at hf
              refine zr_aload_n 0 dX4_advance_72 rfl ?_
              replace hf := zb1_s hf
              obtain ⟨v73, h74, hf⟩ := hf
              refine zr_get (zm_gR_g h74) zk4 (by decide) zl_275 dX4_advance_73 ?_
              refine zr_iload_n 1 dX4_advance_76 rfl ?_
              replace hf := zb1_s hf
              obtain ⟨v75, h76, hf⟩ := hf
              refine zr_bald h76 dX4_advance_77 ?_
              replace hf := zb1_s hf
              obtain ⟨v78, h77, hf⟩ := hf
              refine zr_callS [.int v75] (cX4_isLetter_ok h77) zvs_X4_isLetter zl_301 zl_300 rfl (Nat.le_of_ble_eq_true rfl) (Nat.le_of_ble_eq_true rfl) (Nat.le_of_ble_eq_true rfl) (Nat.le_of_ble_eq_true rfl) dX4_advance_78 rfl ?_
              refine zr_if_eq 90 dX4_advance_81 (by decide) (fun hc => ?_) (fun hc => ?_)
              · rw [if_pos hc] at hf
                cases hf
                exact zr_lv [0, 1] rfl hj70
              · rw [if_neg hc] at hf
                refine zr_iinc (j := 1) (x1_66 + 1) [(1, .int (x1_66 + 1)), (0, .ref x0)] dX4_advance_84 rfl rfl (Nat.le_of_ble_eq_true rfl) rfl ?_
                refine zr_goto 64 dX4_advance_87 (by decide) ?_
                exact zr_lv [1, 0] rfl (ih68 (x1_66 + 1) hf)
        exact zr_lv [0, 1] rfl (hL79 _ x1_6 hf)
    · rw [if_neg hc] at hf
      refine zr_aload_n 0 dX4_advance_44 rfl ?_
      refine zr_iconst 0 dX4_advance_45 (by decide) ?_
      replace hf := zb1_s hf
      obtain ⟨m82, h83, hf⟩ := hf
      refine zr_put h83 zk4 (by decide) zl_270 rfl rfl rfl dX4_advance_46 ?_
      refine zr_goto 181 dX4_advance_49 (by decide) ?_
      cases hf
      exact zr_lv [0, 1] rfl hj23
  clear hf
  have hf := hg
  clear hg
  have hL16 : ∀ (n : Nat) (x1_3 : Int32), zf1 (fX4_advance_l5 μ x0) n x1_3 = some x1_6 → zz K cX4_advance (2, RX4, none, 1, 0, 0, none, mo) 0 0 5 [(0, .ref x0), (1, .int x1_3)] [] μ := by
    intro n
    induction n with
    | zero => intro x1_3 hf; cases hf
    | succ n ih5 =>
      intro x1_3 hf
      replace hf := zf1_s hf
      generalize zf1 (fX4_advance_l5 μ x0) n = F4 at hf ih5
      unfold fX4_advance_l5 at hf
      refine zr_iload_n 1 dX4_advance_5 rfl ?_
      refine zr_aload_n 0 dX4_advance_6 rfl ?_
      replace hf := zb1_s hf
      obtain ⟨v8, h9, hf⟩ := hf
      refine zr_get (zm_gI_g h9) zk4 (by decide) zl_269 dX4_advance_7 ?_
      refine zr_icmp_ge 31 dX4_advance_10 (by decide) (fun hc => ?_) (fun hc => ?_)
      · rw [if_pos hc] at hf
        cases hf
        exact zr_lv [0, 1] rfl hj7
      · rw [if_neg hc] at hf
        refine zr_aload_n 0 dX4_advance_13 rfl ?_
        replace hf := zb1_s hf
        obtain ⟨v10, h11, hf⟩ := hf
        refine zr_get (zm_gR_g h11) zk4 (by decide) zl_275 dX4_advance_14 ?_
        refine zr_iload_n 1 dX4_advance_17 rfl ?_
        replace hf := zb1_s hf
        obtain ⟨v12, h13, hf⟩ := hf
        refine zr_bald h13 dX4_advance_18 ?_
        replace hf := zb1_s hf
        obtain ⟨v15, h14, hf⟩ := hf
        refine zr_callS [.int v12] (cX4_isBlank_ok h14) zvs_X4_isBlank zl_298 zl_297 rfl (Nat.le_of_ble_eq_true rfl) (Nat.le_of_ble_eq_true rfl) (Nat.le_of_ble_eq_true rfl) (Nat.le_of_ble_eq_true rfl) dX4_advance_19 rfl ?_
        refine zr_if_eq 31 dX4_advance_22 (by decide) (fun hc => ?_) (fun hc => ?_)
        · rw [if_pos hc] at hf
          cases hf
          exact zr_lv [0, 1] rfl hj7
        · rw [if_neg hc] at hf
          refine zr_iinc (j := 1) (x1_3 + 1) [(1, .int (x1_3 + 1)), (0, .ref x0)] dX4_advance_25 rfl rfl (Nat.le_of_ble_eq_true rfl) rfl ?_
          refine zr_goto 5 dX4_advance_28 (by decide) ?_
          exact zr_lv [1, 0] rfl (ih5 (x1_3 + 1) hf)
  exact zr_lv [1, 0] rfl (hL16 _ v1 hf)
theorem dJ2_length_9d52b_0 : decode cJ2_length_9d52b 0 = .ok (.aload_n 0, 1) := by decide +kernel
theorem dJ2_length_9d52b_1 : decode cJ2_length_9d52b 1 = .ok (.arraylength, 1) := by decide +kernel
theorem dJ2_length_9d52b_2 : decode cJ2_length_9d52b 2 = .ok (.iconst 1, 1) := by decide +kernel
theorem dJ2_length_9d52b_3 : decode cJ2_length_9d52b 3 = .ok (.ishr, 1) := by decide +kernel
theorem dJ2_length_9d52b_4 : decode cJ2_length_9d52b 4 = .ok (.ireturn, 1) := by decide +kernel
def fJ2_length_9d52b (μ : zM) (x0 : Nat) : Option (Int32) :=
  zb1 (zm_len μ x0) fun v1 =>
  some (v1 >>> (1 &&& 31))
set_option maxHeartbeats 4000000 in
set_option maxRecDepth 100000 in
theorem cJ2_length_9d52b_ok {μ : zM} {x0 : Nat} {r : Int32} (hf : fJ2_length_9d52b μ x0 = some r) : zC yJ2_length_9d52b cJ2_length_9d52b 1 (some .int) 0 0 0 [.ref x0] μ (some (.int r)) μ := by
  unfold fJ2_length_9d52b at hf
  refine zC.of (by decide) (Nat.le_of_ble_eq_true rfl) (fun K hin => ?_)
  clear hin
  show zz K cJ2_length_9d52b (1, RJ2, some .int, 0, 0, 0, some (.int r), μ) 0 0 0 [(0, .ref x0)] [] μ
  refine zr_aload_n 0 dJ2_length_9d52b_0 rfl ?_
  replace hf := zb1_s hf
  obtain ⟨v1, h2, hf⟩ := hf
  refine zr_alen h2 dJ2_length_9d52b_1 ?_
  refine zr_iconst 1 dJ2_length_9d52b_2 (by decide) ?_
  refine zr_ishr dJ2_length_9d52b_3 ?_
  cases hf
  exact zr_iret dJ2_length_9d52b_4
theorem dX4_breakOff_0 : decode cX4_breakOff 0 = .ok (.aload_n 0, 1) := by decide +kernel
theorem dX4_breakOff_1 : decode cX4_breakOff 1 = .ok (.iconst 1, 1) := by decide +kernel
theorem dX4_breakOff_2 : decode cX4_breakOff 2 = .ok (.putfield 39, 3) := by decide +kernel
theorem dX4_breakOff_5 : decode cX4_breakOff 5 = .ok (.aload_n 0, 1) := by decide +kernel
theorem dX4_breakOff_6 : decode cX4_breakOff 6 = .ok (.aload_n 0, 1) := by decide +kernel
theorem dX4_breakOff_7 : decode cX4_breakOff 7 = .ok (.getfield 52, 3) := by decide +kernel
theorem dX4_breakOff_10 : decode cX4_breakOff 10 = .ok (.putfield 43, 3) := by decide +kernel
theorem dX4_breakOff_13 : decode cX4_breakOff 13 = .ok (.return_, 1) := by decide +kernel
def fX4_breakOff (μ : zM) (x0 : Nat) : Option (zM) := zgd (zm_ck μ 4 x0) <|
  zb1 (zm_p μ 4 x0 4 (.int 1)) fun m1 =>
  zb1 (zm_gI m1 4 x0 9) fun v3 =>
  zb1 (zm_p m1 4 x0 5 (.int v3)) fun m5 =>
  some m5
theorem fX4_breakOff_ck {μ : zM} {x0 : Nat} {z : zM} (h : fX4_breakOff μ x0 = some z) : zm_ck μ 4 x0 = true := (zgd_s h).1
set_option maxHeartbeats 4000000 in
set_option maxRecDepth 100000 in
theorem cX4_breakOff_ok {μ : zM} {x0 : Nat} {mo : zM} (hf : fX4_breakOff μ x0 = some mo) : zC yX4_breakOff cX4_breakOff 1 (none) 0 0 0 [.ref x0] μ (none) mo := by
  replace hf := (zgd_s hf).2
  refine zC.of (by decide) (Nat.le_of_ble_eq_true rfl) (fun K hin => ?_)
  clear hin
  show zz K cX4_breakOff (1, RX4, none, 0, 0, 0, none, mo) 0 0 0 [(0, .ref x0)] [] μ
  refine zr_aload_n 0 dX4_breakOff_0 rfl ?_
  refine zr_iconst 1 dX4_breakOff_1 (by decide) ?_
  replace hf := zb1_s hf
  obtain ⟨m1, h2, hf⟩ := hf
  refine zr_put h2 zk4 (by decide) zl_267 rfl rfl rfl dX4_breakOff_2 ?_
  refine zr_aload_n 0 dX4_breakOff_5 rfl ?_
  refine zr_aload_n 0 dX4_breakOff_6 rfl ?_
  replace hf := zb1_s hf
  obtain ⟨v3, h4, hf⟩ := hf
  refine zr_get (zm_gI_g h4) zk4 (by decide) zl_271 dX4_breakOff_7 ?_
  replace hf := zb1_s hf
  obtain ⟨m5, h6, hf⟩ := hf
  refine zr_put h6 zk4 (by decide) zl_268 rfl rfl rfl dX4_breakOff_10 ?_
  cases hf
  exact zr_vret dX4_breakOff_13
theorem dX4_tokenNumber_0 : decode cX4_tokenNumber 0 = .ok (.iconst 0, 1) := by decide +kernel
theorem dX4_tokenNumber_1 : decode cX4_tokenNumber 1 = .ok (.istore_n 1, 1) := by decide +kernel
theorem dX4_tokenNumber_2 : decode cX4_tokenNumber 2 = .ok (.aload_n 0, 1) := by decide +kernel
theorem dX4_tokenNumber_3 : decode cX4_tokenNumber 3 = .ok (.getfield 52, 3) := by decide +kernel
theorem dX4_tokenNumber_6 : decode cX4_tokenNumber 6 = .ok (.istore_n 2, 1) := by decide +kernel
theorem dX4_tokenNumber_7 : decode cX4_tokenNumber 7 = .ok (.iload_n 2, 1) := by decide +kernel
theorem dX4_tokenNumber_8 : decode cX4_tokenNumber 8 = .ok (.aload_n 0, 1) := by decide +kernel
theorem dX4_tokenNumber_9 : decode cX4_tokenNumber 9 = .ok (.getfield 55, 3) := by decide +kernel
theorem dX4_tokenNumber_12 : decode cX4_tokenNumber 12 = .ok (.if_icmp .ge 24, 3) := by decide +kernel
theorem dX4_tokenNumber_15 : decode cX4_tokenNumber 15 = .ok (.bipush 10, 2) := by decide +kernel
theorem dX4_tokenNumber_17 : decode cX4_tokenNumber 17 = .ok (.iload_n 1, 1) := by decide +kernel
theorem dX4_tokenNumber_18 : decode cX4_tokenNumber 18 = .ok (.imul, 1) := by decide +kernel
theorem dX4_tokenNumber_19 : decode cX4_tokenNumber 19 = .ok (.aload_n 0, 1) := by decide +kernel
theorem dX4_tokenNumber_20 : decode cX4_tokenNumber 20 = .ok (.getfield 65, 3) := by decide +kernel
theorem dX4_tokenNumber_23 : decode cX4_tokenNumber 23 = .ok (.iload_n 2, 1) := by decide +kernel
theorem dX4_tokenNumber_24 : decode cX4_tokenNumber 24 = .ok (.baload, 1) := by decide +kernel
theorem dX4_tokenNumber_25 : decode cX4_tokenNumber 25 = .ok (.bipush 48, 2) := by decide +kernel
theorem dX4_tokenNumber_27 : decode cX4_tokenNumber 27 = .ok (.isub, 1) := by decide +kernel
theorem dX4_tokenNumber_28 : decode cX4_tokenNumber 28 = .ok (.iadd, 1) := by decide +kernel
theorem dX4_tokenNumber_29 : decode cX4_tokenNumber 29 = .ok (.istore_n 1, 1) := by decide +kernel
theorem dX4_tokenNumber_30 : decode cX4_tokenNumber 30 = .ok (.iinc 2 1, 3) := by decide +kernel
theorem dX4_tokenNumber_33 : decode cX4_tokenNumber 33 = .ok (.goto (-26), 3) := by decide +kernel
theorem dX4_tokenNumber_36 : decode cX4_tokenNumber 36 = .ok (.iload_n 1, 1) := by decide +kernel
theorem dX4_tokenNumber_37 : decode cX4_tokenNumber 37 = .ok (.ireturn, 1) := by decide +kernel
def fX4_tokenNumber_l7 (μ : zM) (x0 : Nat) (F5 : Int32 → Int32 → Option (Int32)) (x1_3 : Int32) (x2_4 : Int32) : Option (Int32) :=
  zb1 (zm_gI μ 4 x0 10) fun v9 =>
  if v9 ≤ x2_4 then (
  some x1_3)
  else (
  zb1 (zm_gR μ 4 x0 6) fun v11 =>
  zb1 (zm_aI μ 1 v11 x2_4) fun v13 =>
  F5 ((10 * x1_3) + (v13 - 48)) (x2_4 + 1))
def fX4_tokenNumber (μ : zM) (x0 : Nat) : Option (Int32) := zgd (zm_ck μ 4 x0) <|
  zb1 (zm_gI μ 4 x0 9) fun v1 =>
  zb1 (zf2 (fX4_tokenNumber_l7 μ x0) zfu 0 v1) fun x1_7 =>
  some x1_7
theorem fX4_tokenNumber_ck {μ : zM} {x0 : Nat} {z : Int32} (h : fX4_tokenNumber μ x0 = some z) : zm_ck μ 4 x0 = true := (zgd_s h).1
set_option maxHeartbeats 4000000 in
set_option maxRecDepth 100000 in
theorem cX4_tokenNumber_ok {μ : zM} {x0 : Nat} {r : Int32} (hf : fX4_tokenNumber μ x0 = some r) : zC yX4_tokenNumber cX4_tokenNumber 3 (some .int) 0 0 0 [.ref x0] μ (some (.int r)) μ := by
  replace hf := (zgd_s hf).2
  refine zC.of (by decide) (Nat.le_of_ble_eq_true rfl) (fun K hin => ?_)
  clear hin
  show zz K cX4_tokenNumber (3, RX4, some .int, 0, 0, 0, some (.int r), μ) 0 0 0 [(0, .ref x0)] [] μ
  refine zr_iconst 0 dX4_tokenNumber_0 (by decide) ?_
  refine zr_istore_n [(1, .int 0), (0, .ref x0)] dX4_tokenNumber_1 (Nat.le_of_ble_eq_true rfl) rfl ?_
  refine zr_aload_n 1 dX4_tokenNumber_2 rfl ?_
  replace hf := zb1_s hf
  obtain ⟨v1, h2, hf⟩ := hf
  refine zr_get (zm_gI_g h2) zk4 (by decide) zl_271 dX4_tokenNumber_3 ?_
  refine zr_istore_n [(2, .int v1), (1, .int 0), (0, .ref x0)] dX4_tokenNumber_6 (Nat.le_of_ble_eq_true rfl) rfl ?_
  replace hf := zb1_s hf
  obtain ⟨x1_7, hg, hf⟩ := hf
  have hj8 : zz K cX4_tokenNumber (3, RX4, some .int, 0, 0, 0, some (.int r), μ) 0 0 36 [(1, .int x1_7)] [] μ := by
    refine zr_iload_n 0 dX4_tokenNumber_36 rfl ?_
    cases hf
    exact zr_iret dX4_tokenNumber_37
  clear hf
  have hf := hg
  clear hg
  have hL15 : ∀ (n : Nat) (x1_3 : Int32) (x2_4 : Int32), zf2 (fX4_tokenNumber_l7 μ x0) n x1_3 x2_4 = some x1_7 → zz K cX4_tokenNumber (3, RX4, some .int, 0, 0, 0, some (.int r), μ) 0 0 7 [(0, .ref x0), (1, .int x1_3), (2, .int x2_4)] [] μ := by
    intro n
    induction n with
    | zero => intro x1_3 x2_4 hf; cases hf
    | succ n ih6 =>
      intro x1_3 x2_4 hf
      replace hf := zf2_s hf
      generalize zf2 (fX4_tokenNumber_l7 μ x0) n = F5 at hf ih6
      unfold fX4_tokenNumber_l7 at hf
      refine zr_iload_n 2 dX4_tokenNumber_7 rfl ?_
      refine zr_aload_n 0 dX4_tokenNumber_8 rfl ?_
      replace hf := zb1_s hf
      obtain ⟨v9, h10, hf⟩ := hf
      refine zr_get (zm_gI_g h10) zk4 (by decide) zl_272 dX4_tokenNumber_9 ?_
      refine zr_icmp_ge 36 dX4_tokenNumber_12 (by decide) (fun hc => ?_) (fun hc => ?_)
      · rw [if_pos hc] at hf
        cases hf
        exact zr_lv [1] rfl hj8
      · rw [if_neg hc] at hf
        refine zr_bipush 10 dX4_tokenNumber_15 (by decide) ?_
        refine zr_iload_n 1 dX4_tokenNumber_17 rfl ?_
        refine zr_imul dX4_tokenNumber_18 ?_
        refine zr_aload_n 0 dX4_tokenNumber_19 rfl ?_
        replace hf := zb1_s hf
        obtain ⟨v11, h12, hf⟩ := hf
        refine zr_get (zm_gR_g h12) zk4 (by decide) zl_275 dX4_tokenNumber_20 ?_
        refine zr_iload_n 2 dX4_tokenNumber_23 rfl ?_
        replace hf := zb1_s hf
        obtain ⟨v13, h14, hf⟩ := hf
        refine zr_bald h14 dX4_tokenNumber_24 ?_
        refine zr_bipush 48 dX4_tokenNumber_25 (by decide) ?_
        refine zr_isub dX4_tokenNumber_27 ?_
        refine zr_iadd dX4_tokenNumber_28 ?_
        refine zr_istore_n [(1, .int ((10 * x1_3) + (v13 - 48))), (0, .ref x0), (2, .int x2_4)] dX4_tokenNumber_29 (Nat.le_of_ble_eq_true rfl) rfl ?_
        refine zr_iinc (j := 2) (x2_4 + 1) [(2, .int (x2_4 + 1)), (1, .int ((10 * x1_3) + (v13 - 48))), (0, .ref x0)] dX4_tokenNumber_30 rfl rfl (Nat.le_of_ble_eq_true rfl) rfl ?_
        refine zr_goto 7 dX4_tokenNumber_33 (by decide) ?_
        exact zr_lv [2, 1, 0] rfl (ih6 ((10 * x1_3) + (v13 - 48)) (x2_4 + 1) hf)
  exact zr_lv [2, 1, 0] rfl (hL15 _ 0 v1 hf)
theorem zl_305 : Cond.fieldLink RX4 141 "TwoEchoes$Valley" "people" "I" ∈ zt := zt_at 191 (by decide +kernel)
theorem zl_306 : Cond.fieldLink RX4 138 "TwoEchoes$Valley" "skies" "I" ∈ zt := zt_at 203 (by decide +kernel)
theorem zl_307 : Cond.fieldLink RX4 135 "TwoEchoes$Day" "deeds" "I" ∈ zt := zt_at 247 (by decide +kernel)
theorem zl_308 : Cond.fieldLink RX4 132 "TwoEchoes$Lesson" "pairs" "I" ∈ zt := zt_at 274 (by decide +kernel)
theorem zl_309 : Cond.fieldLink RX4 129 "TwoEchoes$Sight" "facts" "I" ∈ zt := zt_at 295 (by decide +kernel)
theorem dX4_isFull_0 : decode cX4_isFull 0 = .ok (.iload_n 1, 1) := by decide +kernel
theorem dX4_isFull_1 : decode cX4_isFull 1 = .ok (.bipush 16, 2) := by decide +kernel
theorem dX4_isFull_3 : decode cX4_isFull 3 = .ok (.if_icmp .lt 21, 3) := by decide +kernel
theorem dX4_isFull_6 : decode cX4_isFull 6 = .ok (.aload_n 0, 1) := by decide +kernel
theorem dX4_isFull_7 : decode cX4_isFull 7 = .ok (.getfield 35, 3) := by decide +kernel
theorem dX4_isFull_10 : decode cX4_isFull 10 = .ok (.getfield 129, 3) := by decide +kernel
theorem dX4_isFull_13 : decode cX4_isFull 13 = .ok (.bipush 8, 2) := by decide +kernel
theorem dX4_isFull_15 : decode cX4_isFull 15 = .ok (.if_icmp .lt 7, 3) := by decide +kernel
theorem dX4_isFull_18 : decode cX4_isFull 18 = .ok (.iconst 1, 1) := by decide +kernel
theorem dX4_isFull_19 : decode cX4_isFull 19 = .ok (.goto 4, 3) := by decide +kernel
theorem dX4_isFull_22 : decode cX4_isFull 22 = .ok (.iconst 0, 1) := by decide +kernel
theorem dX4_isFull_23 : decode cX4_isFull 23 = .ok (.ireturn, 1) := by decide +kernel
theorem dX4_isFull_24 : decode cX4_isFull 24 = .ok (.iload_n 1, 1) := by decide +kernel
theorem dX4_isFull_25 : decode cX4_isFull 25 = .ok (.bipush 14, 2) := by decide +kernel
theorem dX4_isFull_27 : decode cX4_isFull 27 = .ok (.if_icmp .lt 27, 3) := by decide +kernel
theorem dX4_isFull_30 : decode cX4_isFull 30 = .ok (.iload_n 1, 1) := by decide +kernel
theorem dX4_isFull_31 : decode cX4_isFull 31 = .ok (.bipush 14, 2) := by decide +kernel
theorem dX4_isFull_33 : decode cX4_isFull 33 = .ok (.if_icmp .ne 19, 3) := by decide +kernel
theorem dX4_isFull_36 : decode cX4_isFull 36 = .ok (.aload_n 0, 1) := by decide +kernel
theorem dX4_isFull_37 : decode cX4_isFull 37 = .ok (.getfield 28, 3) := by decide +kernel
theorem dX4_isFull_40 : decode cX4_isFull 40 = .ok (.getfield 132, 3) := by decide +kernel
theorem dX4_isFull_43 : decode cX4_isFull 43 = .ok (.bipush 10, 2) := by decide +kernel
theorem dX4_isFull_45 : decode cX4_isFull 45 = .ok (.if_icmp .lt 7, 3) := by decide +kernel
theorem dX4_isFull_48 : decode cX4_isFull 48 = .ok (.iconst 1, 1) := by decide +kernel
theorem dX4_isFull_49 : decode cX4_isFull 49 = .ok (.goto 4, 3) := by decide +kernel
theorem dX4_isFull_52 : decode cX4_isFull 52 = .ok (.iconst 0, 1) := by decide +kernel
theorem dX4_isFull_53 : decode cX4_isFull 53 = .ok (.ireturn, 1) := by decide +kernel
theorem dX4_isFull_54 : decode cX4_isFull 54 = .ok (.iload_n 1, 1) := by decide +kernel
theorem dX4_isFull_55 : decode cX4_isFull 55 = .ok (.bipush 9, 2) := by decide +kernel
theorem dX4_isFull_57 : decode cX4_isFull 57 = .ok (.if_icmp .lt 21, 3) := by decide +kernel
theorem dX4_isFull_60 : decode cX4_isFull 60 = .ok (.aload_n 0, 1) := by decide +kernel
theorem dX4_isFull_61 : decode cX4_isFull 61 = .ok (.getfield 21, 3) := by decide +kernel
theorem dX4_isFull_64 : decode cX4_isFull 64 = .ok (.getfield 135, 3) := by decide +kernel
theorem dX4_isFull_67 : decode cX4_isFull 67 = .ok (.bipush 40, 2) := by decide +kernel
theorem dX4_isFull_69 : decode cX4_isFull 69 = .ok (.if_icmp .lt 7, 3) := by decide +kernel
theorem dX4_isFull_72 : decode cX4_isFull 72 = .ok (.iconst 1, 1) := by decide +kernel
theorem dX4_isFull_73 : decode cX4_isFull 73 = .ok (.goto 4, 3) := by decide +kernel
theorem dX4_isFull_76 : decode cX4_isFull 76 = .ok (.iconst 0, 1) := by decide +kernel
theorem dX4_isFull_77 : decode cX4_isFull 77 = .ok (.ireturn, 1) := by decide +kernel
theorem dX4_isFull_78 : decode cX4_isFull 78 = .ok (.iload_n 1, 1) := by decide +kernel
theorem dX4_isFull_79 : decode cX4_isFull 79 = .ok (.bipush 7, 2) := by decide +kernel
theorem dX4_isFull_81 : decode cX4_isFull 81 = .ok (.if_icmp .lt 20, 3) := by decide +kernel
theorem dX4_isFull_84 : decode cX4_isFull 84 = .ok (.aload_n 0, 1) := by decide +kernel
theorem dX4_isFull_85 : decode cX4_isFull 85 = .ok (.getfield 12, 3) := by decide +kernel
theorem dX4_isFull_88 : decode cX4_isFull 88 = .ok (.getfield 138, 3) := by decide +kernel
theorem dX4_isFull_91 : decode cX4_isFull 91 = .ok (.iconst 4, 1) := by decide +kernel
theorem dX4_isFull_92 : decode cX4_isFull 92 = .ok (.if_icmp .lt 7, 3) := by decide +kernel
theorem dX4_isFull_95 : decode cX4_isFull 95 = .ok (.iconst 1, 1) := by decide +kernel
theorem dX4_isFull_96 : decode cX4_isFull 96 = .ok (.goto 4, 3) := by decide +kernel
theorem dX4_isFull_99 : decode cX4_isFull 99 = .ok (.iconst 0, 1) := by decide +kernel
theorem dX4_isFull_100 : decode cX4_isFull 100 = .ok (.ireturn, 1) := by decide +kernel
theorem dX4_isFull_101 : decode cX4_isFull 101 = .ok (.iload_n 1, 1) := by decide +kernel
theorem dX4_isFull_102 : decode cX4_isFull 102 = .ok (.iconst 4, 1) := by decide +kernel
theorem dX4_isFull_103 : decode cX4_isFull 103 = .ok (.if_icmp .lt 19, 3) := by decide +kernel
theorem dX4_isFull_106 : decode cX4_isFull 106 = .ok (.aload_n 0, 1) := by decide +kernel
theorem dX4_isFull_107 : decode cX4_isFull 107 = .ok (.getfield 12, 3) := by decide +kernel
theorem dX4_isFull_110 : decode cX4_isFull 110 = .ok (.getfield 141, 3) := by decide +kernel
theorem dX4_isFull_113 : decode cX4_isFull 113 = .ok (.bipush 6, 2) := by decide +kernel
theorem dX4_isFull_115 : decode cX4_isFull 115 = .ok (.if_icmp .lt 7, 3) := by decide +kernel
theorem dX4_isFull_118 : decode cX4_isFull 118 = .ok (.iconst 1, 1) := by decide +kernel
theorem dX4_isFull_119 : decode cX4_isFull 119 = .ok (.goto 4, 3) := by decide +kernel
theorem dX4_isFull_122 : decode cX4_isFull 122 = .ok (.iconst 0, 1) := by decide +kernel
theorem dX4_isFull_123 : decode cX4_isFull 123 = .ok (.ireturn, 1) := by decide +kernel
def fX4_isFull (μ : zM) (x0 : Nat) (x1 : Int32) : Option (Int32) := zgd (zm_ck μ 4 x0) <|
  if x1 < 16 then (
  if x1 < 14 then (
  if x1 < 9 then (
  if x1 < 7 then (
  zb1 (if x1 < 4 then (
  some 0)
  else (
  zb1 (zm_gR μ 4 x0 0) fun v5 =>
  zb1 (zm_gI μ 9 v5 4) fun v7 =>
  if v7 < 6 then (
  some 0)
  else (
  some 1))) fun s1 =>
  zb1 (zbz s1) fun v3 =>
  some v3)
  else (
  zb1 (zm_gR μ 4 x0 0) fun v9 =>
  zb1 (zm_gI μ 9 v9 8) fun v11 =>
  zb1 (if v11 < 4 then (
  some 0)
  else (
  some 1)) fun s13 =>
  zb1 (zbz s13) fun v15 =>
  some v15))
  else (
  zb1 (zm_gR μ 4 x0 1) fun v17 =>
  zb1 (zm_gI μ 2 v17 0) fun v19 =>
  zb1 (if v19 < 40 then (
  some 0)
  else (
  some 1)) fun s21 =>
  zb1 (zbz s21) fun v23 =>
  some v23))
  else (
  zb1 (if x1 = 14 then (
  zb1 (zm_gR μ 4 x0 2) fun v29 =>
  zb1 (zm_gI μ 3 v29 1) fun v31 =>
  if v31 < 10 then (
  some 0)
  else (
  some 1))
  else (
  some 0)) fun s25 =>
  zb1 (zbz s25) fun v27 =>
  some v27))
  else (
  zb1 (zm_gR μ 4 x0 3) fun v33 =>
  zb1 (zm_gI μ 6 v33 0) fun v35 =>
  zb1 (if v35 < 8 then (
  some 0)
  else (
  some 1)) fun s37 =>
  zb1 (zbz s37) fun v39 =>
  some v39)
theorem fX4_isFull_ck {μ : zM} {x0 : Nat} {x1 : Int32} {z : Int32} (h : fX4_isFull μ x0 x1 = some z) : zm_ck μ 4 x0 = true := (zgd_s h).1
set_option maxHeartbeats 4000000 in
set_option maxRecDepth 100000 in
theorem cX4_isFull_ok {μ : zM} {x0 : Nat} {x1 : Int32} {r : Int32} (hf : fX4_isFull μ x0 x1 = some r) : zC yX4_isFull cX4_isFull 2 (some .boolean) 0 0 0 [.ref x0, .int x1] μ (some (.int r)) μ := by
  replace hf := (zgd_s hf).2
  refine zC.of (by decide) (Nat.le_of_ble_eq_true rfl) (fun K hin => ?_)
  clear hin
  show zz K cX4_isFull (2, RX4, some .boolean, 0, 0, 0, some (.int r), μ) 0 0 0 [(0, .ref x0), (1, .int x1)] [] μ
  refine zr_iload_n 1 dX4_isFull_0 rfl ?_
  refine zr_bipush 16 dX4_isFull_1 (by decide) ?_
  refine zr_icmp_lt 24 dX4_isFull_3 (by decide) (fun hc => ?_) (fun hc => ?_)
  · rw [if_pos hc] at hf
    refine zr_iload_n 1 dX4_isFull_24 rfl ?_
    refine zr_bipush 14 dX4_isFull_25 (by decide) ?_
    refine zr_icmp_lt 54 dX4_isFull_27 (by decide) (fun hc => ?_) (fun hc => ?_)
    · rw [if_pos hc] at hf
      refine zr_iload_n 1 dX4_isFull_54 rfl ?_
      refine zr_bipush 9 dX4_isFull_55 (by decide) ?_
      refine zr_icmp_lt 78 dX4_isFull_57 (by decide) (fun hc => ?_) (fun hc => ?_)
      · rw [if_pos hc] at hf
        refine zr_iload_n 1 dX4_isFull_78 rfl ?_
        refine zr_bipush 7 dX4_isFull_79 (by decide) ?_
        refine zr_icmp_lt 101 dX4_isFull_81 (by decide) (fun hc => ?_) (fun hc => ?_)
        · rw [if_pos hc] at hf
          refine zr_iload_n 1 dX4_isFull_101 rfl ?_
          refine zr_iconst 4 dX4_isFull_102 (by decide) ?_
          replace hf := zb1_s hf
          obtain ⟨s1, hg, hf⟩ := hf
          have hj2 : zz K cX4_isFull (2, RX4, some .boolean, 0, 0, 0, some (.int r), μ) 0 0 123 [] [.int s1] μ := by
            replace hf := zb1_s hf
            obtain ⟨v3, hn4, hf⟩ := hf
            obtain ⟨hn4, rfl⟩ := zbz_s hn4
            cases hf
            exact zr_zret hn4 dX4_isFull_123
          clear hf
          have hf := hg
          clear hg
          refine zr_icmp_lt 122 dX4_isFull_103 (by decide) (fun hc => ?_) (fun hc => ?_)
          · rw [if_pos hc] at hf
            refine zr_iconst 0 dX4_isFull_122 (by decide) ?_
            cases hf
            exact zr_lv [] rfl hj2
          · rw [if_neg hc] at hf
            refine zr_aload_n 0 dX4_isFull_106 rfl ?_
            replace hf := zb1_s hf
            obtain ⟨v5, h6, hf⟩ := hf
            refine zr_get (zm_gR_g h6) zk4 (by decide) zl_246 dX4_isFull_107 ?_
            replace hf := zb1_s hf
            obtain ⟨v7, h8, hf⟩ := hf
            refine zr_get (zm_gI_g h8) zk9 (by decide) zl_305 dX4_isFull_110 ?_
            refine zr_bipush 6 dX4_isFull_113 (by decide) ?_
            refine zr_icmp_lt 122 dX4_isFull_115 (by decide) (fun hc => ?_) (fun hc => ?_)
            · rw [if_pos hc] at hf
              refine zr_iconst 0 dX4_isFull_122 (by decide) ?_
              cases hf
              exact zr_lv [] rfl hj2
            · rw [if_neg hc] at hf
              refine zr_iconst 1 dX4_isFull_118 (by decide) ?_
              refine zr_goto 123 dX4_isFull_119 (by decide) ?_
              cases hf
              exact zr_lv [] rfl hj2
        · rw [if_neg hc] at hf
          refine zr_aload_n 0 dX4_isFull_84 rfl ?_
          replace hf := zb1_s hf
          obtain ⟨v9, h10, hf⟩ := hf
          refine zr_get (zm_gR_g h10) zk4 (by decide) zl_246 dX4_isFull_85 ?_
          replace hf := zb1_s hf
          obtain ⟨v11, h12, hf⟩ := hf
          refine zr_get (zm_gI_g h12) zk9 (by decide) zl_306 dX4_isFull_88 ?_
          refine zr_iconst 4 dX4_isFull_91 (by decide) ?_
          replace hf := zb1_s hf
          obtain ⟨s13, hg, hf⟩ := hf
          have hj14 : zz K cX4_isFull (2, RX4, some .boolean, 0, 0, 0, some (.int r), μ) 0 0 100 [] [.int s13] μ := by
            replace hf := zb1_s hf
            obtain ⟨v15, hn16, hf⟩ := hf
            obtain ⟨hn16, rfl⟩ := zbz_s hn16
            cases hf
            exact zr_zret hn16 dX4_isFull_100
          clear hf
          have hf := hg
          clear hg
          refine zr_icmp_lt 99 dX4_isFull_92 (by decide) (fun hc => ?_) (fun hc => ?_)
          · rw [if_pos hc] at hf
            refine zr_iconst 0 dX4_isFull_99 (by decide) ?_
            cases hf
            exact zr_lv [] rfl hj14
          · rw [if_neg hc] at hf
            refine zr_iconst 1 dX4_isFull_95 (by decide) ?_
            refine zr_goto 100 dX4_isFull_96 (by decide) ?_
            cases hf
            exact zr_lv [] rfl hj14
      · rw [if_neg hc] at hf
        refine zr_aload_n 0 dX4_isFull_60 rfl ?_
        replace hf := zb1_s hf
        obtain ⟨v17, h18, hf⟩ := hf
        refine zr_get (zm_gR_g h18) zk4 (by decide) zl_253 dX4_isFull_61 ?_
        replace hf := zb1_s hf
        obtain ⟨v19, h20, hf⟩ := hf
        refine zr_get (zm_gI_g h20) zk2 (by decide) zl_307 dX4_isFull_64 ?_
        refine zr_bipush 40 dX4_isFull_67 (by decide) ?_
        replace hf := zb1_s hf
        obtain ⟨s21, hg, hf⟩ := hf
        have hj22 : zz K cX4_isFull (2, RX4, some .boolean, 0, 0, 0, some (.int r), μ) 0 0 77 [] [.int s21] μ := by
          replace hf := zb1_s hf
          obtain ⟨v23, hn24, hf⟩ := hf
          obtain ⟨hn24, rfl⟩ := zbz_s hn24
          cases hf
          exact zr_zret hn24 dX4_isFull_77
        clear hf
        have hf := hg
        clear hg
        refine zr_icmp_lt 76 dX4_isFull_69 (by decide) (fun hc => ?_) (fun hc => ?_)
        · rw [if_pos hc] at hf
          refine zr_iconst 0 dX4_isFull_76 (by decide) ?_
          cases hf
          exact zr_lv [] rfl hj22
        · rw [if_neg hc] at hf
          refine zr_iconst 1 dX4_isFull_72 (by decide) ?_
          refine zr_goto 77 dX4_isFull_73 (by decide) ?_
          cases hf
          exact zr_lv [] rfl hj22
    · rw [if_neg hc] at hf
      refine zr_iload_n 1 dX4_isFull_30 rfl ?_
      refine zr_bipush 14 dX4_isFull_31 (by decide) ?_
      replace hf := zb1_s hf
      obtain ⟨s25, hg, hf⟩ := hf
      have hj26 : zz K cX4_isFull (2, RX4, some .boolean, 0, 0, 0, some (.int r), μ) 0 0 53 [] [.int s25] μ := by
        replace hf := zb1_s hf
        obtain ⟨v27, hn28, hf⟩ := hf
        obtain ⟨hn28, rfl⟩ := zbz_s hn28
        cases hf
        exact zr_zret hn28 dX4_isFull_53
      clear hf
      have hf := hg
      clear hg
      refine zr_icmp_ne 52 dX4_isFull_33 (by decide) (fun hc => ?_) (fun hc => ?_)
      · rw [if_neg hc] at hf
        refine zr_iconst 0 dX4_isFull_52 (by decide) ?_
        cases hf
        exact zr_lv [] rfl hj26
      · rw [if_pos hc] at hf
        refine zr_aload_n 0 dX4_isFull_36 rfl ?_
        replace hf := zb1_s hf
        obtain ⟨v29, h30, hf⟩ := hf
        refine zr_get (zm_gR_g h30) zk4 (by decide) zl_259 dX4_isFull_37 ?_
        replace hf := zb1_s hf
        obtain ⟨v31, h32, hf⟩ := hf
        refine zr_get (zm_gI_g h32) zk3 (by decide) zl_308 dX4_isFull_40 ?_
        refine zr_bipush 10 dX4_isFull_43 (by decide) ?_
        refine zr_icmp_lt 52 dX4_isFull_45 (by decide) (fun hc => ?_) (fun hc => ?_)
        · rw [if_pos hc] at hf
          refine zr_iconst 0 dX4_isFull_52 (by decide) ?_
          cases hf
          exact zr_lv [] rfl hj26
        · rw [if_neg hc] at hf
          refine zr_iconst 1 dX4_isFull_48 (by decide) ?_
          refine zr_goto 53 dX4_isFull_49 (by decide) ?_
          cases hf
          exact zr_lv [] rfl hj26
  · rw [if_neg hc] at hf
    refine zr_aload_n 0 dX4_isFull_6 rfl ?_
    replace hf := zb1_s hf
    obtain ⟨v33, h34, hf⟩ := hf
    refine zr_get (zm_gR_g h34) zk4 (by decide) zl_266 dX4_isFull_7 ?_
    replace hf := zb1_s hf
    obtain ⟨v35, h36, hf⟩ := hf
    refine zr_get (zm_gI_g h36) zk6 (by decide) zl_309 dX4_isFull_10 ?_
    refine zr_bipush 8 dX4_isFull_13 (by decide) ?_
    replace hf := zb1_s hf
    obtain ⟨s37, hg, hf⟩ := hf
    have hj38 : zz K cX4_isFull (2, RX4, some .boolean, 0, 0, 0, some (.int r), μ) 0 0 23 [] [.int s37] μ := by
      replace hf := zb1_s hf
      obtain ⟨v39, hn40, hf⟩ := hf
      obtain ⟨hn40, rfl⟩ := zbz_s hn40
      cases hf
      exact zr_zret hn40 dX4_isFull_23
    clear hf
    have hf := hg
    clear hg
    refine zr_icmp_lt 22 dX4_isFull_15 (by decide) (fun hc => ?_) (fun hc => ?_)
    · rw [if_pos hc] at hf
      refine zr_iconst 0 dX4_isFull_22 (by decide) ?_
      cases hf
      exact zr_lv [] rfl hj38
    · rw [if_neg hc] at hf
      refine zr_iconst 1 dX4_isFull_18 (by decide) ?_
      refine zr_goto 23 dX4_isFull_19 (by decide) ?_
      cases hf
      exact zr_lv [] rfl hj38
theorem dX4_mark_0 : decode cX4_mark 0 = .ok (.aload_n 0, 1) := by decide +kernel
theorem dX4_mark_1 : decode cX4_mark 1 = .ok (.getfield 39, 3) := by decide +kernel
theorem dX4_mark_4 : decode cX4_mark 4 = .ok (.ifCond .ne 13, 3) := by decide +kernel
theorem dX4_mark_7 : decode cX4_mark 7 = .ok (.aload_n 0, 1) := by decide +kernel
theorem dX4_mark_8 : decode cX4_mark 8 = .ok (.iload_n 1, 1) := by decide +kernel
theorem dX4_mark_9 : decode cX4_mark 9 = .ok (.putfield 39, 3) := by decide +kernel
theorem dX4_mark_12 : decode cX4_mark 12 = .ok (.aload_n 0, 1) := by decide +kernel
theorem dX4_mark_13 : decode cX4_mark 13 = .ok (.iload_n 2, 1) := by decide +kernel
theorem dX4_mark_14 : decode cX4_mark 14 = .ok (.putfield 43, 3) := by decide +kernel
theorem dX4_mark_17 : decode cX4_mark 17 = .ok (.return_, 1) := by decide +kernel
def fX4_mark (μ : zM) (x0 : Nat) (x1 : Int32) (x2 : Int32) : Option (zM) := zgd (zm_ck μ 4 x0) <|
  zb1 (zm_gI μ 4 x0 4) fun v1 =>
  zb1 (if v1 = 0 then (
  zb1 (zm_p μ 4 x0 4 (.int x1)) fun m5 =>
  zb1 (zm_p m5 4 x0 5 (.int x2)) fun m7 =>
  some m7)
  else (
  some μ)) fun m3 =>
  some m3
theorem fX4_mark_ck {μ : zM} {x0 : Nat} {x1 : Int32} {x2 : Int32} {z : zM} (h : fX4_mark μ x0 x1 x2 = some z) : zm_ck μ 4 x0 = true := (zgd_s h).1
set_option maxHeartbeats 4000000 in
set_option maxRecDepth 100000 in
theorem cX4_mark_ok {μ : zM} {x0 : Nat} {x1 : Int32} {x2 : Int32} {mo : zM} (hf : fX4_mark μ x0 x1 x2 = some mo) : zC yX4_mark cX4_mark 3 (none) 0 0 0 [.ref x0, .int x1, .int x2] μ (none) mo := by
  replace hf := (zgd_s hf).2
  refine zC.of (by decide) (Nat.le_of_ble_eq_true rfl) (fun K hin => ?_)
  clear hin
  show zz K cX4_mark (3, RX4, none, 0, 0, 0, none, mo) 0 0 0 [(0, .ref x0), (1, .int x1), (2, .int x2)] [] μ
  refine zr_aload_n 0 dX4_mark_0 rfl ?_
  replace hf := zb1_s hf
  obtain ⟨v1, h2, hf⟩ := hf
  refine zr_get (zm_gI_g h2) zk4 (by decide) zl_267 dX4_mark_1 ?_
  replace hf := zb1_s hf
  obtain ⟨m3, hg, hf⟩ := hf
  have hj4 : zz K cX4_mark (3, RX4, none, 0, 0, 0, none, mo) 0 0 17 [] [] m3 := by
    cases hf
    exact zr_vret dX4_mark_17
  clear hf
  have hf := hg
  clear hg
  refine zr_if_ne 17 dX4_mark_4 (by decide) (fun hc => ?_) (fun hc => ?_)
  · rw [if_neg hc] at hf
    cases hf
    exact zr_lv [] rfl hj4
  · rw [if_pos hc] at hf
    refine zr_aload_n 0 dX4_mark_7 rfl ?_
    refine zr_iload_n 1 dX4_mark_8 rfl ?_
    replace hf := zb1_s hf
    obtain ⟨m5, h6, hf⟩ := hf
    refine zr_put h6 zk4 (by decide) zl_267 rfl rfl rfl dX4_mark_9 ?_
    refine zr_aload_n 0 dX4_mark_12 rfl ?_
    refine zr_iload_n 2 dX4_mark_13 rfl ?_
    replace hf := zb1_s hf
    obtain ⟨m7, h8, hf⟩ := hf
    refine zr_put h8 zk4 (by decide) zl_268 rfl rfl rfl dX4_mark_14 ?_
    cases hf
    exact zr_lv [] rfl hj4
theorem dX4_leastNumber_0 : decode cX4_leastNumber 0 = .ok (.iload_n 1, 1) := by decide +kernel
theorem dX4_leastNumber_1 : decode cX4_leastNumber 1 = .ok (.ifCond .ne 5, 3) := by decide +kernel
theorem dX4_leastNumber_4 : decode cX4_leastNumber 4 = .ok (.iconst 2, 1) := by decide +kernel
theorem dX4_leastNumber_5 : decode cX4_leastNumber 5 = .ok (.ireturn, 1) := by decide +kernel
theorem dX4_leastNumber_6 : decode cX4_leastNumber 6 = .ok (.iload_n 1, 1) := by decide +kernel
theorem dX4_leastNumber_7 : decode cX4_leastNumber 7 = .ok (.bipush 13, 2) := by decide +kernel
theorem dX4_leastNumber_9 : decode cX4_leastNumber 9 = .ok (.if_icmp .ne 5, 3) := by decide +kernel
theorem dX4_leastNumber_12 : decode cX4_leastNumber 12 = .ok (.iconst 1, 1) := by decide +kernel
theorem dX4_leastNumber_13 : decode cX4_leastNumber 13 = .ok (.ireturn, 1) := by decide +kernel
theorem dX4_leastNumber_14 : decode cX4_leastNumber 14 = .ok (.iload_n 1, 1) := by decide +kernel
theorem dX4_leastNumber_15 : decode cX4_leastNumber 15 = .ok (.bipush 7, 2) := by decide +kernel
theorem dX4_leastNumber_17 : decode cX4_leastNumber 17 = .ok (.if_icmp .eq 9, 3) := by decide +kernel
theorem dX4_leastNumber_20 : decode cX4_leastNumber 20 = .ok (.iload_n 1, 1) := by decide +kernel
theorem dX4_leastNumber_21 : decode cX4_leastNumber 21 = .ok (.bipush 8, 2) := by decide +kernel
theorem dX4_leastNumber_23 : decode cX4_leastNumber 23 = .ok (.if_icmp .ne 12, 3) := by decide +kernel
theorem dX4_leastNumber_26 : decode cX4_leastNumber 26 = .ok (.iload_n 2, 1) := by decide +kernel
theorem dX4_leastNumber_27 : decode cX4_leastNumber 27 = .ok (.iconst 1, 1) := by decide +kernel
theorem dX4_leastNumber_28 : decode cX4_leastNumber 28 = .ok (.if_icmp .ne 7, 3) := by decide +kernel
theorem dX4_leastNumber_31 : decode cX4_leastNumber 31 = .ok (.iconst 1, 1) := by decide +kernel
theorem dX4_leastNumber_32 : decode cX4_leastNumber 32 = .ok (.goto 4, 3) := by decide +kernel
theorem dX4_leastNumber_35 : decode cX4_leastNumber 35 = .ok (.iconst 0, 1) := by decide +kernel
theorem dX4_leastNumber_36 : decode cX4_leastNumber 36 = .ok (.istore_n 3, 1) := by decide +kernel
theorem dX4_leastNumber_37 : decode cX4_leastNumber 37 = .ok (.iload_n 3, 1) := by decide +kernel
theorem dX4_leastNumber_38 : decode cX4_leastNumber 38 = .ok (.ifCond .eq 12, 3) := by decide +kernel
theorem dX4_leastNumber_41 : decode cX4_leastNumber 41 = .ok (.aload_n 0, 1) := by decide +kernel
theorem dX4_leastNumber_42 : decode cX4_leastNumber 42 = .ok (.getfield 58, 3) := by decide +kernel
theorem dX4_leastNumber_45 : decode cX4_leastNumber 45 = .ok (.iconst 0, 1) := by decide +kernel
theorem dX4_leastNumber_46 : decode cX4_leastNumber 46 = .ok (.iaload, 1) := by decide +kernel
theorem dX4_leastNumber_47 : decode cX4_leastNumber 47 = .ok (.goto 4, 3) := by decide +kernel
theorem dX4_leastNumber_50 : decode cX4_leastNumber 50 = .ok (.iconst 0, 1) := by decide +kernel
theorem dX4_leastNumber_51 : decode cX4_leastNumber 51 = .ok (.ireturn, 1) := by decide +kernel
def fX4_leastNumber_b35  : Option (Int32) :=
  some 0
def fX4_leastNumber_b26 (x2 : Int32) : Option (Int32) :=
  if x2 = 1 then (
  some 1)
  else (
  fX4_leastNumber_b35)
def fX4_leastNumber (μ : zM) (x0 : Nat) (x1 : Int32) (x2 : Int32) : Option (Int32) := zgd (zm_ck μ 4 x0) <|
  if x1 = 0 then (
  some 2)
  else (
  if x1 = 13 then (
  some 1)
  else (
  zb1 (if x1 = 7 then (
  fX4_leastNumber_b26 x2)
  else (
  if x1 = 8 then (
  fX4_leastNumber_b26 x2)
  else (
  fX4_leastNumber_b35))) fun s1 =>
  zb1 (if s1 = 0 then (
  some 0)
  else (
  zb1 (zm_gR μ 4 x0 11) fun v7 =>
  zb1 (zm_aI μ 0 v7 0) fun v9 =>
  some v9)) fun s5 =>
  some s5))
theorem fX4_leastNumber_ck {μ : zM} {x0 : Nat} {x1 : Int32} {x2 : Int32} {z : Int32} (h : fX4_leastNumber μ x0 x1 x2 = some z) : zm_ck μ 4 x0 = true := (zgd_s h).1
set_option maxHeartbeats 4000000 in
set_option maxRecDepth 100000 in
theorem cX4_leastNumber_ok {μ : zM} {x0 : Nat} {x1 : Int32} {x2 : Int32} {r : Int32} (hf : fX4_leastNumber μ x0 x1 x2 = some r) : zC yX4_leastNumber cX4_leastNumber 4 (some .int) 0 0 0 [.ref x0, .int x1, .int x2] μ (some (.int r)) μ := by
  replace hf := (zgd_s hf).2
  refine zC.of (by decide) (Nat.le_of_ble_eq_true rfl) (fun K hin => ?_)
  clear hin
  show zz K cX4_leastNumber (4, RX4, some .int, 0, 0, 0, some (.int r), μ) 0 0 0 [(0, .ref x0), (1, .int x1), (2, .int x2)] [] μ
  refine zr_iload_n 1 dX4_leastNumber_0 rfl ?_
  refine zr_if_ne 6 dX4_leastNumber_1 (by decide) (fun hc => ?_) (fun hc => ?_)
  · rw [if_neg hc] at hf
    refine zr_iload_n 1 dX4_leastNumber_6 rfl ?_
    refine zr_bipush 13 dX4_leastNumber_7 (by decide) ?_
    refine zr_icmp_ne 14 dX4_leastNumber_9 (by decide) (fun hc => ?_) (fun hc => ?_)
    · rw [if_neg hc] at hf
      refine zr_iload_n 1 dX4_leastNumber_14 rfl ?_
      refine zr_bipush 7 dX4_leastNumber_15 (by decide) ?_
      replace hf := zb1_s hf
      obtain ⟨s1, hg, hf⟩ := hf
      have hj2 : zz K cX4_leastNumber (4, RX4, some .int, 0, 0, 0, some (.int r), μ) 0 0 36 [(0, .ref x0)] [.int s1] μ := by
        refine zr_istore_n [(3, .int s1), (0, .ref x0)] dX4_leastNumber_36 (Nat.le_of_ble_eq_true rfl) rfl ?_
        refine zr_iload_n 0 dX4_leastNumber_37 rfl ?_
        replace hf := zb1_s hf
        obtain ⟨s5, hg, hf⟩ := hf
        have hj6 : zz K cX4_leastNumber (4, RX4, some .int, 0, 0, 0, some (.int r), μ) 0 0 51 [] [.int s5] μ := by
          cases hf
          exact zr_iret dX4_leastNumber_51
        clear hf
        have hf := hg
        clear hg
        refine zr_if_eq 50 dX4_leastNumber_38 (by decide) (fun hc => ?_) (fun hc => ?_)
        · rw [if_pos hc] at hf
          refine zr_iconst 0 dX4_leastNumber_50 (by decide) ?_
          cases hf
          exact zr_lv [] rfl hj6
        · rw [if_neg hc] at hf
          refine zr_aload_n 1 dX4_leastNumber_41 rfl ?_
          replace hf := zb1_s hf
          obtain ⟨v7, h8, hf⟩ := hf
          refine zr_get (zm_gR_g h8) zk4 (by decide) zl_273 dX4_leastNumber_42 ?_
          refine zr_iconst 0 dX4_leastNumber_45 (by decide) ?_
          replace hf := zb1_s hf
          obtain ⟨v9, h10, hf⟩ := hf
          refine zr_iald h10 dX4_leastNumber_46 ?_
          refine zr_goto 51 dX4_leastNumber_47 (by decide) ?_
          cases hf
          exact zr_lv [] rfl hj6
      clear hf
      have hf := hg
      clear hg
      have hb3 : ∀ (_ : Unit), fX4_leastNumber_b35 = some s1 → zz K cX4_leastNumber (4, RX4, some .int, 0, 0, 0, some (.int r), μ) 0 0 35 [(0, .ref x0)] [] μ := by
        intro _ hf
        unfold fX4_leastNumber_b35 at hf
        refine zr_iconst 0 dX4_leastNumber_35 (by decide) ?_
        cases hf
        exact zr_lv [0] rfl hj2
      have hb4 : ∀ (_ : Unit), fX4_leastNumber_b26 x2 = some s1 → zz K cX4_leastNumber (4, RX4, some .int, 0, 0, 0, some (.int r), μ) 0 0 26 [(0, .ref x0), (2, .int x2)] [] μ := by
        intro _ hf
        unfold fX4_leastNumber_b26 at hf
        refine zr_iload_n 1 dX4_leastNumber_26 rfl ?_
        refine zr_iconst 1 dX4_leastNumber_27 (by decide) ?_
        refine zr_icmp_ne 35 dX4_leastNumber_28 (by decide) (fun hc => ?_) (fun hc => ?_)
        · rw [if_neg hc] at hf
          exact zr_lv [0] rfl (hb3 () hf)
        · rw [if_pos hc] at hf
          refine zr_iconst 1 dX4_leastNumber_31 (by decide) ?_
          refine zr_goto 36 dX4_leastNumber_32 (by decide) ?_
          cases hf
          exact zr_lv [0] rfl hj2
      refine zr_icmp_eq 26 dX4_leastNumber_17 (by decide) (fun hc => ?_) (fun hc => ?_)
      · rw [if_pos hc] at hf
        exact zr_lv [0, 2] rfl (hb4 () hf)
      · rw [if_neg hc] at hf
        refine zr_iload_n 1 dX4_leastNumber_20 rfl ?_
        refine zr_bipush 8 dX4_leastNumber_21 (by decide) ?_
        refine zr_icmp_ne 35 dX4_leastNumber_23 (by decide) (fun hc => ?_) (fun hc => ?_)
        · rw [if_neg hc] at hf
          exact zr_lv [0] rfl (hb3 () hf)
        · rw [if_pos hc] at hf
          exact zr_lv [0, 2] rfl (hb4 () hf)
    · rw [if_pos hc] at hf
      refine zr_iconst 1 dX4_leastNumber_12 (by decide) ?_
      cases hf
      exact zr_iret dX4_leastNumber_13
  · rw [if_pos hc] at hf
    refine zr_iconst 2 dX4_leastNumber_4 (by decide) ?_
    cases hf
    exact zr_iret dX4_leastNumber_5
theorem zl_310 : Cond.code yX4_isFull cX4_isFull 2 (some .boolean) ∈ zt := zt_at 670 (by decide +kernel)
theorem zvs_X4_isFull : zvS yX4_isFull cX4_isFull 2 (some .boolean) 1 := ⟨zl_310, zl_296, ⟨by decide +kernel, by decide +kernel, by decide +kernel⟩, by decide⟩
theorem zl_311 : Cond.methodLink RX4 119 yX4_isFull ∈ zt := zt_at 667 (by decide +kernel)
theorem zl_312 : Cond.instanceMethod yX4_isFull ∈ zt := zt_at 669 (by decide +kernel)
theorem zl_313 : Cond.selects RX4 yX4_isFull yX4_isFull ∈ zt := zt_at 8 (by decide +kernel)
theorem zl_314 : Cond.fieldLink RX4 106 "TwoEchoes$Reader" "NUMBERS" "[I" ∈ zt := zt_at 657 (by decide +kernel)
theorem zl_315 : Cond.code yX4_leastNumber cX4_leastNumber 4 (some .int) ∈ zt := zt_at 678 (by decide +kernel)
theorem zvs_X4_leastNumber : zvS yX4_leastNumber cX4_leastNumber 4 (some .int) 2 := ⟨zl_315, zl_296, ⟨by decide +kernel, by decide +kernel, by decide +kernel⟩, by decide⟩
theorem zl_316 : Cond.methodLink RX4 123 yX4_leastNumber ∈ zt := zt_at 675 (by decide +kernel)
theorem zl_317 : Cond.instanceMethod yX4_leastNumber ∈ zt := zt_at 677 (by decide +kernel)
theorem zl_318 : Cond.selects RX4 yX4_leastNumber yX4_leastNumber ∈ zt := zt_at 10 (by decide +kernel)
theorem zl_319 : Cond.code yX4_mark cX4_mark 3 (none) ∈ zt := zt_at 674 (by decide +kernel)
theorem zvs_X4_mark : zvS yX4_mark cX4_mark 3 (none) 2 := ⟨zl_319, zl_296, ⟨by decide +kernel, by decide +kernel, by decide +kernel⟩, by decide⟩
theorem zl_320 : Cond.methodLink RX4 89 yX4_mark ∈ zt := zt_at 671 (by decide +kernel)
theorem zl_321 : Cond.instanceMethod yX4_mark ∈ zt := zt_at 673 (by decide +kernel)
theorem zl_322 : Cond.selects RX4 yX4_mark yX4_mark ∈ zt := zt_at 9 (by decide +kernel)
theorem zl_323 : Cond.fieldLink RX4 126 "TwoEchoes$Reader" "GREATEST" "[I" ∈ zt := zt_at 679 (by decide +kernel)
theorem dX4_check_0 : decode cX4_check 0 = .ok (.aload_n 0, 1) := by decide +kernel
theorem dX4_check_1 : decode cX4_check 1 = .ok (.iload_n 1, 1) := by decide +kernel
theorem dX4_check_2 : decode cX4_check 2 = .ok (.invokevirtual 119, 3) := by decide +kernel
theorem dX4_check_5 : decode cX4_check 5 = .ok (.ifCond .eq 9, 3) := by decide +kernel
theorem dX4_check_8 : decode cX4_check 8 = .ok (.aload_n 0, 1) := by decide +kernel
theorem dX4_check_9 : decode cX4_check 9 = .ok (.iconst 3, 1) := by decide +kernel
theorem dX4_check_10 : decode cX4_check 10 = .ok (.iload_n 2, 1) := by decide +kernel
theorem dX4_check_11 : decode cX4_check 11 = .ok (.invokevirtual 89, 3) := by decide +kernel
theorem dX4_check_14 : decode cX4_check 14 = .ok (.iconst 0, 1) := by decide +kernel
theorem dX4_check_15 : decode cX4_check 15 = .ok (.istore_n 3, 1) := by decide +kernel
theorem dX4_check_16 : decode cX4_check 16 = .ok (.iload_n 3, 1) := by decide +kernel
theorem dX4_check_17 : decode cX4_check 17 = .ok (.getstatic 106, 3) := by decide +kernel
theorem dX4_check_20 : decode cX4_check 20 = .ok (.iload_n 1, 1) := by decide +kernel
theorem dX4_check_21 : decode cX4_check 21 = .ok (.iaload, 1) := by decide +kernel
theorem dX4_check_22 : decode cX4_check 22 = .ok (.if_icmp .ge 53, 3) := by decide +kernel
theorem dX4_check_25 : decode cX4_check 25 = .ok (.aload_n 0, 1) := by decide +kernel
theorem dX4_check_26 : decode cX4_check 26 = .ok (.getfield 58, 3) := by decide +kernel
theorem dX4_check_29 : decode cX4_check 29 = .ok (.iload_n 3, 1) := by decide +kernel
theorem dX4_check_30 : decode cX4_check 30 = .ok (.iaload, 1) := by decide +kernel
theorem dX4_check_31 : decode cX4_check 31 = .ok (.aload_n 0, 1) := by decide +kernel
theorem dX4_check_32 : decode cX4_check 32 = .ok (.iload_n 1, 1) := by decide +kernel
theorem dX4_check_33 : decode cX4_check 33 = .ok (.iload_n 3, 1) := by decide +kernel
theorem dX4_check_34 : decode cX4_check 34 = .ok (.invokevirtual 123, 3) := by decide +kernel
theorem dX4_check_37 : decode cX4_check 37 = .ok (.if_icmp .lt 21, 3) := by decide +kernel
theorem dX4_check_40 : decode cX4_check 40 = .ok (.aload_n 0, 1) := by decide +kernel
theorem dX4_check_41 : decode cX4_check 41 = .ok (.getfield 58, 3) := by decide +kernel
theorem dX4_check_44 : decode cX4_check 44 = .ok (.iload_n 3, 1) := by decide +kernel
theorem dX4_check_45 : decode cX4_check 45 = .ok (.iaload, 1) := by decide +kernel
theorem dX4_check_46 : decode cX4_check 46 = .ok (.getstatic 126, 3) := by decide +kernel
theorem dX4_check_49 : decode cX4_check 49 = .ok (.iconst 3, 1) := by decide +kernel
theorem dX4_check_50 : decode cX4_check 50 = .ok (.iload_n 1, 1) := by decide +kernel
theorem dX4_check_51 : decode cX4_check 51 = .ok (.imul, 1) := by decide +kernel
theorem dX4_check_52 : decode cX4_check 52 = .ok (.iload_n 3, 1) := by decide +kernel
theorem dX4_check_53 : decode cX4_check 53 = .ok (.iadd, 1) := by decide +kernel
theorem dX4_check_54 : decode cX4_check 54 = .ok (.iaload, 1) := by decide +kernel
theorem dX4_check_55 : decode cX4_check 55 = .ok (.if_icmp .le 14, 3) := by decide +kernel
theorem dX4_check_58 : decode cX4_check 58 = .ok (.aload_n 0, 1) := by decide +kernel
theorem dX4_check_59 : decode cX4_check 59 = .ok (.iconst 2, 1) := by decide +kernel
theorem dX4_check_60 : decode cX4_check 60 = .ok (.aload_n 0, 1) := by decide +kernel
theorem dX4_check_61 : decode cX4_check 61 = .ok (.getfield 62, 3) := by decide +kernel
theorem dX4_check_64 : decode cX4_check 64 = .ok (.iload_n 3, 1) := by decide +kernel
theorem dX4_check_65 : decode cX4_check 65 = .ok (.iaload, 1) := by decide +kernel
theorem dX4_check_66 : decode cX4_check 66 = .ok (.invokevirtual 89, 3) := by decide +kernel
theorem dX4_check_69 : decode cX4_check 69 = .ok (.iinc 3 1, 3) := by decide +kernel
theorem dX4_check_72 : decode cX4_check 72 = .ok (.goto (-56), 3) := by decide +kernel
theorem dX4_check_75 : decode cX4_check 75 = .ok (.return_, 1) := by decide +kernel
def fX4_check_b58x (m6 : zM) (x0 : Nat) (x3_5 : Int32) : Option (zM) :=
  zb1 (zm_gR m6 4 x0 12) fun v21 =>
  zb1 (zm_aI m6 0 v21 x3_5) fun v23 =>
  zb1 (fX4_mark m6 x0 2 v23) fun m26 =>
  some m26
def fX4_check_l16 (x1 : Int32) (x0 : Nat) (F7 : Int32 → zM → Option (zM)) (x3_5 : Int32) (m6 : zM) : Option (zM) :=
  zb1 (zm_aI m6 0 (m6.2.2 4) x1) fun v11 =>
  if v11 ≤ x3_5 then (
  some m6)
  else (
  zb1 (zm_gR m6 4 x0 11) fun v13 =>
  zb1 (zm_aI m6 0 v13 x3_5) fun v15 =>
  zb1 (fX4_leastNumber m6 x0 x1 x3_5) fun v18 =>
  zb1 (if v15 < v18 then (
  fX4_check_b58x m6 x0 x3_5)
  else (
  zb1 (zm_gR m6 4 x0 11) fun v28 =>
  zb1 (zm_aI m6 0 v28 x3_5) fun v30 =>
  zb1 (zm_aI m6 0 (m6.2.2 3) ((3 * x1) + x3_5)) fun v32 =>
  if v30 ≤ v32 then (
  some m6)
  else (
  fX4_check_b58x m6 x0 x3_5))) fun m19 =>
  F7 (x3_5 + 1) m19)
def fX4_check (μ : zM) (x0 : Nat) (x1 : Int32) (x2 : Int32) : Option (zM) := zgd (zm_ck μ 4 x0) <|
  zb1 (fX4_isFull μ x0 x1) fun v2 =>
  zb1 (if v2 = 0 then (
  some μ)
  else (
  zb1 (fX4_mark μ x0 3 x2) fun m36 =>
  some m36)) fun m3 =>
  zb1 (zf2 (fX4_check_l16 x1 x0) zfu 0 m3) fun m9 =>
  some m9
theorem fX4_check_ck {μ : zM} {x0 : Nat} {x1 : Int32} {x2 : Int32} {z : zM} (h : fX4_check μ x0 x1 x2 = some z) : zm_ck μ 4 x0 = true := (zgd_s h).1
set_option maxHeartbeats 4000000 in
set_option maxRecDepth 100000 in
theorem cX4_check_ok {μ : zM} {x0 : Nat} {x1 : Int32} {x2 : Int32} {mo : zM} (hf : fX4_check μ x0 x1 x2 = some mo) : zC yX4_check cX4_check 4 (none) 1 0 0 [.ref x0, .int x1, .int x2] μ (none) mo := by
  replace hf := (zgd_s hf).2
  refine zC.of (by decide) (Nat.le_of_ble_eq_true rfl) (fun K hin => ?_)
  clear hin
  show zz K cX4_check (4, RX4, none, 1, 0, 0, none, mo) 0 0 0 [(0, .ref x0), (1, .int x1), (2, .int x2)] [] μ
  refine zr_aload_n 0 dX4_check_0 rfl ?_
  refine zr_iload_n 1 dX4_check_1 rfl ?_
  replace hf := zb1_s hf
  obtain ⟨v2, h1, hf⟩ := hf
  refine zr_callV (ci := 4) [.int x1] (cX4_isFull_ok h1) zvs_X4_isFull zl_312 zl_313 (fX4_isFull_ck h1) rfl rfl zl_311 rfl (Nat.le_of_ble_eq_true rfl) (Nat.le_of_ble_eq_true rfl) (Nat.le_of_ble_eq_true rfl) (Nat.le_of_ble_eq_true rfl) dX4_check_2 rfl ?_
  replace hf := zb1_s hf
  obtain ⟨m3, hg, hf⟩ := hf
  have hj4 : zz K cX4_check (4, RX4, none, 1, 0, 0, none, mo) 0 0 14 [(0, .ref x0), (1, .int x1)] [] m3 := by
    refine zr_iconst 0 dX4_check_14 (by decide) ?_
    refine zr_istore_n [(3, .int 0), (0, .ref x0), (1, .int x1)] dX4_check_15 (Nat.le_of_ble_eq_true rfl) rfl ?_
    replace hf := zb1_s hf
    obtain ⟨m9, hg, hf⟩ := hf
    have hj10 : zz K cX4_check (4, RX4, none, 1, 0, 0, none, mo) 0 0 75 [] [] m9 := by
      cases hf
      exact zr_vret dX4_check_75
    clear hf
    have hf := hg
    clear hg
    have hL34 : ∀ (n : Nat) (x3_5 : Int32) (m6 : zM), zf2 (fX4_check_l16 x1 x0) n x3_5 m6 = some m9 → zz K cX4_check (4, RX4, none, 1, 0, 0, none, mo) 0 0 16 [(0, .ref x0), (1, .int x1), (3, .int x3_5)] [] m6 := by
      intro n
      induction n with
      | zero => intro x3_5 m6 hf; cases hf
      | succ n ih8 =>
        intro x3_5 m6 hf
        replace hf := zf2_s hf
        generalize zf2 (fX4_check_l16 x1 x0) n = F7 at hf ih8
        unfold fX4_check_l16 at hf
        refine zr_iload_n 2 dX4_check_16 rfl ?_
        refine zr_gets (k := 4) (by decide) zl_314 dX4_check_17 ?_
        refine zr_iload_n 1 dX4_check_20 rfl ?_
        replace hf := zb1_s hf
        obtain ⟨v11, h12, hf⟩ := hf
        refine zr_iald h12 dX4_check_21 ?_
        refine zr_icmp_ge 75 dX4_check_22 (by decide) (fun hc => ?_) (fun hc => ?_)
        · rw [if_pos hc] at hf
          cases hf
          exact zr_lv [] rfl hj10
        · rw [if_neg hc] at hf
          refine zr_aload_n 0 dX4_check_25 rfl ?_
          replace hf := zb1_s hf
          obtain ⟨v13, h14, hf⟩ := hf
          refine zr_get (zm_gR_g h14) zk4 (by decide) zl_273 dX4_check_26 ?_
          refine zr_iload_n 2 dX4_check_29 rfl ?_
          replace hf := zb1_s hf
          obtain ⟨v15, h16, hf⟩ := hf
          refine zr_iald h16 dX4_check_30 ?_
          refine zr_aload_n 0 dX4_check_31 rfl ?_
          refine zr_iload_n 1 dX4_check_32 rfl ?_
          refine zr_iload_n 2 dX4_check_33 rfl ?_
          replace hf := zb1_s hf
          obtain ⟨v18, h17, hf⟩ := hf
          refine zr_callV (ci := 4) [.int x1, .int x3_5] (cX4_leastNumber_ok h17) zvs_X4_leastNumber zl_317 zl_318 (fX4_leastNumber_ck h17) rfl rfl zl_316 rfl (Nat.le_of_ble_eq_true rfl) (Nat.le_of_ble_eq_true rfl) (Nat.le_of_ble_eq_true rfl) (Nat.le_of_ble_eq_true rfl) dX4_check_34 rfl ?_
          replace hf := zb1_s hf
          obtain ⟨m19, hg, hf⟩ := hf
          have hj20 : zz K cX4_check (4, RX4, none, 1, 0, 0, none, mo) 0 0 69 [(0, .ref x0), (1, .int x1), (3, .int x3_5)] [] m19 := by
            refine zr_iinc (j := 2) (x3_5 + 1) [(3, .int (x3_5 + 1)), (0, .ref x0), (1, .int x1)] dX4_check_69 rfl rfl (Nat.le_of_ble_eq_true rfl) rfl ?_
            refine zr_goto 16 dX4_check_72 (by decide) ?_
            exact zr_lv [1, 2, 0] rfl (ih8 (x3_5 + 1) m19 hf)
          clear hf
          have hf := hg
          clear hg
          have hb27 : ∀ (_ : Unit), fX4_check_b58x m6 x0 x3_5 = some m19 → zz K cX4_check (4, RX4, none, 1, 0, 0, none, mo) 0 0 58 [(0, .ref x0), (1, .int x1), (3, .int x3_5)] [] m6 := by
            intro _ hf
            unfold fX4_check_b58x at hf
            refine zr_aload_n 0 dX4_check_58 rfl ?_
            refine zr_iconst 2 dX4_check_59 (by decide) ?_
            refine zr_aload_n 0 dX4_check_60 rfl ?_
            replace hf := zb1_s hf
            obtain ⟨v21, h22, hf⟩ := hf
            refine zr_get (zm_gR_g h22) zk4 (by decide) zl_274 dX4_check_61 ?_
            refine zr_iload_n 2 dX4_check_64 rfl ?_
            replace hf := zb1_s hf
            obtain ⟨v23, h24, hf⟩ := hf
            refine zr_iald h24 dX4_check_65 ?_
            replace hf := zb1_s hf
            obtain ⟨m26, h25, hf⟩ := hf
            refine zr_callV (ci := 4) [.int 2, .int v23] (cX4_mark_ok h25) zvs_X4_mark zl_321 zl_322 (fX4_mark_ck h25) rfl rfl zl_320 rfl (Nat.le_of_ble_eq_true rfl) (Nat.le_of_ble_eq_true rfl) (Nat.le_of_ble_eq_true rfl) (Nat.le_of_ble_eq_true rfl) dX4_check_66 rfl ?_
            cases hf
            exact zr_lv [0, 1, 2] rfl hj20
          refine zr_icmp_lt 58 dX4_check_37 (by decide) (fun hc => ?_) (fun hc => ?_)
          · rw [if_pos hc] at hf
            exact zr_lv [0, 1, 2] rfl (hb27 () hf)
          · rw [if_neg hc] at hf
            refine zr_aload_n 0 dX4_check_40 rfl ?_
            replace hf := zb1_s hf
            obtain ⟨v28, h29, hf⟩ := hf
            refine zr_get (zm_gR_g h29) zk4 (by decide) zl_273 dX4_check_41 ?_
            refine zr_iload_n 2 dX4_check_44 rfl ?_
            replace hf := zb1_s hf
            obtain ⟨v30, h31, hf⟩ := hf
            refine zr_iald h31 dX4_check_45 ?_
            refine zr_gets (k := 3) (by decide) zl_323 dX4_check_46 ?_
            refine zr_iconst 3 dX4_check_49 (by decide) ?_
            refine zr_iload_n 1 dX4_check_50 rfl ?_
            refine zr_imul dX4_check_51 ?_
            refine zr_iload_n 2 dX4_check_52 rfl ?_
            refine zr_iadd dX4_check_53 ?_
            replace hf := zb1_s hf
            obtain ⟨v32, h33, hf⟩ := hf
            refine zr_iald h33 dX4_check_54 ?_
            refine zr_icmp_le 69 dX4_check_55 (by decide) (fun hc => ?_) (fun hc => ?_)
            · rw [if_pos hc] at hf
              cases hf
              exact zr_lv [0, 1, 2] rfl hj20
            · rw [if_neg hc] at hf
              exact zr_lv [0, 1, 2] rfl (hb27 () hf)
    exact zr_lv [1, 2, 0] rfl (hL34 _ 0 m3 hf)
  clear hf
  have hf := hg
  clear hg
  refine zr_if_eq 14 dX4_check_5 (by decide) (fun hc => ?_) (fun hc => ?_)
  · rw [if_pos hc] at hf
    cases hf
    exact zr_lv [0, 1] rfl hj4
  · rw [if_neg hc] at hf
    refine zr_aload_n 0 dX4_check_8 rfl ?_
    refine zr_iconst 3 dX4_check_9 (by decide) ?_
    refine zr_iload_n 2 dX4_check_10 rfl ?_
    replace hf := zb1_s hf
    obtain ⟨m36, h35, hf⟩ := hf
    refine zr_callV (ci := 4) [.int 3, .int x2] (cX4_mark_ok h35) zvs_X4_mark zl_321 zl_322 (fX4_mark_ck h35) rfl rfl zl_320 rfl (Nat.le_of_ble_eq_true rfl) (Nat.le_of_ble_eq_true rfl) (Nat.le_of_ble_eq_true rfl) (Nat.le_of_ble_eq_true rfl) dX4_check_11 rfl ?_
    cases hf
    exact zr_lv [0, 1] rfl hj4
theorem dX6_add_0 : decode cX6_add 0 = .ok (.aload_n 0, 1) := by decide +kernel
theorem dX6_add_1 : decode cX6_add 1 = .ok (.getfield 24, 3) := by decide +kernel
theorem dX6_add_4 : decode cX6_add 4 = .ok (.bipush 8, 2) := by decide +kernel
theorem dX6_add_6 : decode cX6_add 6 = .ok (.if_icmp .lt 4, 3) := by decide +kernel
theorem dX6_add_9 : decode cX6_add 9 = .ok (.return_, 1) := by decide +kernel
theorem dX6_add_10 : decode cX6_add 10 = .ok (.aload_n 0, 1) := by decide +kernel
theorem dX6_add_11 : decode cX6_add 11 = .ok (.getfield 9, 3) := by decide +kernel
theorem dX6_add_14 : decode cX6_add 14 = .ok (.aload_n 0, 1) := by decide +kernel
theorem dX6_add_15 : decode cX6_add 15 = .ok (.getfield 24, 3) := by decide +kernel
theorem dX6_add_18 : decode cX6_add 18 = .ok (.iload_n 1, 1) := by decide +kernel
theorem dX6_add_19 : decode cX6_add 19 = .ok (.iastore, 1) := by decide +kernel
theorem dX6_add_20 : decode cX6_add 20 = .ok (.aload_n 0, 1) := by decide +kernel
theorem dX6_add_21 : decode cX6_add 21 = .ok (.getfield 15, 3) := by decide +kernel
theorem dX6_add_24 : decode cX6_add 24 = .ok (.aload_n 0, 1) := by decide +kernel
theorem dX6_add_25 : decode cX6_add 25 = .ok (.getfield 24, 3) := by decide +kernel
theorem dX6_add_28 : decode cX6_add 28 = .ok (.iload_n 2, 1) := by decide +kernel
theorem dX6_add_29 : decode cX6_add 29 = .ok (.iastore, 1) := by decide +kernel
theorem dX6_add_30 : decode cX6_add 30 = .ok (.aload_n 0, 1) := by decide +kernel
theorem dX6_add_31 : decode cX6_add 31 = .ok (.getfield 18, 3) := by decide +kernel
theorem dX6_add_34 : decode cX6_add 34 = .ok (.aload_n 0, 1) := by decide +kernel
theorem dX6_add_35 : decode cX6_add 35 = .ok (.getfield 24, 3) := by decide +kernel
theorem dX6_add_38 : decode cX6_add 38 = .ok (.iload_n 3, 1) := by decide +kernel
theorem dX6_add_39 : decode cX6_add 39 = .ok (.iastore, 1) := by decide +kernel
theorem dX6_add_40 : decode cX6_add 40 = .ok (.aload_n 0, 1) := by decide +kernel
theorem dX6_add_41 : decode cX6_add 41 = .ok (.getfield 21, 3) := by decide +kernel
theorem dX6_add_44 : decode cX6_add 44 = .ok (.aload_n 0, 1) := by decide +kernel
theorem dX6_add_45 : decode cX6_add 45 = .ok (.getfield 24, 3) := by decide +kernel
theorem dX6_add_48 : decode cX6_add 48 = .ok (.iload 4, 2) := by decide +kernel
theorem dX6_add_50 : decode cX6_add 50 = .ok (.iastore, 1) := by decide +kernel
theorem dX6_add_51 : decode cX6_add 51 = .ok (.aload_n 0, 1) := by decide +kernel
theorem dX6_add_52 : decode cX6_add 52 = .ok (.dup, 1) := by decide +kernel
theorem dX6_add_53 : decode cX6_add 53 = .ok (.getfield 24, 3) := by decide +kernel
theorem dX6_add_56 : decode cX6_add 56 = .ok (.iconst 1, 1) := by decide +kernel
theorem dX6_add_57 : decode cX6_add 57 = .ok (.iadd, 1) := by decide +kernel
theorem dX6_add_58 : decode cX6_add 58 = .ok (.putfield 24, 3) := by decide +kernel
theorem dX6_add_61 : decode cX6_add 61 = .ok (.return_, 1) := by decide +kernel
def fX6_add (μ : zM) (x0 : Nat) (x1 : Int32) (x2 : Int32) (x3 : Int32) (x4 : Int32) : Option (zM) := zgd (zm_ck μ 6 x0) <|
  zb1 (zm_gI μ 6 x0 0) fun v1 =>
  if v1 < 8 then (
  zb1 (zm_gR μ 6 x0 1) fun v3 =>
  zb1 (zm_gI μ 6 x0 0) fun v5 =>
  zb1 (zm_sI μ 0 v3 v5 x1) fun m7 =>
  zb1 (zm_gR m7 6 x0 2) fun v9 =>
  zb1 (zm_gI m7 6 x0 0) fun v11 =>
  zb1 (zm_sI m7 0 v9 v11 x2) fun m13 =>
  zb1 (zm_gR m13 6 x0 3) fun v15 =>
  zb1 (zm_gI m13 6 x0 0) fun v17 =>
  zb1 (zm_sI m13 0 v15 v17 x3) fun m19 =>
  zb1 (zm_gR m19 6 x0 4) fun v21 =>
  zb1 (zm_gI m19 6 x0 0) fun v23 =>
  zb1 (zm_sI m19 0 v21 v23 x4) fun m25 =>
  zb1 (zm_gI m25 6 x0 0) fun v27 =>
  zb1 (zm_p m25 6 x0 0 (.int (v27 + 1))) fun m29 =>
  some m29)
  else (
  some μ)
theorem fX6_add_ck {μ : zM} {x0 : Nat} {x1 : Int32} {x2 : Int32} {x3 : Int32} {x4 : Int32} {z : zM} (h : fX6_add μ x0 x1 x2 x3 x4 = some z) : zm_ck μ 6 x0 = true := (zgd_s h).1
set_option maxHeartbeats 4000000 in
set_option maxRecDepth 100000 in
theorem cX6_add_ok {μ : zM} {x0 : Nat} {x1 : Int32} {x2 : Int32} {x3 : Int32} {x4 : Int32} {mo : zM} (hf : fX6_add μ x0 x1 x2 x3 x4 = some mo) : zC yX6_add cX6_add 5 (none) 0 0 0 [.ref x0, .int x1, .int x2, .int x3, .int x4] μ (none) mo := by
  replace hf := (zgd_s hf).2
  refine zC.of (by decide) (Nat.le_of_ble_eq_true rfl) (fun K hin => ?_)
  clear hin
  show zz K cX6_add (5, RX6, none, 0, 0, 0, none, mo) 0 0 0 [(0, .ref x0), (1, .int x1), (2, .int x2), (3, .int x3), (4, .int x4)] [] μ
  refine zr_aload_n 0 dX6_add_0 rfl ?_
  replace hf := zb1_s hf
  obtain ⟨v1, h2, hf⟩ := hf
  refine zr_get (zm_gI_g h2) zk6 (by decide) zl_278 dX6_add_1 ?_
  refine zr_bipush 8 dX6_add_4 (by decide) ?_
  refine zr_icmp_lt 10 dX6_add_6 (by decide) (fun hc => ?_) (fun hc => ?_)
  · rw [if_pos hc] at hf
    refine zr_aload_n 0 dX6_add_10 rfl ?_
    replace hf := zb1_s hf
    obtain ⟨v3, h4, hf⟩ := hf
    refine zr_get (zm_gR_g h4) zk6 (by decide) zl_236 dX6_add_11 ?_
    refine zr_aload_n 0 dX6_add_14 rfl ?_
    replace hf := zb1_s hf
    obtain ⟨v5, h6, hf⟩ := hf
    refine zr_get (zm_gI_g h6) zk6 (by decide) zl_278 dX6_add_15 ?_
    refine zr_iload_n 1 dX6_add_18 rfl ?_
    replace hf := zb1_s hf
    obtain ⟨m7, h8, hf⟩ := hf
    refine zr_iast h8 dX6_add_19 ?_
    refine zr_aload_n 0 dX6_add_20 rfl ?_
    replace hf := zb1_s hf
    obtain ⟨v9, h10, hf⟩ := hf
    refine zr_get (zm_gR_g h10) zk6 (by decide) zl_237 dX6_add_21 ?_
    refine zr_aload_n 0 dX6_add_24 rfl ?_
    replace hf := zb1_s hf
    obtain ⟨v11, h12, hf⟩ := hf
    refine zr_get (zm_gI_g h12) zk6 (by decide) zl_278 dX6_add_25 ?_
    refine zr_iload_n 2 dX6_add_28 rfl ?_
    replace hf := zb1_s hf
    obtain ⟨m13, h14, hf⟩ := hf
    refine zr_iast h14 dX6_add_29 ?_
    refine zr_aload_n 0 dX6_add_30 rfl ?_
    replace hf := zb1_s hf
    obtain ⟨v15, h16, hf⟩ := hf
    refine zr_get (zm_gR_g h16) zk6 (by decide) zl_238 dX6_add_31 ?_
    refine zr_aload_n 0 dX6_add_34 rfl ?_
    replace hf := zb1_s hf
    obtain ⟨v17, h18, hf⟩ := hf
    refine zr_get (zm_gI_g h18) zk6 (by decide) zl_278 dX6_add_35 ?_
    refine zr_iload_n 3 dX6_add_38 rfl ?_
    replace hf := zb1_s hf
    obtain ⟨m19, h20, hf⟩ := hf
    refine zr_iast h20 dX6_add_39 ?_
    refine zr_aload_n 0 dX6_add_40 rfl ?_
    replace hf := zb1_s hf
    obtain ⟨v21, h22, hf⟩ := hf
    refine zr_get (zm_gR_g h22) zk6 (by decide) zl_239 dX6_add_41 ?_
    refine zr_aload_n 0 dX6_add_44 rfl ?_
    replace hf := zb1_s hf
    obtain ⟨v23, h24, hf⟩ := hf
    refine zr_get (zm_gI_g h24) zk6 (by decide) zl_278 dX6_add_45 ?_
    refine zr_iload 4 dX6_add_48 rfl ?_
    replace hf := zb1_s hf
    obtain ⟨m25, h26, hf⟩ := hf
    refine zr_iast h26 dX6_add_50 ?_
    refine zr_aload_n 0 dX6_add_51 rfl ?_
    refine zr_dup dX6_add_52 rfl ?_
    replace hf := zb1_s hf
    obtain ⟨v27, h28, hf⟩ := hf
    refine zr_get (zm_gI_g h28) zk6 (by decide) zl_278 dX6_add_53 ?_
    refine zr_iconst 1 dX6_add_56 (by decide) ?_
    refine zr_iadd dX6_add_57 ?_
    replace hf := zb1_s hf
    obtain ⟨m29, h30, hf⟩ := hf
    refine zr_put h30 zk6 (by decide) zl_278 rfl rfl rfl dX6_add_58 ?_
    cases hf
    exact zr_vret dX6_add_61
  · rw [if_neg hc] at hf
    cases hf
    exact zr_vret dX6_add_9
