theorem zl_1250 : Cond.code yX12_listens cX12_listens 8 (none) ∈ zt := zt_at 1924 (by decide +kernel)
theorem zvs_X12_listens : zvS yX12_listens cX12_listens 8 (none) 3 := ⟨zl_1250, zl_893, ⟨by decide +kernel, by decide +kernel, by decide +kernel⟩, by decide⟩
theorem zl_1251 : Cond.methodLink RX12 478 yX12_listens ∈ zt := zt_at 1921 (by decide +kernel)
theorem zl_1252 : Cond.instanceMethod yX12_listens ∈ zt := zt_at 1923 (by decide +kernel)
theorem zl_1253 : Cond.selects RX12 yX12_listens yX12_listens ∈ zt := zt_at 115 (by decide +kernel)
theorem dX12_spot_0 : decode cX12_spot 0 = .ok (.aload_n 0, 1) := by decide +kernel
theorem dX12_spot_1 : decode cX12_spot 1 = .ok (.iconst 0, 1) := by decide +kernel
theorem dX12_spot_2 : decode cX12_spot 2 = .ok (.putfield 93, 3) := by decide +kernel
theorem dX12_spot_5 : decode cX12_spot 5 = .ok (.aload_n 0, 1) := by decide +kernel
theorem dX12_spot_6 : decode cX12_spot 6 = .ok (.iload_n 1, 1) := by decide +kernel
theorem dX12_spot_7 : decode cX12_spot 7 = .ok (.iload_n 2, 1) := by decide +kernel
theorem dX12_spot_8 : decode cX12_spot 8 = .ok (.invokevirtual 472, 3) := by decide +kernel
theorem dX12_spot_11 : decode cX12_spot 11 = .ok (.ifCond .ne 5, 3) := by decide +kernel
theorem dX12_spot_14 : decode cX12_spot 14 = .ok (.iconst (-1), 1) := by decide +kernel
theorem dX12_spot_15 : decode cX12_spot 15 = .ok (.ireturn, 1) := by decide +kernel
theorem dX12_spot_16 : decode cX12_spot 16 = .ok (.aload_n 0, 1) := by decide +kernel
theorem dX12_spot_17 : decode cX12_spot 17 = .ok (.iconst (-1), 1) := by decide +kernel
theorem dX12_spot_18 : decode cX12_spot 18 = .ok (.invokevirtual 475, 3) := by decide +kernel
theorem dX12_spot_21 : decode cX12_spot 21 = .ok (.istore 4, 2) := by decide +kernel
theorem dX12_spot_23 : decode cX12_spot 23 = .ok (.iload 4, 2) := by decide +kernel
theorem dX12_spot_25 : decode cX12_spot 25 = .ok (.ifCond .ne 5, 3) := by decide +kernel
theorem dX12_spot_28 : decode cX12_spot 28 = .ok (.iconst (-1), 1) := by decide +kernel
theorem dX12_spot_29 : decode cX12_spot 29 = .ok (.ireturn, 1) := by decide +kernel
theorem dX12_spot_30 : decode cX12_spot 30 = .ok (.iload_n 3, 1) := by decide +kernel
theorem dX12_spot_31 : decode cX12_spot 31 = .ok (.ifCond .ne 21, 3) := by decide +kernel
theorem dX12_spot_34 : decode cX12_spot 34 = .ok (.aload_n 0, 1) := by decide +kernel
theorem dX12_spot_35 : decode cX12_spot 35 = .ok (.getfield 466, 3) := by decide +kernel
theorem dX12_spot_38 : decode cX12_spot 38 = .ok (.bipush (-2), 2) := by decide +kernel
theorem dX12_spot_40 : decode cX12_spot 40 = .ok (.if_icmp .ne 7, 3) := by decide +kernel
theorem dX12_spot_43 : decode cX12_spot 43 = .ok (.iconst (-1), 1) := by decide +kernel
theorem dX12_spot_44 : decode cX12_spot 44 = .ok (.goto 7, 3) := by decide +kernel
theorem dX12_spot_47 : decode cX12_spot 47 = .ok (.aload_n 0, 1) := by decide +kernel
theorem dX12_spot_48 : decode cX12_spot 48 = .ok (.getfield 466, 3) := by decide +kernel
theorem dX12_spot_51 : decode cX12_spot 51 = .ok (.ireturn, 1) := by decide +kernel
theorem dX12_spot_52 : decode cX12_spot 52 = .ok (.iconst 0, 1) := by decide +kernel
theorem dX12_spot_53 : decode cX12_spot 53 = .ok (.istore 5, 2) := by decide +kernel
theorem dX12_spot_55 : decode cX12_spot 55 = .ok (.iload 5, 2) := by decide +kernel
theorem dX12_spot_57 : decode cX12_spot 57 = .ok (.sipush 3100, 3) := by decide +kernel
theorem dX12_spot_60 : decode cX12_spot 60 = .ok (.if_icmp .ge 17, 3) := by decide +kernel
theorem dX12_spot_63 : decode cX12_spot 63 = .ok (.aload_n 0, 1) := by decide +kernel
theorem dX12_spot_64 : decode cX12_spot 64 = .ok (.getfield 77, 3) := by decide +kernel
theorem dX12_spot_67 : decode cX12_spot 67 = .ok (.iload 5, 2) := by decide +kernel
theorem dX12_spot_69 : decode cX12_spot 69 = .ok (.iconst 0, 1) := by decide +kernel
theorem dX12_spot_70 : decode cX12_spot 70 = .ok (.iastore, 1) := by decide +kernel
theorem dX12_spot_71 : decode cX12_spot 71 = .ok (.iinc 5 1, 3) := by decide +kernel
theorem dX12_spot_74 : decode cX12_spot 74 = .ok (.goto (-19), 3) := by decide +kernel
theorem dX12_spot_77 : decode cX12_spot 77 = .ok (.iconst 0, 1) := by decide +kernel
theorem dX12_spot_78 : decode cX12_spot 78 = .ok (.istore 5, 2) := by decide +kernel
theorem dX12_spot_80 : decode cX12_spot 80 = .ok (.iload 5, 2) := by decide +kernel
theorem dX12_spot_82 : decode cX12_spot 82 = .ok (.sipush 1000, 3) := by decide +kernel
theorem dX12_spot_85 : decode cX12_spot 85 = .ok (.aload_n 0, 1) := by decide +kernel
theorem dX12_spot_86 : decode cX12_spot 86 = .ok (.getfield 273, 3) := by decide +kernel
theorem dX12_spot_89 : decode cX12_spot 89 = .ok (.iconst 1, 1) := by decide +kernel
theorem dX12_spot_90 : decode cX12_spot 90 = .ok (.iadd, 1) := by decide +kernel
theorem dX12_spot_91 : decode cX12_spot 91 = .ok (.imul, 1) := by decide +kernel
theorem dX12_spot_92 : decode cX12_spot 92 = .ok (.if_icmp .ge 68, 3) := by decide +kernel
theorem dX12_spot_95 : decode cX12_spot 95 = .ok (.iload 5, 2) := by decide +kernel
theorem dX12_spot_97 : decode cX12_spot 97 = .ok (.bipush 10, 2) := by decide +kernel
theorem dX12_spot_99 : decode cX12_spot 99 = .ok (.irem, 1) := by decide +kernel
theorem dX12_spot_100 : decode cX12_spot 100 = .ok (.bipush 8, 2) := by decide +kernel
theorem dX12_spot_102 : decode cX12_spot 102 = .ok (.if_icmp .ge 52, 3) := by decide +kernel
theorem dX12_spot_105 : decode cX12_spot 105 = .ok (.aload_n 0, 1) := by decide +kernel
theorem dX12_spot_106 : decode cX12_spot 106 = .ok (.iload 5, 2) := by decide +kernel
theorem dX12_spot_108 : decode cX12_spot 108 = .ok (.sipush 1000, 3) := by decide +kernel
theorem dX12_spot_111 : decode cX12_spot 111 = .ok (.idiv, 1) := by decide +kernel
theorem dX12_spot_112 : decode cX12_spot 112 = .ok (.iload 5, 2) := by decide +kernel
theorem dX12_spot_114 : decode cX12_spot 114 = .ok (.bipush 10, 2) := by decide +kernel
theorem dX12_spot_116 : decode cX12_spot 116 = .ok (.idiv, 1) := by decide +kernel
theorem dX12_spot_117 : decode cX12_spot 117 = .ok (.bipush 100, 2) := by decide +kernel
theorem dX12_spot_119 : decode cX12_spot 119 = .ok (.irem, 1) := by decide +kernel
theorem dX12_spot_120 : decode cX12_spot 120 = .ok (.iload 5, 2) := by decide +kernel
theorem dX12_spot_122 : decode cX12_spot 122 = .ok (.bipush 10, 2) := by decide +kernel
theorem dX12_spot_124 : decode cX12_spot 124 = .ok (.irem, 1) := by decide +kernel
theorem dX12_spot_125 : decode cX12_spot 125 = .ok (.invokevirtual 469, 3) := by decide +kernel
theorem dX12_spot_128 : decode cX12_spot 128 = .ok (.ifCond .eq 26, 3) := by decide +kernel
theorem dX12_spot_131 : decode cX12_spot 131 = .ok (.aload_n 0, 1) := by decide +kernel
theorem dX12_spot_132 : decode cX12_spot 132 = .ok (.iload 5, 2) := by decide +kernel
theorem dX12_spot_134 : decode cX12_spot 134 = .ok (.sipush 1000, 3) := by decide +kernel
theorem dX12_spot_137 : decode cX12_spot 137 = .ok (.idiv, 1) := by decide +kernel
theorem dX12_spot_138 : decode cX12_spot 138 = .ok (.iload 5, 2) := by decide +kernel
theorem dX12_spot_140 : decode cX12_spot 140 = .ok (.bipush 10, 2) := by decide +kernel
theorem dX12_spot_142 : decode cX12_spot 142 = .ok (.idiv, 1) := by decide +kernel
theorem dX12_spot_143 : decode cX12_spot 143 = .ok (.bipush 100, 2) := by decide +kernel
theorem dX12_spot_145 : decode cX12_spot 145 = .ok (.irem, 1) := by decide +kernel
theorem dX12_spot_146 : decode cX12_spot 146 = .ok (.iload 5, 2) := by decide +kernel
theorem dX12_spot_148 : decode cX12_spot 148 = .ok (.bipush 10, 2) := by decide +kernel
theorem dX12_spot_150 : decode cX12_spot 150 = .ok (.irem, 1) := by decide +kernel
theorem dX12_spot_151 : decode cX12_spot 151 = .ok (.invokevirtual 478, 3) := by decide +kernel
theorem dX12_spot_154 : decode cX12_spot 154 = .ok (.iinc 5 1, 3) := by decide +kernel
theorem dX12_spot_157 : decode cX12_spot 157 = .ok (.goto (-77), 3) := by decide +kernel
theorem dX12_spot_160 : decode cX12_spot 160 = .ok (.iconst 0, 1) := by decide +kernel
theorem dX12_spot_161 : decode cX12_spot 161 = .ok (.istore 5, 2) := by decide +kernel
theorem dX12_spot_163 : decode cX12_spot 163 = .ok (.iconst 1, 1) := by decide +kernel
theorem dX12_spot_164 : decode cX12_spot 164 = .ok (.istore 6, 2) := by decide +kernel
theorem dX12_spot_166 : decode cX12_spot 166 = .ok (.iload 6, 2) := by decide +kernel
theorem dX12_spot_168 : decode cX12_spot 168 = .ok (.bipush 100, 2) := by decide +kernel
theorem dX12_spot_170 : decode cX12_spot 170 = .ok (.aload_n 0, 1) := by decide +kernel
theorem dX12_spot_171 : decode cX12_spot 171 = .ok (.getfield 273, 3) := by decide +kernel
theorem dX12_spot_174 : decode cX12_spot 174 = .ok (.iconst 1, 1) := by decide +kernel
theorem dX12_spot_175 : decode cX12_spot 175 = .ok (.iadd, 1) := by decide +kernel
theorem dX12_spot_176 : decode cX12_spot 176 = .ok (.imul, 1) := by decide +kernel
theorem dX12_spot_177 : decode cX12_spot 177 = .ok (.if_icmp .ge 61, 3) := by decide +kernel
theorem dX12_spot_180 : decode cX12_spot 180 = .ok (.aload_n 0, 1) := by decide +kernel
theorem dX12_spot_181 : decode cX12_spot 181 = .ok (.getfield 77, 3) := by decide +kernel
theorem dX12_spot_184 : decode cX12_spot 184 = .ok (.iload 6, 2) := by decide +kernel
theorem dX12_spot_186 : decode cX12_spot 186 = .ok (.iaload, 1) := by decide +kernel
theorem dX12_spot_187 : decode cX12_spot 187 = .ok (.iload 4, 2) := by decide +kernel
theorem dX12_spot_189 : decode cX12_spot 189 = .ok (.aload_n 0, 1) := by decide +kernel
theorem dX12_spot_190 : decode cX12_spot 190 = .ok (.getfield 77, 3) := by decide +kernel
theorem dX12_spot_193 : decode cX12_spot 193 = .ok (.iload 6, 2) := by decide +kernel
theorem dX12_spot_195 : decode cX12_spot 195 = .ok (.iaload, 1) := by decide +kernel
theorem dX12_spot_196 : decode cX12_spot 196 = .ok (.isub, 1) := by decide +kernel
theorem dX12_spot_197 : decode cX12_spot 197 = .ok (.invokestatic 168, 3) := by decide +kernel
theorem dX12_spot_200 : decode cX12_spot 200 = .ok (.aload_n 0, 1) := by decide +kernel
theorem dX12_spot_201 : decode cX12_spot 201 = .ok (.getfield 77, 3) := by decide +kernel
theorem dX12_spot_204 : decode cX12_spot 204 = .ok (.iload 5, 2) := by decide +kernel
theorem dX12_spot_206 : decode cX12_spot 206 = .ok (.iaload, 1) := by decide +kernel
theorem dX12_spot_207 : decode cX12_spot 207 = .ok (.iload 4, 2) := by decide +kernel
theorem dX12_spot_209 : decode cX12_spot 209 = .ok (.aload_n 0, 1) := by decide +kernel
theorem dX12_spot_210 : decode cX12_spot 210 = .ok (.getfield 77, 3) := by decide +kernel
theorem dX12_spot_213 : decode cX12_spot 213 = .ok (.iload 5, 2) := by decide +kernel
theorem dX12_spot_215 : decode cX12_spot 215 = .ok (.iaload, 1) := by decide +kernel
theorem dX12_spot_216 : decode cX12_spot 216 = .ok (.isub, 1) := by decide +kernel
theorem dX12_spot_217 : decode cX12_spot 217 = .ok (.invokestatic 168, 3) := by decide +kernel
theorem dX12_spot_220 : decode cX12_spot 220 = .ok (.if_icmp .ge 8, 3) := by decide +kernel
theorem dX12_spot_223 : decode cX12_spot 223 = .ok (.iload 6, 2) := by decide +kernel
theorem dX12_spot_225 : decode cX12_spot 225 = .ok (.goto 5, 3) := by decide +kernel
theorem dX12_spot_228 : decode cX12_spot 228 = .ok (.iload 5, 2) := by decide +kernel
theorem dX12_spot_230 : decode cX12_spot 230 = .ok (.istore 5, 2) := by decide +kernel
theorem dX12_spot_232 : decode cX12_spot 232 = .ok (.iinc 6 1, 3) := by decide +kernel
theorem dX12_spot_235 : decode cX12_spot 235 = .ok (.goto (-69), 3) := by decide +kernel
theorem dX12_spot_238 : decode cX12_spot 238 = .ok (.iload 5, 2) := by decide +kernel
theorem dX12_spot_240 : decode cX12_spot 240 = .ok (.ireturn, 1) := by decide +kernel
noncomputable def fX12_spot_l55 (x0 : Nat) (F11 : Int32 → zM → Option (zM)) (x5_9 : Int32) (m10 : zM) : Option (zM) :=
  if 3100 ≤ x5_9 then (
  some m10)
  else (
  zb1 (zm_gR m10 12 x0 47) fun v15 =>
  zb1 (zm_sI m10 0 v15 x5_9 0) fun m17 =>
  F11 (x5_9 + 1) m17)
noncomputable def fX12_spot_l80 (x0 : Nat) (F22 : Int32 → zM → Option (zM)) (x5_20 : Int32) (m21 : zM) : Option (zM) :=
  zb1 (zm_gI m21 12 x0 24) fun v26 =>
  if (1000 * (v26 + 1)) ≤ x5_20 then (
  some m21)
  else (
  zc1 (if 8 ≤ (x5_20 - x5_20 / 10 * 10) then (
  some m21)
  else (
  zb1 (fX12_isSo m21 x0 (x5_20 / 1000) ((x5_20 / 10) - (x5_20 / 10) / 100 * 100) (x5_20 - x5_20 / 10 * 10)) fun v31 =>
  if v31 = 0 then (
  some m21)
  else (
  zb1 (fX12_listens m21 x0 (x5_20 / 1000) ((x5_20 / 10) - (x5_20 / 10) / 100 * 100) (x5_20 - x5_20 / 10 * 10)) fun m33 =>
  some m33)) : Option (zM)) fun (m28 : zM) =>
  F22 (x5_20 + 1) m28)
noncomputable def fX12_spot_l166 (m24 : zM) (x0 : Nat) (v8 : Int32) (F37 : Int32 → Int32 → Option (Int32)) (x5_35 : Int32) (x6_36 : Int32) : Option (Int32) :=
  zb1 (zm_gI m24 12 x0 24) fun v41 =>
  if (100 * (v41 + 1)) ≤ x6_36 then (
  some x5_35)
  else (
  zb1 (zm_gR m24 12 x0 47) fun v43 =>
  zb1 (zm_aI m24 0 v43 x6_36) fun v45 =>
  zb1 (zm_gR m24 12 x0 47) fun v47 =>
  zb1 (zm_aI m24 0 v47 x6_36) fun v49 =>
  zb1 (fX12_greater m24 v45 (v8 - v49)) fun v52 =>
  zb1 (zm_gR m24 12 x0 47) fun v53 =>
  zb1 (zm_aI m24 0 v53 x5_35) fun v55 =>
  zb1 (zm_gR m24 12 x0 47) fun v57 =>
  zb1 (zm_aI m24 0 v57 x5_35) fun v59 =>
  zb1 (fX12_greater m24 v55 (v8 - v59)) fun v62 =>
  zb1 (if v62 ≤ v52 then (
  some x5_35)
  else (
  some x6_36) : Option (Int32)) fun (s63 : Int32) =>
  F37 s63 (x6_36 + 1))
noncomputable def fX12_spot (μ : zM) (x0 : Nat) (x1 : Int32) (x2 : Int32) (x3 : Int32) : Option (Int32 × zM) := zgd (zm_ck μ 12 x0) <|
  zb1 (zm_p μ 12 x0 0 (.int 0)) fun m1 =>
  zb2 (fX12_laySight m1 x0 x1 x2) fun v5 m4 =>
  if v5 = 0 then (
  some ((-1), m4))
  else (
  zb2 (fX12_findSaid m4 x0 (-1)) fun v8 m7 =>
  if v8 = 0 then (
  some ((-1), m7))
  else (
  if x3 = 0 then (
  zb1 (zm_gI m7 12 x0 48) fun v66 =>
  zb1 (if v66 = (-2) then (
  some (-1))
  else (
  zb1 (zm_gI m7 12 x0 48) fun v70 =>
  some v70) : Option (Int32)) fun (s68 : Int32) =>
  some (s68, m7))
  else (
  zb1 (zf2 (fX12_spot_l55 x0) zfu 0 m7 : Option (zM)) fun (m13 : zM) =>
  zb1 (zf2 (fX12_spot_l80 x0) zfu 0 m13 : Option (zM)) fun (m24 : zM) =>
  zb1 (zf2 (fX12_spot_l166 m24 x0 v8) zfu 0 1 : Option (Int32)) fun (x5_39 : Int32) =>
  some (x5_39, m24))))
theorem fX12_spot_ck {μ : zM} {x0 : Nat} {x1 : Int32} {x2 : Int32} {x3 : Int32} {z : Int32 × zM} (h : fX12_spot μ x0 x1 x2 x3 = some z) : zm_ck μ 12 x0 = true := (zgd_s h).1
set_option maxHeartbeats 4000000 in
set_option maxRecDepth 100000 in
theorem cX12_spot_ok {μ : zM} {x0 : Nat} {x1 : Int32} {x2 : Int32} {x3 : Int32} {r : Int32} {mo : zM} (hf : fX12_spot μ x0 x1 x2 x3 = some (r, mo)) : zC yX12_spot cX12_spot 7 (some .int) 6 0 0 [.ref x0, .int x1, .int x2, .int x3] μ (some (.int r)) mo := by
  replace hf := (zgd_s hf).2
  refine zC.of (by decide) (Nat.le_of_ble_eq_true rfl) (fun K hin => ?_)
  clear hin
  show zz K cX12_spot (7, RX12, some .int, 6, 0, 0, some (.int r), mo) 0 0 0 [(0, .ref x0), (1, .int x1), (2, .int x2), (3, .int x3)] [] μ
  refine zr_aload_n 0 dX12_spot_0 rfl ?_
  refine zr_iconst 0 dX12_spot_1 (by decide) ?_
  replace hf := zb1_s hf
  obtain ⟨m1, h2, hf⟩ := hf
  refine zr_put h2 zk12 (by decide) zl_899 rfl rfl rfl dX12_spot_2 ?_
  refine zr_aload_n 0 dX12_spot_5 rfl ?_
  refine zr_iload_n 1 dX12_spot_6 rfl ?_
  refine zr_iload_n 2 dX12_spot_7 rfl ?_
  replace hf := zb2_s hf
  obtain ⟨v5, m4, h3, hf⟩ := hf
  refine zr_callV (ci := 12) [.int x1, .int x2] (cX12_laySight_ok h3) zvs_X12_laySight zl_1244 zl_1245 (fX12_laySight_ck h3) rfl rfl zl_1243 rfl (Nat.le_of_ble_eq_true rfl) (Nat.le_of_ble_eq_true rfl) (Nat.le_of_ble_eq_true rfl) (Nat.le_of_ble_eq_true rfl) dX12_spot_8 rfl ?_
  refine zr_if_ne 16 dX12_spot_11 (by decide) (fun hc => ?_) (fun hc => ?_)
  · rw [if_neg hc] at hf
    refine zr_aload_n 0 dX12_spot_16 rfl ?_
    refine zr_iconst (-1) dX12_spot_17 (by decide) ?_
    replace hf := zb2_s hf
    obtain ⟨v8, m7, h6, hf⟩ := hf
    refine zr_callV (ci := 12) [.int (-1)] (cX12_findSaid_ok h6) zvs_X12_findSaid zl_1248 zl_1249 (fX12_findSaid_ck h6) rfl rfl zl_1247 rfl (Nat.le_of_ble_eq_true rfl) (Nat.le_of_ble_eq_true rfl) (Nat.le_of_ble_eq_true rfl) (Nat.le_of_ble_eq_true rfl) dX12_spot_18 rfl ?_
    refine zr_istore [(4, .int v8), (0, .ref x0), (1, .int x1), (2, .int x2), (3, .int x3)] dX12_spot_21 (Nat.le_of_ble_eq_true rfl) rfl ?_
    refine zr_iload 0 dX12_spot_23 rfl ?_
    refine zr_if_ne 30 dX12_spot_25 (by decide) (fun hc => ?_) (fun hc => ?_)
    · rw [if_neg hc] at hf
      refine zr_iload_n 4 dX12_spot_30 rfl ?_
      refine zr_if_ne 52 dX12_spot_31 (by decide) (fun hc => ?_) (fun hc => ?_)
      · rw [if_neg hc] at hf
        refine zr_iconst 0 dX12_spot_52 (by decide) ?_
        refine zr_istore [(5, .int 0), (4, .int v8), (0, .ref x0), (1, .int x1), (2, .int x2), (3, .int x3)] dX12_spot_53 (Nat.le_of_ble_eq_true rfl) rfl ?_
        replace hf := zb1_s hf
        obtain ⟨m13, hg, hf⟩ := hf
        have hj14 : zz K cX12_spot (7, RX12, some .int, 6, 0, 0, some (.int r), mo) 0 0 77 [(0, .ref x0), (4, .int v8)] [] m13 := by
          refine zr_iconst 0 dX12_spot_77 (by decide) ?_
          refine zr_istore [(5, .int 0), (0, .ref x0), (4, .int v8)] dX12_spot_78 (Nat.le_of_ble_eq_true rfl) rfl ?_
          replace hf := zb1_s hf
          obtain ⟨m24, hg, hf⟩ := hf
          have hj25 : zz K cX12_spot (7, RX12, some .int, 6, 0, 0, some (.int r), mo) 0 0 160 [(0, .ref x0), (4, .int v8)] [] m24 := by
            refine zr_iconst 0 dX12_spot_160 (by decide) ?_
            refine zr_istore [(5, .int 0), (0, .ref x0), (4, .int v8)] dX12_spot_161 (Nat.le_of_ble_eq_true rfl) rfl ?_
            refine zr_iconst 1 dX12_spot_163 (by decide) ?_
            refine zr_istore [(6, .int 1), (5, .int 0), (0, .ref x0), (4, .int v8)] dX12_spot_164 (Nat.le_of_ble_eq_true rfl) rfl ?_
            replace hf := zb1_s hf
            obtain ⟨x5_39, hg, hf⟩ := hf
            have hj40 : zz K cX12_spot (7, RX12, some .int, 6, 0, 0, some (.int r), mo) 0 0 238 [(5, .int x5_39)] [] m24 := by
              refine zr_iload 0 dX12_spot_238 rfl ?_
              cases hf
              exact zr_iret dX12_spot_240
            clear hf
            have hf := hg
            clear hg
            have hL65 : ∀ (n : Nat) (x5_35 : Int32) (x6_36 : Int32), zf2 (fX12_spot_l166 m24 x0 v8) n x5_35 x6_36 = some x5_39 → zz K cX12_spot (7, RX12, some .int, 6, 0, 0, some (.int r), mo) 0 0 166 [(0, .ref x0), (4, .int v8), (5, .int x5_35), (6, .int x6_36)] [] m24 := by
              intro n
              induction n with
              | zero => intro x5_35 x6_36 hf; cases hf
              | succ n ih38 =>
                intro x5_35 x6_36 hf
                replace hf := zf2_s hf
                generalize zf2 (fX12_spot_l166 m24 x0 v8) n = F37 at hf ih38
                unfold fX12_spot_l166 at hf
                refine zr_iload 3 dX12_spot_166 rfl ?_
                refine zr_bipush 100 dX12_spot_168 (by decide) ?_
                refine zr_aload_n 0 dX12_spot_170 rfl ?_
                replace hf := zb1_s hf
                obtain ⟨v41, h42, hf⟩ := hf
                refine zr_get (zm_gI_g h42) zk12 (by decide) zl_1031 dX12_spot_171 ?_
                refine zr_iconst 1 dX12_spot_174 (by decide) ?_
                refine zr_iadd dX12_spot_175 ?_
                refine zr_imul dX12_spot_176 ?_
                refine zr_icmp_ge 238 dX12_spot_177 (by decide) (fun hc => ?_) (fun hc => ?_)
                · rw [if_pos hc] at hf
                  cases hf
                  exact zr_lv [2] rfl hj40
                · rw [if_neg hc] at hf
                  refine zr_aload_n 0 dX12_spot_180 rfl ?_
                  replace hf := zb1_s hf
                  obtain ⟨v43, h44, hf⟩ := hf
                  refine zr_get (zm_gR_g h44) zk12 (by decide) zl_886 dX12_spot_181 ?_
                  refine zr_iload 3 dX12_spot_184 rfl ?_
                  replace hf := zb1_s hf
                  obtain ⟨v45, h46, hf⟩ := hf
                  refine zr_iald h46 dX12_spot_186 ?_
                  refine zr_iload 1 dX12_spot_187 rfl ?_
                  refine zr_aload_n 0 dX12_spot_189 rfl ?_
                  replace hf := zb1_s hf
                  obtain ⟨v47, h48, hf⟩ := hf
                  refine zr_get (zm_gR_g h48) zk12 (by decide) zl_886 dX12_spot_190 ?_
                  refine zr_iload 3 dX12_spot_193 rfl ?_
                  replace hf := zb1_s hf
                  obtain ⟨v49, h50, hf⟩ := hf
                  refine zr_iald h50 dX12_spot_195 ?_
                  refine zr_isub dX12_spot_196 ?_
                  replace hf := zb1_s hf
                  obtain ⟨v52, h51, hf⟩ := hf
                  refine zr_callS [.int v45, .int (v8 - v49)] (cX12_greater_ok h51) zvs_X12_greater zl_940 zl_939 rfl (Nat.le_of_ble_eq_true rfl) (Nat.le_of_ble_eq_true rfl) (Nat.le_of_ble_eq_true rfl) (Nat.le_of_ble_eq_true rfl) dX12_spot_197 rfl ?_
                  refine zr_aload_n 0 dX12_spot_200 rfl ?_
                  replace hf := zb1_s hf
                  obtain ⟨v53, h54, hf⟩ := hf
                  refine zr_get (zm_gR_g h54) zk12 (by decide) zl_886 dX12_spot_201 ?_
                  refine zr_iload 2 dX12_spot_204 rfl ?_
                  replace hf := zb1_s hf
                  obtain ⟨v55, h56, hf⟩ := hf
                  refine zr_iald h56 dX12_spot_206 ?_
                  refine zr_iload 1 dX12_spot_207 rfl ?_
                  refine zr_aload_n 0 dX12_spot_209 rfl ?_
                  replace hf := zb1_s hf
                  obtain ⟨v57, h58, hf⟩ := hf
                  refine zr_get (zm_gR_g h58) zk12 (by decide) zl_886 dX12_spot_210 ?_
                  refine zr_iload 2 dX12_spot_213 rfl ?_
                  replace hf := zb1_s hf
                  obtain ⟨v59, h60, hf⟩ := hf
                  refine zr_iald h60 dX12_spot_215 ?_
                  refine zr_isub dX12_spot_216 ?_
                  replace hf := zb1_s hf
                  obtain ⟨v62, h61, hf⟩ := hf
                  refine zr_callS [.int v55, .int (v8 - v59)] (cX12_greater_ok h61) zvs_X12_greater zl_940 zl_939 rfl (Nat.le_of_ble_eq_true rfl) (Nat.le_of_ble_eq_true rfl) (Nat.le_of_ble_eq_true rfl) (Nat.le_of_ble_eq_true rfl) dX12_spot_217 rfl ?_
                  replace hf := zb1_s hf
                  obtain ⟨s63, hg, hf⟩ := hf
                  have hj64 : zz K cX12_spot (7, RX12, some .int, 6, 0, 0, some (.int r), mo) 0 0 230 [(0, .ref x0), (4, .int v8), (6, .int x6_36)] [.int s63] m24 := by
                    refine zr_istore [(5, .int s63), (0, .ref x0), (4, .int v8), (6, .int x6_36)] dX12_spot_230 (Nat.le_of_ble_eq_true rfl) rfl ?_
                    refine zr_iinc (j := 3) (x6_36 + 1) [(6, .int (x6_36 + 1)), (5, .int s63), (0, .ref x0), (4, .int v8)] dX12_spot_232 rfl rfl (Nat.le_of_ble_eq_true rfl) rfl ?_
                    refine zr_goto 166 dX12_spot_235 (by decide) ?_
                    exact zr_lv [2, 3, 1, 0] rfl (ih38 s63 (x6_36 + 1) hf)
                  clear hf
                  have hf := hg
                  clear hg
                  refine zr_icmp_ge 228 dX12_spot_220 (by decide) (fun hc => ?_) (fun hc => ?_)
                  · rw [if_pos hc] at hf
                    refine zr_iload 2 dX12_spot_228 rfl ?_
                    cases hf
                    exact zr_lv [0, 1, 3] rfl hj64
                  · rw [if_neg hc] at hf
                    refine zr_iload 3 dX12_spot_223 rfl ?_
                    refine zr_goto 230 dX12_spot_225 (by decide) ?_
                    cases hf
                    exact zr_lv [0, 1, 3] rfl hj64
            exact zr_lv [2, 3, 1, 0] rfl (hL65 _ 0 1 hf)
          clear hf
          have hf := hg
          clear hg
          have hL34 : ∀ (n : Nat) (x5_20 : Int32) (m21 : zM), zf2 (fX12_spot_l80 x0) n x5_20 m21 = some m24 → zz K cX12_spot (7, RX12, some .int, 6, 0, 0, some (.int r), mo) 0 0 80 [(0, .ref x0), (4, .int v8), (5, .int x5_20)] [] m21 := by
            intro n
            induction n with
            | zero => intro x5_20 m21 hf; cases hf
            | succ n ih23 =>
              intro x5_20 m21 hf
              replace hf := zf2_s hf
              generalize zf2 (fX12_spot_l80 x0) n = F22 at hf ih23
              unfold fX12_spot_l80 at hf
              refine zr_iload 2 dX12_spot_80 rfl ?_
              refine zr_sipush 1000 dX12_spot_82 (by decide) ?_
              refine zr_aload_n 0 dX12_spot_85 rfl ?_
              replace hf := zb1_s hf
              obtain ⟨v26, h27, hf⟩ := hf
              refine zr_get (zm_gI_g h27) zk12 (by decide) zl_1031 dX12_spot_86 ?_
              refine zr_iconst 1 dX12_spot_89 (by decide) ?_
              refine zr_iadd dX12_spot_90 ?_
              refine zr_imul dX12_spot_91 ?_
              refine zr_icmp_ge 160 dX12_spot_92 (by decide) (fun hc => ?_) (fun hc => ?_)
              · rw [if_pos hc] at hf
                cases hf
                exact zr_lv [0, 1] rfl hj25
              · rw [if_neg hc] at hf
                refine zr_iload 2 dX12_spot_95 rfl ?_
                refine zr_bipush 10 dX12_spot_97 (by decide) ?_
                refine zr_irem dX12_spot_99 (by decide) ?_
                refine zr_bipush 8 dX12_spot_100 (by decide) ?_
                replace hf := zc1_s hf
                obtain ⟨m28, hg, hf⟩ := hf
                have hj29 : zz K cX12_spot (7, RX12, some .int, 6, 0, 0, some (.int r), mo) 0 0 154 [(0, .ref x0), (4, .int v8), (5, .int x5_20)] [] m28 := by
                  refine zr_iinc (j := 2) (x5_20 + 1) [(5, .int (x5_20 + 1)), (0, .ref x0), (4, .int v8)] dX12_spot_154 rfl rfl (Nat.le_of_ble_eq_true rfl) rfl ?_
                  refine zr_goto 80 dX12_spot_157 (by decide) ?_
                  exact zr_lv [1, 2, 0] rfl (ih23 (x5_20 + 1) m28 hf)
                clear hf
                have hf := hg
                clear hg
                refine zr_icmp_ge 154 dX12_spot_102 (by decide) (fun hc => ?_) (fun hc => ?_)
                · rw [if_pos hc] at hf
                  cases hf
                  exact zr_lv [0, 1, 2] rfl hj29
                · rw [if_neg hc] at hf
                  refine zr_aload_n 0 dX12_spot_105 rfl ?_
                  refine zr_iload 2 dX12_spot_106 rfl ?_
                  refine zr_sipush 1000 dX12_spot_108 (by decide) ?_
                  refine zr_idiv dX12_spot_111 (by decide) ?_
                  refine zr_iload 2 dX12_spot_112 rfl ?_
                  refine zr_bipush 10 dX12_spot_114 (by decide) ?_
                  refine zr_idiv dX12_spot_116 (by decide) ?_
                  refine zr_bipush 100 dX12_spot_117 (by decide) ?_
                  refine zr_irem dX12_spot_119 (by decide) ?_
                  refine zr_iload 2 dX12_spot_120 rfl ?_
                  refine zr_bipush 10 dX12_spot_122 (by decide) ?_
                  refine zr_irem dX12_spot_124 (by decide) ?_
                  replace hf := zb1_s hf
                  obtain ⟨v31, h30, hf⟩ := hf
                  refine zr_callV (ci := 12) [.int (x5_20 / 1000), .int ((x5_20 / 10) - (x5_20 / 10) / 100 * 100), .int (x5_20 - x5_20 / 10 * 10)] (cX12_isSo_ok h30) zvs_X12_isSo zl_1240 zl_1241 (fX12_isSo_ck h30) rfl rfl zl_1239 rfl (Nat.le_of_ble_eq_true rfl) (Nat.le_of_ble_eq_true rfl) (Nat.le_of_ble_eq_true rfl) (Nat.le_of_ble_eq_true rfl) dX12_spot_125 rfl ?_
                  refine zr_if_eq 154 dX12_spot_128 (by decide) (fun hc => ?_) (fun hc => ?_)
                  · rw [if_pos hc] at hf
                    cases hf
                    exact zr_lv [0, 1, 2] rfl hj29
                  · rw [if_neg hc] at hf
                    refine zr_aload_n 0 dX12_spot_131 rfl ?_
                    refine zr_iload 2 dX12_spot_132 rfl ?_
                    refine zr_sipush 1000 dX12_spot_134 (by decide) ?_
                    refine zr_idiv dX12_spot_137 (by decide) ?_
                    refine zr_iload 2 dX12_spot_138 rfl ?_
                    refine zr_bipush 10 dX12_spot_140 (by decide) ?_
                    refine zr_idiv dX12_spot_142 (by decide) ?_
                    refine zr_bipush 100 dX12_spot_143 (by decide) ?_
                    refine zr_irem dX12_spot_145 (by decide) ?_
                    refine zr_iload 2 dX12_spot_146 rfl ?_
                    refine zr_bipush 10 dX12_spot_148 (by decide) ?_
                    refine zr_irem dX12_spot_150 (by decide) ?_
                    replace hf := zb1_s hf
                    obtain ⟨m33, h32, hf⟩ := hf
                    refine zr_callV (ci := 12) [.int (x5_20 / 1000), .int ((x5_20 / 10) - (x5_20 / 10) / 100 * 100), .int (x5_20 - x5_20 / 10 * 10)] (cX12_listens_ok h32) zvs_X12_listens zl_1252 zl_1253 (fX12_listens_ck h32) rfl rfl zl_1251 rfl (Nat.le_of_ble_eq_true rfl) (Nat.le_of_ble_eq_true rfl) (Nat.le_of_ble_eq_true rfl) (Nat.le_of_ble_eq_true rfl) dX12_spot_151 rfl ?_
                    cases hf
                    exact zr_lv [0, 1, 2] rfl hj29
          exact zr_lv [1, 2, 0] rfl (hL34 _ 0 m13 hf)
        clear hf
        have hf := hg
        clear hg
        have hL19 : ∀ (n : Nat) (x5_9 : Int32) (m10 : zM), zf2 (fX12_spot_l55 x0) n x5_9 m10 = some m13 → zz K cX12_spot (7, RX12, some .int, 6, 0, 0, some (.int r), mo) 0 0 55 [(0, .ref x0), (4, .int v8), (5, .int x5_9)] [] m10 := by
          intro n
          induction n with
          | zero => intro x5_9 m10 hf; cases hf
          | succ n ih12 =>
            intro x5_9 m10 hf
            replace hf := zf2_s hf
            generalize zf2 (fX12_spot_l55 x0) n = F11 at hf ih12
            unfold fX12_spot_l55 at hf
            refine zr_iload 2 dX12_spot_55 rfl ?_
            refine zr_sipush 3100 dX12_spot_57 (by decide) ?_
            refine zr_icmp_ge 77 dX12_spot_60 (by decide) (fun hc => ?_) (fun hc => ?_)
            · rw [if_pos hc] at hf
              cases hf
              exact zr_lv [0, 1] rfl hj14
            · rw [if_neg hc] at hf
              refine zr_aload_n 0 dX12_spot_63 rfl ?_
              replace hf := zb1_s hf
              obtain ⟨v15, h16, hf⟩ := hf
              refine zr_get (zm_gR_g h16) zk12 (by decide) zl_886 dX12_spot_64 ?_
              refine zr_iload 2 dX12_spot_67 rfl ?_
              refine zr_iconst 0 dX12_spot_69 (by decide) ?_
              replace hf := zb1_s hf
              obtain ⟨m17, h18, hf⟩ := hf
              refine zr_iast h18 dX12_spot_70 ?_
              refine zr_iinc (j := 2) (x5_9 + 1) [(5, .int (x5_9 + 1)), (0, .ref x0), (4, .int v8)] dX12_spot_71 rfl rfl (Nat.le_of_ble_eq_true rfl) rfl ?_
              refine zr_goto 55 dX12_spot_74 (by decide) ?_
              exact zr_lv [1, 2, 0] rfl (ih12 (x5_9 + 1) m17 hf)
        exact zr_lv [2, 1, 0] rfl (hL19 _ 0 m7 hf)
      · rw [if_pos hc] at hf
        refine zr_aload_n 1 dX12_spot_34 rfl ?_
        replace hf := zb1_s hf
        obtain ⟨v66, h67, hf⟩ := hf
        refine zr_get (zm_gI_g h67) zk12 (by decide) zl_1237 dX12_spot_35 ?_
        refine zr_bipush (-2) dX12_spot_38 (by decide) ?_
        replace hf := zb1_s hf
        obtain ⟨s68, hg, hf⟩ := hf
        have hj69 : zz K cX12_spot (7, RX12, some .int, 6, 0, 0, some (.int r), mo) 0 0 51 [] [.int s68] m7 := by
          cases hf
          exact zr_iret dX12_spot_51
        clear hf
        have hf := hg
        clear hg
        refine zr_icmp_ne 47 dX12_spot_40 (by decide) (fun hc => ?_) (fun hc => ?_)
        · rw [if_neg hc] at hf
          refine zr_aload_n 1 dX12_spot_47 rfl ?_
          replace hf := zb1_s hf
          obtain ⟨v70, h71, hf⟩ := hf
          refine zr_get (zm_gI_g h71) zk12 (by decide) zl_1237 dX12_spot_48 ?_
          cases hf
          exact zr_lv [] rfl hj69
        · rw [if_pos hc] at hf
          refine zr_iconst (-1) dX12_spot_43 (by decide) ?_
          refine zr_goto 51 dX12_spot_44 (by decide) ?_
          cases hf
          exact zr_lv [] rfl hj69
    · rw [if_pos hc] at hf
      refine zr_iconst (-1) dX12_spot_28 (by decide) ?_
      cases hf
      exact zr_iret dX12_spot_29
  · rw [if_pos hc] at hf
    refine zr_iconst (-1) dX12_spot_14 (by decide) ?_
    cases hf
    exact zr_iret dX12_spot_15
theorem zl_1254 : Cond.fieldLink RX12 480 "TwoEchoesModel" "seed" "I" ∈ zt := zt_at 1390 (by decide +kernel)
theorem zl_1255 : Cond.constant RX12 483 1103515245 ∈ zt := zt_at 1937 (by decide +kernel)
theorem dX12_draw_0 : decode cX12_draw 0 = .ok (.aload_n 0, 1) := by decide +kernel
theorem dX12_draw_1 : decode cX12_draw 1 = .ok (.aload_n 0, 1) := by decide +kernel
theorem dX12_draw_2 : decode cX12_draw 2 = .ok (.getfield 480, 3) := by decide +kernel
theorem dX12_draw_5 : decode cX12_draw 5 = .ok (.ldc_w 483, 3) := by decide +kernel
theorem dX12_draw_8 : decode cX12_draw 8 = .ok (.imul, 1) := by decide +kernel
theorem dX12_draw_9 : decode cX12_draw 9 = .ok (.sipush 12345, 3) := by decide +kernel
theorem dX12_draw_12 : decode cX12_draw 12 = .ok (.iadd, 1) := by decide +kernel
theorem dX12_draw_13 : decode cX12_draw 13 = .ok (.putfield 480, 3) := by decide +kernel
theorem dX12_draw_16 : decode cX12_draw 16 = .ok (.aload_n 0, 1) := by decide +kernel
theorem dX12_draw_17 : decode cX12_draw 17 = .ok (.getfield 480, 3) := by decide +kernel
theorem dX12_draw_20 : decode cX12_draw 20 = .ok (.bipush 16, 2) := by decide +kernel
theorem dX12_draw_22 : decode cX12_draw 22 = .ok (.iushr, 1) := by decide +kernel
theorem dX12_draw_23 : decode cX12_draw 23 = .ok (.iload_n 1, 1) := by decide +kernel
theorem dX12_draw_24 : decode cX12_draw 24 = .ok (.irem, 1) := by decide +kernel
theorem dX12_draw_25 : decode cX12_draw 25 = .ok (.ireturn, 1) := by decide +kernel
noncomputable def fX12_draw (μ : zM) (x0 : Nat) (x1 : Int32) : Option (Int32 × zM) := zgd (zm_ck μ 12 x0) <|
  zb1 (zm_gI μ 12 x0 49) fun v1 =>
  zb1 (zm_p μ 12 x0 49 (.int ((v1 * 1103515245) + 12345))) fun m3 =>
  zb1 (zm_gI m3 12 x0 49) fun v5 =>
  zni (x1 = 0) <|
  some ((((v5 : Int32).toUInt32 >>> ((16 : Int32).toUInt32 &&& Int32.toUInt32 31)).toInt32) - (((v5 : Int32).toUInt32 >>> ((16 : Int32).toUInt32 &&& Int32.toUInt32 31)).toInt32) / x1 * x1, m3)
theorem fX12_draw_ck {μ : zM} {x0 : Nat} {x1 : Int32} {z : Int32 × zM} (h : fX12_draw μ x0 x1 = some z) : zm_ck μ 12 x0 = true := (zgd_s h).1
set_option maxHeartbeats 4000000 in
set_option maxRecDepth 100000 in
theorem cX12_draw_ok {μ : zM} {x0 : Nat} {x1 : Int32} {r : Int32} {mo : zM} (hf : fX12_draw μ x0 x1 = some (r, mo)) : zC yX12_draw cX12_draw 2 (some .int) 0 0 0 [.ref x0, .int x1] μ (some (.int r)) mo := by
  replace hf := (zgd_s hf).2
  refine zC.of (by decide) (Nat.le_of_ble_eq_true rfl) (fun K hin => ?_)
  clear hin
  show zz K cX12_draw (2, RX12, some .int, 0, 0, 0, some (.int r), mo) 0 0 0 [(0, .ref x0), (1, .int x1)] [] μ
  refine zr_aload_n 0 dX12_draw_0 rfl ?_
  refine zr_aload_n 0 dX12_draw_1 rfl ?_
  replace hf := zb1_s hf
  obtain ⟨v1, h2, hf⟩ := hf
  refine zr_get (zm_gI_g h2) zk12 (by decide) zl_1254 dX12_draw_2 ?_
  refine zr_ldcw zl_1255 dX12_draw_5 ?_
  refine zr_imul dX12_draw_8 ?_
  refine zr_sipush 12345 dX12_draw_9 (by decide) ?_
  refine zr_iadd dX12_draw_12 ?_
  replace hf := zb1_s hf
  obtain ⟨m3, h4, hf⟩ := hf
  refine zr_put h4 zk12 (by decide) zl_1254 rfl rfl rfl dX12_draw_13 ?_
  refine zr_aload_n 0 dX12_draw_16 rfl ?_
  replace hf := zb1_s hf
  obtain ⟨v5, h6, hf⟩ := hf
  refine zr_get (zm_gI_g h6) zk12 (by decide) zl_1254 dX12_draw_17 ?_
  refine zr_bipush 16 dX12_draw_20 (by decide) ?_
  refine zr_iushr dX12_draw_22 ?_
  refine zr_iload_n 1 dX12_draw_23 rfl ?_
  replace hf := zni_s hf
  obtain ⟨hn7, hf⟩ := hf
  refine zr_irem dX12_draw_24 hn7 ?_
  cases hf
  exact zr_iret dX12_draw_25
theorem zl_1256 : Cond.code yX12_draw cX12_draw 2 (some .int) ∈ zt := zt_at 1936 (by decide +kernel)
theorem zvs_X12_draw : zvS yX12_draw cX12_draw 2 (some .int) 1 := ⟨zl_1256, zl_893, ⟨by decide +kernel, by decide +kernel, by decide +kernel⟩, by decide⟩
theorem zl_1257 : Cond.methodLink RX12 484 yX12_draw ∈ zt := zt_at 1933 (by decide +kernel)
theorem zl_1258 : Cond.instanceMethod yX12_draw ∈ zt := zt_at 1935 (by decide +kernel)
theorem zl_1259 : Cond.selects RX12 yX12_draw yX12_draw ∈ zt := zt_at 117 (by decide +kernel)
theorem dX12_drawDeed_0 : decode cX12_drawDeed 0 = .ok (.aload_n 0, 1) := by decide +kernel
theorem dX12_drawDeed_1 : decode cX12_drawDeed 1 = .ok (.aload_n 0, 1) := by decide +kernel
theorem dX12_drawDeed_2 : decode cX12_drawDeed 2 = .ok (.getfield 276, 3) := by decide +kernel
theorem dX12_drawDeed_5 : decode cX12_drawDeed 5 = .ok (.invokevirtual 484, 3) := by decide +kernel
theorem dX12_drawDeed_8 : decode cX12_drawDeed 8 = .ok (.istore_n 1, 1) := by decide +kernel
theorem dX12_drawDeed_9 : decode cX12_drawDeed 9 = .ok (.aload_n 0, 1) := by decide +kernel
theorem dX12_drawDeed_10 : decode cX12_drawDeed 10 = .ok (.bipush 6, 2) := by decide +kernel
theorem dX12_drawDeed_12 : decode cX12_drawDeed 12 = .ok (.invokevirtual 484, 3) := by decide +kernel
theorem dX12_drawDeed_15 : decode cX12_drawDeed 15 = .ok (.istore_n 2, 1) := by decide +kernel
theorem dX12_drawDeed_16 : decode cX12_drawDeed 16 = .ok (.iload_n 2, 1) := by decide +kernel
theorem dX12_drawDeed_17 : decode cX12_drawDeed 17 = .ok (.iconst 2, 1) := by decide +kernel
theorem dX12_drawDeed_18 : decode cX12_drawDeed 18 = .ok (.if_icmp .gt 18, 3) := by decide +kernel
theorem dX12_drawDeed_21 : decode cX12_drawDeed 21 = .ok (.aload_n 0, 1) := by decide +kernel
theorem dX12_drawDeed_22 : decode cX12_drawDeed 22 = .ok (.iload_n 1, 1) := by decide +kernel
theorem dX12_drawDeed_23 : decode cX12_drawDeed 23 = .ok (.aload_n 0, 1) := by decide +kernel
theorem dX12_drawDeed_24 : decode cX12_drawDeed 24 = .ok (.bipush 8, 2) := by decide +kernel
theorem dX12_drawDeed_26 : decode cX12_drawDeed 26 = .ok (.invokevirtual 484, 3) := by decide +kernel
theorem dX12_drawDeed_29 : decode cX12_drawDeed 29 = .ok (.iload_n 2, 1) := by decide +kernel
theorem dX12_drawDeed_30 : decode cX12_drawDeed 30 = .ok (.invokevirtual 344, 3) := by decide +kernel
theorem dX12_drawDeed_33 : decode cX12_drawDeed 33 = .ok (.goto 40, 3) := by decide +kernel
theorem dX12_drawDeed_36 : decode cX12_drawDeed 36 = .ok (.iload_n 2, 1) := by decide +kernel
theorem dX12_drawDeed_37 : decode cX12_drawDeed 37 = .ok (.iconst 5, 1) := by decide +kernel
theorem dX12_drawDeed_38 : decode cX12_drawDeed 38 = .ok (.if_icmp .ge 22, 3) := by decide +kernel
theorem dX12_drawDeed_41 : decode cX12_drawDeed 41 = .ok (.aload_n 0, 1) := by decide +kernel
theorem dX12_drawDeed_42 : decode cX12_drawDeed 42 = .ok (.iload_n 1, 1) := by decide +kernel
theorem dX12_drawDeed_43 : decode cX12_drawDeed 43 = .ok (.aload_n 0, 1) := by decide +kernel
theorem dX12_drawDeed_44 : decode cX12_drawDeed 44 = .ok (.aload_n 0, 1) := by decide +kernel
theorem dX12_drawDeed_45 : decode cX12_drawDeed 45 = .ok (.getfield 273, 3) := by decide +kernel
theorem dX12_drawDeed_48 : decode cX12_drawDeed 48 = .ok (.iconst 1, 1) := by decide +kernel
theorem dX12_drawDeed_49 : decode cX12_drawDeed 49 = .ok (.iadd, 1) := by decide +kernel
theorem dX12_drawDeed_50 : decode cX12_drawDeed 50 = .ok (.invokevirtual 484, 3) := by decide +kernel
theorem dX12_drawDeed_53 : decode cX12_drawDeed 53 = .ok (.invokevirtual 341, 3) := by decide +kernel
theorem dX12_drawDeed_56 : decode cX12_drawDeed 56 = .ok (.pop, 1) := by decide +kernel
theorem dX12_drawDeed_57 : decode cX12_drawDeed 57 = .ok (.goto 16, 3) := by decide +kernel
theorem dX12_drawDeed_60 : decode cX12_drawDeed 60 = .ok (.aload_n 0, 1) := by decide +kernel
theorem dX12_drawDeed_61 : decode cX12_drawDeed 61 = .ok (.iconst 1, 1) := by decide +kernel
theorem dX12_drawDeed_62 : decode cX12_drawDeed 62 = .ok (.aload_n 0, 1) := by decide +kernel
theorem dX12_drawDeed_63 : decode cX12_drawDeed 63 = .ok (.bipush 9, 2) := by decide +kernel
theorem dX12_drawDeed_65 : decode cX12_drawDeed 65 = .ok (.invokevirtual 484, 3) := by decide +kernel
theorem dX12_drawDeed_68 : decode cX12_drawDeed 68 = .ok (.iadd, 1) := by decide +kernel
theorem dX12_drawDeed_69 : decode cX12_drawDeed 69 = .ok (.invokevirtual 338, 3) := by decide +kernel
theorem dX12_drawDeed_72 : decode cX12_drawDeed 72 = .ok (.pop, 1) := by decide +kernel
theorem dX12_drawDeed_73 : decode cX12_drawDeed 73 = .ok (.return_, 1) := by decide +kernel
noncomputable def fX12_drawDeed (μ : zM) (x0 : Nat) : Option (zM) := zgd (zm_ck μ 12 x0) <|
  zb1 (zm_gI μ 12 x0 25) fun v1 =>
  zb2 (fX12_draw μ x0 v1) fun v5 m4 =>
  zb2 (fX12_draw m4 x0 6) fun v8 m7 =>
  zc1 (if 2 < v8 then (
  if 5 ≤ v8 then (
  zb2 (fX12_draw m7 x0 9) fun v13 m12 =>
  zb2 (fX12_waits m12 x0 (1 + v13)) fun v16 m15 =>
  some m15)
  else (
  zb1 (zm_gI m7 12 x0 24) fun v17 =>
  zb2 (fX12_draw m7 x0 (v17 + 1)) fun v21 m20 =>
  zb2 (fX12_walks m20 x0 v5 v21) fun v24 m23 =>
  some m23))
  else (
  zb2 (fX12_draw m7 x0 8) fun v27 m26 =>
  zb1 (fX12_says m26 x0 v5 v27 v8) fun m29 =>
  some m29) : Option (zM)) fun (m9 : zM) =>
  some m9
theorem fX12_drawDeed_ck {μ : zM} {x0 : Nat} {z : zM} (h : fX12_drawDeed μ x0 = some z) : zm_ck μ 12 x0 = true := (zgd_s h).1
set_option maxHeartbeats 4000000 in
set_option maxRecDepth 100000 in
theorem cX12_drawDeed_ok {μ : zM} {x0 : Nat} {mo : zM} (hf : fX12_drawDeed μ x0 = some mo) : zC yX12_drawDeed cX12_drawDeed 3 (none) 3 0 0 [.ref x0] μ (none) mo := by
  replace hf := (zgd_s hf).2
  refine zC.of (by decide) (Nat.le_of_ble_eq_true rfl) (fun K hin => ?_)
  clear hin
  show zz K cX12_drawDeed (3, RX12, none, 3, 0, 0, none, mo) 0 0 0 [(0, .ref x0)] [] μ
  refine zr_aload_n 0 dX12_drawDeed_0 rfl ?_
  refine zr_aload_n 0 dX12_drawDeed_1 rfl ?_
  replace hf := zb1_s hf
  obtain ⟨v1, h2, hf⟩ := hf
  refine zr_get (zm_gI_g h2) zk12 (by decide) zl_1032 dX12_drawDeed_2 ?_
  replace hf := zb2_s hf
  obtain ⟨v5, m4, h3, hf⟩ := hf
  refine zr_callV (ci := 12) [.int v1] (cX12_draw_ok h3) zvs_X12_draw zl_1258 zl_1259 (fX12_draw_ck h3) rfl rfl zl_1257 rfl (Nat.le_of_ble_eq_true rfl) (Nat.le_of_ble_eq_true rfl) (Nat.le_of_ble_eq_true rfl) (Nat.le_of_ble_eq_true rfl) dX12_drawDeed_5 rfl ?_
  refine zr_istore_n [(1, .int v5), (0, .ref x0)] dX12_drawDeed_8 (Nat.le_of_ble_eq_true rfl) rfl ?_
  refine zr_aload_n 1 dX12_drawDeed_9 rfl ?_
  refine zr_bipush 6 dX12_drawDeed_10 (by decide) ?_
  replace hf := zb2_s hf
  obtain ⟨v8, m7, h6, hf⟩ := hf
  refine zr_callV (ci := 12) [.int 6] (cX12_draw_ok h6) zvs_X12_draw zl_1258 zl_1259 (fX12_draw_ck h6) rfl rfl zl_1257 rfl (Nat.le_of_ble_eq_true rfl) (Nat.le_of_ble_eq_true rfl) (Nat.le_of_ble_eq_true rfl) (Nat.le_of_ble_eq_true rfl) dX12_drawDeed_12 rfl ?_
  refine zr_istore_n [(2, .int v8), (1, .int v5), (0, .ref x0)] dX12_drawDeed_15 (Nat.le_of_ble_eq_true rfl) rfl ?_
  refine zr_iload_n 0 dX12_drawDeed_16 rfl ?_
  refine zr_iconst 2 dX12_drawDeed_17 (by decide) ?_
  replace hf := zc1_s hf
  obtain ⟨m9, hg, hf⟩ := hf
  have hj10 : zz K cX12_drawDeed (3, RX12, none, 3, 0, 0, none, mo) 0 0 73 [] [] m9 := by
    cases hf
    exact zr_vret dX12_drawDeed_73
  clear hf
  have hf := hg
  clear hg
  refine zr_icmp_gt 36 dX12_drawDeed_18 (by decide) (fun hc => ?_) (fun hc => ?_)
  · rw [if_pos hc] at hf
    refine zr_iload_n 0 dX12_drawDeed_36 rfl ?_
    refine zr_iconst 5 dX12_drawDeed_37 (by decide) ?_
    refine zr_icmp_ge 60 dX12_drawDeed_38 (by decide) (fun hc => ?_) (fun hc => ?_)
    · rw [if_pos hc] at hf
      refine zr_aload_n 2 dX12_drawDeed_60 rfl ?_
      refine zr_iconst 1 dX12_drawDeed_61 (by decide) ?_
      refine zr_aload_n 2 dX12_drawDeed_62 rfl ?_
      refine zr_bipush 9 dX12_drawDeed_63 (by decide) ?_
      replace hf := zb2_s hf
      obtain ⟨v13, m12, h11, hf⟩ := hf
      refine zr_callV (ci := 12) [.int 9] (cX12_draw_ok h11) zvs_X12_draw zl_1258 zl_1259 (fX12_draw_ck h11) rfl rfl zl_1257 rfl (Nat.le_of_ble_eq_true rfl) (Nat.le_of_ble_eq_true rfl) (Nat.le_of_ble_eq_true rfl) (Nat.le_of_ble_eq_true rfl) dX12_drawDeed_65 rfl ?_
      refine zr_iadd dX12_drawDeed_68 ?_
      replace hf := zb2_s hf
      obtain ⟨v16, m15, h14, hf⟩ := hf
      refine zr_callV (ci := 12) [.int (1 + v13)] (cX12_waits_ok h14) zvs_X12_waits zl_1107 zl_1108 (fX12_waits_ck h14) rfl rfl zl_1106 rfl (Nat.le_of_ble_eq_true rfl) (Nat.le_of_ble_eq_true rfl) (Nat.le_of_ble_eq_true rfl) (Nat.le_of_ble_eq_true rfl) dX12_drawDeed_69 rfl ?_
      refine zr_pop dX12_drawDeed_72 rfl ?_
      cases hf
      exact zr_lv [] rfl hj10
    · rw [if_neg hc] at hf
      refine zr_aload_n 2 dX12_drawDeed_41 rfl ?_
      refine zr_iload_n 1 dX12_drawDeed_42 rfl ?_
      refine zr_aload_n 2 dX12_drawDeed_43 rfl ?_
      refine zr_aload_n 2 dX12_drawDeed_44 rfl ?_
      replace hf := zb1_s hf
      obtain ⟨v17, h18, hf⟩ := hf
      refine zr_get (zm_gI_g h18) zk12 (by decide) zl_1031 dX12_drawDeed_45 ?_
      refine zr_iconst 1 dX12_drawDeed_48 (by decide) ?_
      refine zr_iadd dX12_drawDeed_49 ?_
      replace hf := zb2_s hf
      obtain ⟨v21, m20, h19, hf⟩ := hf
      refine zr_callV (ci := 12) [.int (v17 + 1)] (cX12_draw_ok h19) zvs_X12_draw zl_1258 zl_1259 (fX12_draw_ck h19) rfl rfl zl_1257 rfl (Nat.le_of_ble_eq_true rfl) (Nat.le_of_ble_eq_true rfl) (Nat.le_of_ble_eq_true rfl) (Nat.le_of_ble_eq_true rfl) dX12_drawDeed_50 rfl ?_
      replace hf := zb2_s hf
      obtain ⟨v24, m23, h22, hf⟩ := hf
      refine zr_callV (ci := 12) [.int v5, .int v21] (cX12_walks_ok h22) zvs_X12_walks zl_1103 zl_1104 (fX12_walks_ck h22) rfl rfl zl_1102 rfl (Nat.le_of_ble_eq_true rfl) (Nat.le_of_ble_eq_true rfl) (Nat.le_of_ble_eq_true rfl) (Nat.le_of_ble_eq_true rfl) dX12_drawDeed_53 rfl ?_
      refine zr_pop dX12_drawDeed_56 rfl ?_
      refine zr_goto 73 dX12_drawDeed_57 (by decide) ?_
      cases hf
      exact zr_lv [] rfl hj10
  · rw [if_neg hc] at hf
    refine zr_aload_n 2 dX12_drawDeed_21 rfl ?_
    refine zr_iload_n 1 dX12_drawDeed_22 rfl ?_
    refine zr_aload_n 2 dX12_drawDeed_23 rfl ?_
    refine zr_bipush 8 dX12_drawDeed_24 (by decide) ?_
    replace hf := zb2_s hf
    obtain ⟨v27, m26, h25, hf⟩ := hf
    refine zr_callV (ci := 12) [.int 8] (cX12_draw_ok h25) zvs_X12_draw zl_1258 zl_1259 (fX12_draw_ck h25) rfl rfl zl_1257 rfl (Nat.le_of_ble_eq_true rfl) (Nat.le_of_ble_eq_true rfl) (Nat.le_of_ble_eq_true rfl) (Nat.le_of_ble_eq_true rfl) dX12_drawDeed_26 rfl ?_
    refine zr_iload_n 0 dX12_drawDeed_29 rfl ?_
    replace hf := zb1_s hf
    obtain ⟨m29, h28, hf⟩ := hf
    refine zr_callV (ci := 12) [.int v5, .int v27, .int v8] (cX12_says_ok h28) zvs_X12_says zl_1099 zl_1100 (fX12_says_ck h28) rfl rfl zl_1098 rfl (Nat.le_of_ble_eq_true rfl) (Nat.le_of_ble_eq_true rfl) (Nat.le_of_ble_eq_true rfl) (Nat.le_of_ble_eq_true rfl) dX12_drawDeed_30 rfl ?_
    refine zr_goto 73 dX12_drawDeed_33 (by decide) ?_
    cases hf
    exact zr_lv [] rfl hj10
theorem zl_1260 : Cond.code yX12_drawDeed cX12_drawDeed 3 (none) ∈ zt := zt_at 1932 (by decide +kernel)
theorem zvs_X12_drawDeed : zvS yX12_drawDeed cX12_drawDeed 3 (none) 0 := ⟨zl_1260, zl_893, ⟨by decide +kernel, by decide +kernel, by decide +kernel⟩, by decide⟩
theorem zl_1261 : Cond.methodLink RX12 487 yX12_drawDeed ∈ zt := zt_at 1929 (by decide +kernel)
theorem zl_1262 : Cond.instanceMethod yX12_drawDeed ∈ zt := zt_at 1931 (by decide +kernel)
theorem zl_1263 : Cond.selects RX12 yX12_drawDeed yX12_drawDeed ∈ zt := zt_at 116 (by decide +kernel)
theorem dX12_drawn_0 : decode cX12_drawn 0 = .ok (.aload_n 0, 1) := by decide +kernel
theorem dX12_drawn_1 : decode cX12_drawn 1 = .ok (.iconst 0, 1) := by decide +kernel
theorem dX12_drawn_2 : decode cX12_drawn 2 = .ok (.putfield 93, 3) := by decide +kernel
theorem dX12_drawn_5 : decode cX12_drawn 5 = .ok (.iload_n 3, 1) := by decide +kernel
theorem dX12_drawn_6 : decode cX12_drawn 6 = .ok (.iconst 0, 1) := by decide +kernel
theorem dX12_drawn_7 : decode cX12_drawn 7 = .ok (.bipush 60, 2) := by decide +kernel
theorem dX12_drawn_9 : decode cX12_drawn 9 = .ok (.invokestatic 101, 3) := by decide +kernel
theorem dX12_drawn_12 : decode cX12_drawn 12 = .ok (.ifCond .eq 18, 3) := by decide +kernel
theorem dX12_drawn_15 : decode cX12_drawn 15 = .ok (.aload_n 0, 1) := by decide +kernel
theorem dX12_drawn_16 : decode cX12_drawn 16 = .ok (.iload_n 1, 1) := by decide +kernel
theorem dX12_drawn_17 : decode cX12_drawn 17 = .ok (.invokevirtual 298, 3) := by decide +kernel
theorem dX12_drawn_20 : decode cX12_drawn 20 = .ok (.ifCond .eq 10, 3) := by decide +kernel
theorem dX12_drawn_23 : decode cX12_drawn 23 = .ok (.aload_n 0, 1) := by decide +kernel
theorem dX12_drawn_24 : decode cX12_drawn 24 = .ok (.getfield 276, 3) := by decide +kernel
theorem dX12_drawn_27 : decode cX12_drawn 27 = .ok (.ifCond .ne 6, 3) := by decide +kernel
theorem dX12_drawn_30 : decode cX12_drawn 30 = .ok (.bipush (-2), 2) := by decide +kernel
theorem dX12_drawn_32 : decode cX12_drawn 32 = .ok (.ireturn, 1) := by decide +kernel
theorem dX12_drawn_33 : decode cX12_drawn 33 = .ok (.aload_n 0, 1) := by decide +kernel
theorem dX12_drawn_34 : decode cX12_drawn 34 = .ok (.iload_n 2, 1) := by decide +kernel
theorem dX12_drawn_35 : decode cX12_drawn 35 = .ok (.putfield 480, 3) := by decide +kernel
theorem dX12_drawn_38 : decode cX12_drawn 38 = .ok (.aload_n 0, 1) := by decide +kernel
theorem dX12_drawn_39 : decode cX12_drawn 39 = .ok (.invokevirtual 347, 3) := by decide +kernel
theorem dX12_drawn_42 : decode cX12_drawn 42 = .ok (.iconst 0, 1) := by decide +kernel
theorem dX12_drawn_43 : decode cX12_drawn 43 = .ok (.istore 5, 2) := by decide +kernel
theorem dX12_drawn_45 : decode cX12_drawn 45 = .ok (.iload 5, 2) := by decide +kernel
theorem dX12_drawn_47 : decode cX12_drawn 47 = .ok (.iload_n 3, 1) := by decide +kernel
theorem dX12_drawn_48 : decode cX12_drawn 48 = .ok (.if_icmp .ge 13, 3) := by decide +kernel
theorem dX12_drawn_51 : decode cX12_drawn 51 = .ok (.aload_n 0, 1) := by decide +kernel
theorem dX12_drawn_52 : decode cX12_drawn 52 = .ok (.invokevirtual 487, 3) := by decide +kernel
theorem dX12_drawn_55 : decode cX12_drawn 55 = .ok (.iinc 5 1, 3) := by decide +kernel
theorem dX12_drawn_58 : decode cX12_drawn 58 = .ok (.goto (-13), 3) := by decide +kernel
theorem dX12_drawn_61 : decode cX12_drawn 61 = .ok (.aload_n 0, 1) := by decide +kernel
theorem dX12_drawn_62 : decode cX12_drawn 62 = .ok (.iload 4, 2) := by decide +kernel
theorem dX12_drawn_64 : decode cX12_drawn 64 = .ok (.invokevirtual 377, 3) := by decide +kernel
theorem dX12_drawn_67 : decode cX12_drawn 67 = .ok (.ireturn, 1) := by decide +kernel
noncomputable def fX12_drawn_l45 (x3 : Int32) (x0 : Nat) (F16 : Int32 → zM → Option (zM)) (x5_14 : Int32) (m15 : zM) : Option (zM) :=
  if x3 ≤ x5_14 then (
  some m15)
  else (
  zb1 (fX12_drawDeed m15 x0) fun m21 =>
  F16 (x5_14 + 1) m21)
noncomputable def fX12_drawn (μ : zM) (x0 : Nat) (x1 : Int32) (x2 : Int32) (x3 : Int32) (x4 : Int32) : Option (Int32 × zM) := zgd (zm_ck μ 12 x0) <|
  zb1 (zm_p μ 12 x0 0 (.int 0)) fun m1 =>
  zb1 (fX12_in m1 x3 0 60) fun v4 =>
  if v4 = 0 then (
  some ((-2), m1))
  else (
  zb2 (fX12_hand m1 x0 x1) fun v7 m6 =>
  if v7 = 0 then (
  some ((-2), m6))
  else (
  zb1 (zm_gI m6 12 x0 25) fun v8 =>
  if v8 = 0 then (
  some ((-2), m6))
  else (
  zb1 (zm_p m6 12 x0 49 (.int x2)) fun m10 =>
  zb1 (fX12_begin m10 x0) fun m13 =>
  zb1 (zf2 (fX12_drawn_l45 x3 x0) zfu 0 m13 : Option (zM)) fun (m18 : zM) =>
  zb2 (fX12_ofState m18 x0 x4) fun v25 m24 =>
  some (v25, m24))))
theorem fX12_drawn_ck {μ : zM} {x0 : Nat} {x1 : Int32} {x2 : Int32} {x3 : Int32} {x4 : Int32} {z : Int32 × zM} (h : fX12_drawn μ x0 x1 x2 x3 x4 = some z) : zm_ck μ 12 x0 = true := (zgd_s h).1
set_option maxHeartbeats 4000000 in
set_option maxRecDepth 100000 in
theorem cX12_drawn_ok {μ : zM} {x0 : Nat} {x1 : Int32} {x2 : Int32} {x3 : Int32} {x4 : Int32} {r : Int32} {mo : zM} (hf : fX12_drawn μ x0 x1 x2 x3 x4 = some (r, mo)) : zC yX12_drawn cX12_drawn 6 (some .int) 7 0 0 [.ref x0, .int x1, .int x2, .int x3, .int x4] μ (some (.int r)) mo := by
  replace hf := (zgd_s hf).2
  refine zC.of (by decide) (Nat.le_of_ble_eq_true rfl) (fun K hin => ?_)
  clear hin
  show zz K cX12_drawn (6, RX12, some .int, 7, 0, 0, some (.int r), mo) 0 0 0 [(0, .ref x0), (1, .int x1), (2, .int x2), (3, .int x3), (4, .int x4)] [] μ
  refine zr_aload_n 0 dX12_drawn_0 rfl ?_
  refine zr_iconst 0 dX12_drawn_1 (by decide) ?_
  replace hf := zb1_s hf
  obtain ⟨m1, h2, hf⟩ := hf
  refine zr_put h2 zk12 (by decide) zl_899 rfl rfl rfl dX12_drawn_2 ?_
  refine zr_iload_n 3 dX12_drawn_5 rfl ?_
  refine zr_iconst 0 dX12_drawn_6 (by decide) ?_
  refine zr_bipush 60 dX12_drawn_7 (by decide) ?_
  replace hf := zb1_s hf
  obtain ⟨v4, h3, hf⟩ := hf
  refine zr_callS [.int x3, .int 0, .int 60] (cX12_in_ok h3) zvs_X12_in zl_898 zl_897 rfl (Nat.le_of_ble_eq_true rfl) (Nat.le_of_ble_eq_true rfl) (Nat.le_of_ble_eq_true rfl) (Nat.le_of_ble_eq_true rfl) dX12_drawn_9 rfl ?_
  refine zr_if_eq 30 dX12_drawn_12 (by decide) (fun hc => ?_) (fun hc => ?_)
  · rw [if_pos hc] at hf
    refine zr_bipush (-2) dX12_drawn_30 (by decide) ?_
    cases hf
    exact zr_iret dX12_drawn_32
  · rw [if_neg hc] at hf
    refine zr_aload_n 0 dX12_drawn_15 rfl ?_
    refine zr_iload_n 1 dX12_drawn_16 rfl ?_
    replace hf := zb2_s hf
    obtain ⟨v7, m6, h5, hf⟩ := hf
    refine zr_callV (ci := 12) [.int x1] (cX12_hand_ok h5) zvs_X12_hand zl_1057 zl_1058 (fX12_hand_ck h5) rfl rfl zl_1056 rfl (Nat.le_of_ble_eq_true rfl) (Nat.le_of_ble_eq_true rfl) (Nat.le_of_ble_eq_true rfl) (Nat.le_of_ble_eq_true rfl) dX12_drawn_17 rfl ?_
    refine zr_if_eq 30 dX12_drawn_20 (by decide) (fun hc => ?_) (fun hc => ?_)
    · rw [if_pos hc] at hf
      refine zr_bipush (-2) dX12_drawn_30 (by decide) ?_
      cases hf
      exact zr_iret dX12_drawn_32
    · rw [if_neg hc] at hf
      refine zr_aload_n 0 dX12_drawn_23 rfl ?_
      replace hf := zb1_s hf
      obtain ⟨v8, h9, hf⟩ := hf
      refine zr_get (zm_gI_g h9) zk12 (by decide) zl_1032 dX12_drawn_24 ?_
      refine zr_if_ne 33 dX12_drawn_27 (by decide) (fun hc => ?_) (fun hc => ?_)
      · rw [if_neg hc] at hf
        refine zr_aload_n 0 dX12_drawn_33 rfl ?_
        refine zr_iload_n 2 dX12_drawn_34 rfl ?_
        replace hf := zb1_s hf
        obtain ⟨m10, h11, hf⟩ := hf
        refine zr_put h11 zk12 (by decide) zl_1254 rfl rfl rfl dX12_drawn_35 ?_
        refine zr_aload_n 0 dX12_drawn_38 rfl ?_
        replace hf := zb1_s hf
        obtain ⟨m13, h12, hf⟩ := hf
        refine zr_callV (ci := 12) [] (cX12_begin_ok h12) zvs_X12_begin zl_1111 zl_1112 (fX12_begin_ck h12) rfl rfl zl_1110 rfl (Nat.le_of_ble_eq_true rfl) (Nat.le_of_ble_eq_true rfl) (Nat.le_of_ble_eq_true rfl) (Nat.le_of_ble_eq_true rfl) dX12_drawn_39 rfl ?_
        refine zr_iconst 0 dX12_drawn_42 (by decide) ?_
        refine zr_istore [(5, .int 0), (0, .ref x0), (1, .int x1), (2, .int x2), (3, .int x3), (4, .int x4)] dX12_drawn_43 (Nat.le_of_ble_eq_true rfl) rfl ?_
        replace hf := zb1_s hf
        obtain ⟨m18, hg, hf⟩ := hf
        have hj19 : zz K cX12_drawn (6, RX12, some .int, 7, 0, 0, some (.int r), mo) 0 0 61 [(0, .ref x0), (4, .int x4)] [] m18 := by
          refine zr_aload_n 0 dX12_drawn_61 rfl ?_
          refine zr_iload 1 dX12_drawn_62 rfl ?_
          replace hf := zb2_s hf
          obtain ⟨v25, m24, h23, hf⟩ := hf
          refine zr_callV (ci := 12) [.int x4] (cX12_ofState_ok h23) zvs_X12_ofState zl_1142 zl_1143 (fX12_ofState_ck h23) rfl rfl zl_1141 rfl (Nat.le_of_ble_eq_true rfl) (Nat.le_of_ble_eq_true rfl) (Nat.le_of_ble_eq_true rfl) (Nat.le_of_ble_eq_true rfl) dX12_drawn_64 rfl ?_
          cases hf
          exact zr_iret dX12_drawn_67
        clear hf
        have hf := hg
        clear hg
        have hL22 : ∀ (n : Nat) (x5_14 : Int32) (m15 : zM), zf2 (fX12_drawn_l45 x3 x0) n x5_14 m15 = some m18 → zz K cX12_drawn (6, RX12, some .int, 7, 0, 0, some (.int r), mo) 0 0 45 [(0, .ref x0), (3, .int x3), (4, .int x4), (5, .int x5_14)] [] m15 := by
          intro n
          induction n with
          | zero => intro x5_14 m15 hf; cases hf
          | succ n ih17 =>
            intro x5_14 m15 hf
            replace hf := zf2_s hf
            generalize zf2 (fX12_drawn_l45 x3 x0) n = F16 at hf ih17
            unfold fX12_drawn_l45 at hf
            refine zr_iload 3 dX12_drawn_45 rfl ?_
            refine zr_iload_n 1 dX12_drawn_47 rfl ?_
            refine zr_icmp_ge 61 dX12_drawn_48 (by decide) (fun hc => ?_) (fun hc => ?_)
            · rw [if_pos hc] at hf
              cases hf
              exact zr_lv [0, 2] rfl hj19
            · rw [if_neg hc] at hf
              refine zr_aload_n 0 dX12_drawn_51 rfl ?_
              replace hf := zb1_s hf
              obtain ⟨m21, h20, hf⟩ := hf
              refine zr_callV (ci := 12) [] (cX12_drawDeed_ok h20) zvs_X12_drawDeed zl_1262 zl_1263 (fX12_drawDeed_ck h20) rfl rfl zl_1261 rfl (Nat.le_of_ble_eq_true rfl) (Nat.le_of_ble_eq_true rfl) (Nat.le_of_ble_eq_true rfl) (Nat.le_of_ble_eq_true rfl) dX12_drawn_52 rfl ?_
              refine zr_iinc (j := 3) (x5_14 + 1) [(5, .int (x5_14 + 1)), (0, .ref x0), (3, .int x3), (4, .int x4)] dX12_drawn_55 rfl rfl (Nat.le_of_ble_eq_true rfl) rfl ?_
              refine zr_goto 45 dX12_drawn_58 (by decide) ?_
              exact zr_lv [1, 2, 3, 0] rfl (ih17 (x5_14 + 1) m21 hf)
        exact zr_lv [1, 4, 5, 0] rfl (hL22 _ 0 m13 hf)
      · rw [if_pos hc] at hf
        refine zr_bipush (-2) dX12_drawn_30 (by decide) ?_
        cases hf
        exact zr_iret dX12_drawn_32
theorem dX12_ringOf_0 : decode cX12_ringOf 0 = .ok (.aload_n 0, 1) := by decide +kernel
theorem dX12_ringOf_1 : decode cX12_ringOf 1 = .ok (.iconst 3, 1) := by decide +kernel
theorem dX12_ringOf_2 : decode cX12_ringOf 2 = .ok (.iload_n 1, 1) := by decide +kernel
theorem dX12_ringOf_3 : decode cX12_ringOf 3 = .ok (.iadd, 1) := by decide +kernel
theorem dX12_ringOf_4 : decode cX12_ringOf 4 = .ok (.invokevirtual 269, 3) := by decide +kernel
theorem dX12_ringOf_7 : decode cX12_ringOf 7 = .ok (.istore_n 2, 1) := by decide +kernel
theorem dX12_ringOf_8 : decode cX12_ringOf 8 = .ok (.iconst 1, 1) := by decide +kernel
theorem dX12_ringOf_9 : decode cX12_ringOf 9 = .ok (.istore_n 3, 1) := by decide +kernel
theorem dX12_ringOf_10 : decode cX12_ringOf 10 = .ok (.iload_n 2, 1) := by decide +kernel
theorem dX12_ringOf_11 : decode cX12_ringOf 11 = .ok (.iload_n 1, 1) := by decide +kernel
theorem dX12_ringOf_12 : decode cX12_ringOf 12 = .ok (.if_icmp .eq 23, 3) := by decide +kernel
theorem dX12_ringOf_15 : decode cX12_ringOf 15 = .ok (.iload_n 3, 1) := by decide +kernel
theorem dX12_ringOf_16 : decode cX12_ringOf 16 = .ok (.bipush 8, 2) := by decide +kernel
theorem dX12_ringOf_18 : decode cX12_ringOf 18 = .ok (.if_icmp .ge 17, 3) := by decide +kernel
theorem dX12_ringOf_21 : decode cX12_ringOf 21 = .ok (.aload_n 0, 1) := by decide +kernel
theorem dX12_ringOf_22 : decode cX12_ringOf 22 = .ok (.iconst 3, 1) := by decide +kernel
theorem dX12_ringOf_23 : decode cX12_ringOf 23 = .ok (.iload_n 2, 1) := by decide +kernel
theorem dX12_ringOf_24 : decode cX12_ringOf 24 = .ok (.iadd, 1) := by decide +kernel
theorem dX12_ringOf_25 : decode cX12_ringOf 25 = .ok (.invokevirtual 269, 3) := by decide +kernel
theorem dX12_ringOf_28 : decode cX12_ringOf 28 = .ok (.istore_n 2, 1) := by decide +kernel
theorem dX12_ringOf_29 : decode cX12_ringOf 29 = .ok (.iinc 3 1, 3) := by decide +kernel
theorem dX12_ringOf_32 : decode cX12_ringOf 32 = .ok (.goto (-22), 3) := by decide +kernel
theorem dX12_ringOf_35 : decode cX12_ringOf 35 = .ok (.iload_n 2, 1) := by decide +kernel
theorem dX12_ringOf_36 : decode cX12_ringOf 36 = .ok (.iload_n 1, 1) := by decide +kernel
theorem dX12_ringOf_37 : decode cX12_ringOf 37 = .ok (.if_icmp .ne 7, 3) := by decide +kernel
theorem dX12_ringOf_40 : decode cX12_ringOf 40 = .ok (.iload_n 3, 1) := by decide +kernel
theorem dX12_ringOf_41 : decode cX12_ringOf 41 = .ok (.goto 4, 3) := by decide +kernel
theorem dX12_ringOf_44 : decode cX12_ringOf 44 = .ok (.iconst 0, 1) := by decide +kernel
theorem dX12_ringOf_45 : decode cX12_ringOf 45 = .ok (.ireturn, 1) := by decide +kernel
noncomputable def fX12_ringOf_l10 (x1 : Int32) (μ : zM) (x0 : Nat) (F5 : Int32 → Int32 → Option (Int32 × Int32)) (x2_3 : Int32) (x3_4 : Int32) : Option (Int32 × Int32) :=
  if x2_3 = x1 then (
  some (x2_3, x3_4))
  else (
  if 8 ≤ x3_4 then (
  some (x2_3, x3_4))
  else (
  zb1 (fX12_of μ x0 (3 + x2_3)) fun v11 =>
  F5 v11 (x3_4 + 1)))
noncomputable def fX12_ringOf (μ : zM) (x0 : Nat) (x1 : Int32) : Option (Int32) := zgd (zm_ck μ 12 x0) <|
  zb1 (fX12_of μ x0 (3 + x1)) fun v2 =>
  zb2 (zf2 (fX12_ringOf_l10 x1 μ x0) zfu v2 1 : Option (Int32 × Int32)) fun (x2_7 : Int32) (x3_8 : Int32) =>
  zb1 (if x2_7 = x1 then (
  some x3_8)
  else (
  some 0) : Option (Int32)) fun (s13 : Int32) =>
  some s13
theorem fX12_ringOf_ck {μ : zM} {x0 : Nat} {x1 : Int32} {z : Int32} (h : fX12_ringOf μ x0 x1 = some z) : zm_ck μ 12 x0 = true := (zgd_s h).1
set_option maxHeartbeats 4000000 in
set_option maxRecDepth 100000 in
theorem cX12_ringOf_ok {μ : zM} {x0 : Nat} {x1 : Int32} {r : Int32} (hf : fX12_ringOf μ x0 x1 = some r) : zC yX12_ringOf cX12_ringOf 4 (some .int) 1 0 0 [.ref x0, .int x1] μ (some (.int r)) μ := by
  replace hf := (zgd_s hf).2
  refine zC.of (by decide) (Nat.le_of_ble_eq_true rfl) (fun K hin => ?_)
  clear hin
  show zz K cX12_ringOf (4, RX12, some .int, 1, 0, 0, some (.int r), μ) 0 0 0 [(0, .ref x0), (1, .int x1)] [] μ
  refine zr_aload_n 0 dX12_ringOf_0 rfl ?_
  refine zr_iconst 3 dX12_ringOf_1 (by decide) ?_
  refine zr_iload_n 1 dX12_ringOf_2 rfl ?_
  refine zr_iadd dX12_ringOf_3 ?_
  replace hf := zb1_s hf
  obtain ⟨v2, h1, hf⟩ := hf
  refine zr_callV (ci := 12) [.int (3 + x1)] (cX12_of_ok h1) zvs_X12_of zl_1029 zl_1030 (fX12_of_ck h1) rfl rfl zl_1028 rfl (Nat.le_of_ble_eq_true rfl) (Nat.le_of_ble_eq_true rfl) (Nat.le_of_ble_eq_true rfl) (Nat.le_of_ble_eq_true rfl) dX12_ringOf_4 rfl ?_
  refine zr_istore_n [(2, .int v2), (0, .ref x0), (1, .int x1)] dX12_ringOf_7 (Nat.le_of_ble_eq_true rfl) rfl ?_
  refine zr_iconst 1 dX12_ringOf_8 (by decide) ?_
  refine zr_istore_n [(3, .int 1), (2, .int v2), (0, .ref x0), (1, .int x1)] dX12_ringOf_9 (Nat.le_of_ble_eq_true rfl) rfl ?_
  replace hf := zb2_s hf
  obtain ⟨x2_7, x3_8, hg, hf⟩ := hf
  have hj9 : zz K cX12_ringOf (4, RX12, some .int, 1, 0, 0, some (.int r), μ) 0 0 35 [(1, .int x1), (2, .int x2_7), (3, .int x3_8)] [] μ := by
    refine zr_iload_n 1 dX12_ringOf_35 rfl ?_
    refine zr_iload_n 0 dX12_ringOf_36 rfl ?_
    replace hf := zb1_s hf
    obtain ⟨s13, hg, hf⟩ := hf
    have hj14 : zz K cX12_ringOf (4, RX12, some .int, 1, 0, 0, some (.int r), μ) 0 0 45 [] [.int s13] μ := by
      cases hf
      exact zr_iret dX12_ringOf_45
    clear hf
    have hf := hg
    clear hg
    refine zr_icmp_ne 44 dX12_ringOf_37 (by decide) (fun hc => ?_) (fun hc => ?_)
    · rw [if_neg hc] at hf
      refine zr_iconst 0 dX12_ringOf_44 (by decide) ?_
      cases hf
      exact zr_lv [] rfl hj14
    · rw [if_pos hc] at hf
      refine zr_iload_n 2 dX12_ringOf_40 rfl ?_
      refine zr_goto 45 dX12_ringOf_41 (by decide) ?_
      cases hf
      exact zr_lv [] rfl hj14
  clear hf
  have hf := hg
  clear hg
  have hL12 : ∀ (n : Nat) (x2_3 : Int32) (x3_4 : Int32), zf2 (fX12_ringOf_l10 x1 μ x0) n x2_3 x3_4 = some (x2_7, x3_8) → zz K cX12_ringOf (4, RX12, some .int, 1, 0, 0, some (.int r), μ) 0 0 10 [(0, .ref x0), (1, .int x1), (2, .int x2_3), (3, .int x3_4)] [] μ := by
    intro n
    induction n with
    | zero => intro x2_3 x3_4 hf; cases hf
    | succ n ih6 =>
      intro x2_3 x3_4 hf
      replace hf := zf2_s hf
      generalize zf2 (fX12_ringOf_l10 x1 μ x0) n = F5 at hf ih6
      unfold fX12_ringOf_l10 at hf
      refine zr_iload_n 2 dX12_ringOf_10 rfl ?_
      refine zr_iload_n 1 dX12_ringOf_11 rfl ?_
      refine zr_icmp_eq 35 dX12_ringOf_12 (by decide) (fun hc => ?_) (fun hc => ?_)
      · rw [if_pos hc] at hf
        cases hf
        exact zr_lv [1, 2, 3] rfl hj9
      · rw [if_neg hc] at hf
        refine zr_iload_n 3 dX12_ringOf_15 rfl ?_
        refine zr_bipush 8 dX12_ringOf_16 (by decide) ?_
        refine zr_icmp_ge 35 dX12_ringOf_18 (by decide) (fun hc => ?_) (fun hc => ?_)
        · rw [if_pos hc] at hf
          cases hf
          exact zr_lv [1, 2, 3] rfl hj9
        · rw [if_neg hc] at hf
          refine zr_aload_n 0 dX12_ringOf_21 rfl ?_
          refine zr_iconst 3 dX12_ringOf_22 (by decide) ?_
          refine zr_iload_n 2 dX12_ringOf_23 rfl ?_
          refine zr_iadd dX12_ringOf_24 ?_
          replace hf := zb1_s hf
          obtain ⟨v11, h10, hf⟩ := hf
          refine zr_callV (ci := 12) [.int (3 + x2_3)] (cX12_of_ok h10) zvs_X12_of zl_1029 zl_1030 (fX12_of_ck h10) rfl rfl zl_1028 rfl (Nat.le_of_ble_eq_true rfl) (Nat.le_of_ble_eq_true rfl) (Nat.le_of_ble_eq_true rfl) (Nat.le_of_ble_eq_true rfl) dX12_ringOf_25 rfl ?_
          refine zr_istore_n [(2, .int v11), (0, .ref x0), (1, .int x1), (3, .int x3_4)] dX12_ringOf_28 (Nat.le_of_ble_eq_true rfl) rfl ?_
          refine zr_iinc (j := 3) (x3_4 + 1) [(3, .int (x3_4 + 1)), (2, .int v11), (0, .ref x0), (1, .int x1)] dX12_ringOf_29 rfl rfl (Nat.le_of_ble_eq_true rfl) rfl ?_
          refine zr_goto 10 dX12_ringOf_32 (by decide) ?_
          exact zr_lv [2, 3, 1, 0] rfl (ih6 v11 (x3_4 + 1) hf)
  exact zr_lv [2, 3, 1, 0] rfl (hL12 _ v2 1 hf)
theorem dX12_isFirst_0 : decode cX12_isFirst 0 = .ok (.aload_n 0, 1) := by decide +kernel
theorem dX12_isFirst_1 : decode cX12_isFirst 1 = .ok (.iconst 3, 1) := by decide +kernel
theorem dX12_isFirst_2 : decode cX12_isFirst 2 = .ok (.iload_n 1, 1) := by decide +kernel
theorem dX12_isFirst_3 : decode cX12_isFirst 3 = .ok (.iadd, 1) := by decide +kernel
theorem dX12_isFirst_4 : decode cX12_isFirst 4 = .ok (.invokevirtual 269, 3) := by decide +kernel
theorem dX12_isFirst_7 : decode cX12_isFirst 7 = .ok (.istore_n 2, 1) := by decide +kernel
theorem dX12_isFirst_8 : decode cX12_isFirst 8 = .ok (.iload_n 2, 1) := by decide +kernel
theorem dX12_isFirst_9 : decode cX12_isFirst 9 = .ok (.iload_n 1, 1) := by decide +kernel
theorem dX12_isFirst_10 : decode cX12_isFirst 10 = .ok (.if_icmp .eq 21, 3) := by decide +kernel
theorem dX12_isFirst_13 : decode cX12_isFirst 13 = .ok (.iload_n 2, 1) := by decide +kernel
theorem dX12_isFirst_14 : decode cX12_isFirst 14 = .ok (.iload_n 1, 1) := by decide +kernel
theorem dX12_isFirst_15 : decode cX12_isFirst 15 = .ok (.if_icmp .ge 5, 3) := by decide +kernel
theorem dX12_isFirst_18 : decode cX12_isFirst 18 = .ok (.iconst 0, 1) := by decide +kernel
theorem dX12_isFirst_19 : decode cX12_isFirst 19 = .ok (.ireturn, 1) := by decide +kernel
theorem dX12_isFirst_20 : decode cX12_isFirst 20 = .ok (.aload_n 0, 1) := by decide +kernel
theorem dX12_isFirst_21 : decode cX12_isFirst 21 = .ok (.iconst 3, 1) := by decide +kernel
theorem dX12_isFirst_22 : decode cX12_isFirst 22 = .ok (.iload_n 2, 1) := by decide +kernel
theorem dX12_isFirst_23 : decode cX12_isFirst 23 = .ok (.iadd, 1) := by decide +kernel
theorem dX12_isFirst_24 : decode cX12_isFirst 24 = .ok (.invokevirtual 269, 3) := by decide +kernel
theorem dX12_isFirst_27 : decode cX12_isFirst 27 = .ok (.istore_n 2, 1) := by decide +kernel
theorem dX12_isFirst_28 : decode cX12_isFirst 28 = .ok (.goto (-20), 3) := by decide +kernel
theorem dX12_isFirst_31 : decode cX12_isFirst 31 = .ok (.iconst 1, 1) := by decide +kernel
theorem dX12_isFirst_32 : decode cX12_isFirst 32 = .ok (.ireturn, 1) := by decide +kernel
noncomputable def fX12_isFirst_l8 (x1 : Int32) (μ : zM) (x0 : Nat) (F4 : Int32 → Option (Int32)) (x2_3 : Int32) : Option (Int32) :=
  if x2_3 = x1 then (
  some 1)
  else (
  if x1 ≤ x2_3 then (
  zb1 (fX12_of μ x0 (3 + x2_3)) fun v7 =>
  F4 v7)
  else (
  some 0))
noncomputable def fX12_isFirst (μ : zM) (x0 : Nat) (x1 : Int32) : Option (Int32) := zgd (zm_ck μ 12 x0) <|
  zb1 (fX12_of μ x0 (3 + x1)) fun v2 =>
  zf1 (fX12_isFirst_l8 x1 μ x0) zfu v2
theorem fX12_isFirst_ck {μ : zM} {x0 : Nat} {x1 : Int32} {z : Int32} (h : fX12_isFirst μ x0 x1 = some z) : zm_ck μ 12 x0 = true := (zgd_s h).1
set_option maxHeartbeats 4000000 in
set_option maxRecDepth 100000 in
theorem cX12_isFirst_ok {μ : zM} {x0 : Nat} {x1 : Int32} {r : Int32} (hf : fX12_isFirst μ x0 x1 = some r) : zC yX12_isFirst cX12_isFirst 3 (some .boolean) 1 0 0 [.ref x0, .int x1] μ (some (.int r)) μ := by
  replace hf := (zgd_s hf).2
  refine zC.of (by decide) (Nat.le_of_ble_eq_true rfl) (fun K hin => ?_)
  clear hin
  show zz K cX12_isFirst (3, RX12, some .boolean, 1, 0, 0, some (.int r), μ) 0 0 0 [(0, .ref x0), (1, .int x1)] [] μ
  refine zr_aload_n 0 dX12_isFirst_0 rfl ?_
  refine zr_iconst 3 dX12_isFirst_1 (by decide) ?_
  refine zr_iload_n 1 dX12_isFirst_2 rfl ?_
  refine zr_iadd dX12_isFirst_3 ?_
  replace hf := zb1_s hf
  obtain ⟨v2, h1, hf⟩ := hf
  refine zr_callV (ci := 12) [.int (3 + x1)] (cX12_of_ok h1) zvs_X12_of zl_1029 zl_1030 (fX12_of_ck h1) rfl rfl zl_1028 rfl (Nat.le_of_ble_eq_true rfl) (Nat.le_of_ble_eq_true rfl) (Nat.le_of_ble_eq_true rfl) (Nat.le_of_ble_eq_true rfl) dX12_isFirst_4 rfl ?_
  refine zr_istore_n [(2, .int v2), (0, .ref x0), (1, .int x1)] dX12_isFirst_7 (Nat.le_of_ble_eq_true rfl) rfl ?_
  have hL8 : ∀ (n : Nat) (x2_3 : Int32), zf1 (fX12_isFirst_l8 x1 μ x0) n x2_3 = some r → zz K cX12_isFirst (3, RX12, some .boolean, 1, 0, 0, some (.int r), μ) 0 0 8 [(0, .ref x0), (1, .int x1), (2, .int x2_3)] [] μ := by
    intro n
    induction n with
    | zero => intro x2_3 hf; cases hf
    | succ n ih5 =>
      intro x2_3 hf
      replace hf := zf1_s hf
      generalize zf1 (fX12_isFirst_l8 x1 μ x0) n = F4 at hf ih5
      unfold fX12_isFirst_l8 at hf
      refine zr_iload_n 2 dX12_isFirst_8 rfl ?_
      refine zr_iload_n 1 dX12_isFirst_9 rfl ?_
      refine zr_icmp_eq 31 dX12_isFirst_10 (by decide) (fun hc => ?_) (fun hc => ?_)
      · rw [if_pos hc] at hf
        refine zr_iconst 1 dX12_isFirst_31 (by decide) ?_
        cases hf
        exact zr_zret rfl dX12_isFirst_32
      · rw [if_neg hc] at hf
        refine zr_iload_n 2 dX12_isFirst_13 rfl ?_
        refine zr_iload_n 1 dX12_isFirst_14 rfl ?_
        refine zr_icmp_ge 20 dX12_isFirst_15 (by decide) (fun hc => ?_) (fun hc => ?_)
        · rw [if_pos hc] at hf
          refine zr_aload_n 0 dX12_isFirst_20 rfl ?_
          refine zr_iconst 3 dX12_isFirst_21 (by decide) ?_
          refine zr_iload_n 2 dX12_isFirst_22 rfl ?_
          refine zr_iadd dX12_isFirst_23 ?_
          replace hf := zb1_s hf
          obtain ⟨v7, h6, hf⟩ := hf
          refine zr_callV (ci := 12) [.int (3 + x2_3)] (cX12_of_ok h6) zvs_X12_of zl_1029 zl_1030 (fX12_of_ck h6) rfl rfl zl_1028 rfl (Nat.le_of_ble_eq_true rfl) (Nat.le_of_ble_eq_true rfl) (Nat.le_of_ble_eq_true rfl) (Nat.le_of_ble_eq_true rfl) dX12_isFirst_24 rfl ?_
          refine zr_istore_n [(2, .int v7), (0, .ref x0), (1, .int x1)] dX12_isFirst_27 (Nat.le_of_ble_eq_true rfl) rfl ?_
          refine zr_goto 8 dX12_isFirst_28 (by decide) ?_
          exact zr_lv [1, 2, 0] rfl (ih5 v7 hf)
        · rw [if_neg hc] at hf
          refine zr_iconst 0 dX12_isFirst_18 (by decide) ?_
          cases hf
          exact zr_zret rfl dX12_isFirst_19
  exact zr_lv [1, 2, 0] rfl (hL8 _ v2 hf)
theorem zl_1264 : Cond.code yX12_ringOf cX12_ringOf 4 (some .int) ∈ zt := zt_at 1945 (by decide +kernel)
theorem zvs_X12_ringOf : zvS yX12_ringOf cX12_ringOf 4 (some .int) 1 := ⟨zl_1264, zl_893, ⟨by decide +kernel, by decide +kernel, by decide +kernel⟩, by decide⟩
theorem zl_1265 : Cond.methodLink RX12 490 yX12_ringOf ∈ zt := zt_at 1942 (by decide +kernel)
theorem zl_1266 : Cond.instanceMethod yX12_ringOf ∈ zt := zt_at 1944 (by decide +kernel)
theorem zl_1267 : Cond.selects RX12 yX12_ringOf yX12_ringOf ∈ zt := zt_at 118 (by decide +kernel)
theorem zl_1268 : Cond.code yX12_isFirst cX12_isFirst 3 (some .boolean) ∈ zt := zt_at 1949 (by decide +kernel)
theorem zvs_X12_isFirst : zvS yX12_isFirst cX12_isFirst 3 (some .boolean) 1 := ⟨zl_1268, zl_893, ⟨by decide +kernel, by decide +kernel, by decide +kernel⟩, by decide⟩
theorem zl_1269 : Cond.methodLink RX12 493 yX12_isFirst ∈ zt := zt_at 1946 (by decide +kernel)
theorem zl_1270 : Cond.instanceMethod yX12_isFirst ∈ zt := zt_at 1948 (by decide +kernel)
theorem zl_1271 : Cond.selects RX12 yX12_isFirst yX12_isFirst ∈ zt := zt_at 119 (by decide +kernel)
theorem dX12_rings_0 : decode cX12_rings 0 = .ok (.aload_n 0, 1) := by decide +kernel
theorem dX12_rings_1 : decode cX12_rings 1 = .ok (.iconst 0, 1) := by decide +kernel
theorem dX12_rings_2 : decode cX12_rings 2 = .ok (.putfield 93, 3) := by decide +kernel
theorem dX12_rings_5 : decode cX12_rings 5 = .ok (.aload_n 0, 1) := by decide +kernel
theorem dX12_rings_6 : decode cX12_rings 6 = .ok (.iload_n 1, 1) := by decide +kernel
theorem dX12_rings_7 : decode cX12_rings 7 = .ok (.invokevirtual 298, 3) := by decide +kernel
theorem dX12_rings_10 : decode cX12_rings 10 = .ok (.ifCond .eq 12, 3) := by decide +kernel
theorem dX12_rings_13 : decode cX12_rings 13 = .ok (.iload_n 2, 1) := by decide +kernel
theorem dX12_rings_14 : decode cX12_rings 14 = .ok (.iconst 0, 1) := by decide +kernel
theorem dX12_rings_15 : decode cX12_rings 15 = .ok (.iconst 2, 1) := by decide +kernel
theorem dX12_rings_16 : decode cX12_rings 16 = .ok (.invokestatic 101, 3) := by decide +kernel
theorem dX12_rings_19 : decode cX12_rings 19 = .ok (.ifCond .ne 5, 3) := by decide +kernel
theorem dX12_rings_22 : decode cX12_rings 22 = .ok (.iconst (-1), 1) := by decide +kernel
theorem dX12_rings_23 : decode cX12_rings 23 = .ok (.ireturn, 1) := by decide +kernel
theorem dX12_rings_24 : decode cX12_rings 24 = .ok (.iconst 0, 1) := by decide +kernel
theorem dX12_rings_25 : decode cX12_rings 25 = .ok (.istore_n 3, 1) := by decide +kernel
theorem dX12_rings_26 : decode cX12_rings 26 = .ok (.iconst 0, 1) := by decide +kernel
theorem dX12_rings_27 : decode cX12_rings 27 = .ok (.istore 4, 2) := by decide +kernel
theorem dX12_rings_29 : decode cX12_rings 29 = .ok (.iconst 0, 1) := by decide +kernel
theorem dX12_rings_30 : decode cX12_rings 30 = .ok (.istore 5, 2) := by decide +kernel
theorem dX12_rings_32 : decode cX12_rings 32 = .ok (.iconst 0, 1) := by decide +kernel
theorem dX12_rings_33 : decode cX12_rings 33 = .ok (.istore 6, 2) := by decide +kernel
theorem dX12_rings_35 : decode cX12_rings 35 = .ok (.iload 6, 2) := by decide +kernel
theorem dX12_rings_37 : decode cX12_rings 37 = .ok (.bipush 8, 2) := by decide +kernel
theorem dX12_rings_39 : decode cX12_rings 39 = .ok (.if_icmp .ge 66, 3) := by decide +kernel
theorem dX12_rings_42 : decode cX12_rings 42 = .ok (.aload_n 0, 1) := by decide +kernel
theorem dX12_rings_43 : decode cX12_rings 43 = .ok (.iload 6, 2) := by decide +kernel
theorem dX12_rings_45 : decode cX12_rings 45 = .ok (.invokevirtual 490, 3) := by decide +kernel
theorem dX12_rings_48 : decode cX12_rings 48 = .ok (.istore 7, 2) := by decide +kernel
theorem dX12_rings_50 : decode cX12_rings 50 = .ok (.iload_n 3, 1) := by decide +kernel
theorem dX12_rings_51 : decode cX12_rings 51 = .ok (.iload 7, 2) := by decide +kernel
theorem dX12_rings_53 : decode cX12_rings 53 = .ok (.ifCond .le 16, 3) := by decide +kernel
theorem dX12_rings_56 : decode cX12_rings 56 = .ok (.aload_n 0, 1) := by decide +kernel
theorem dX12_rings_57 : decode cX12_rings 57 = .ok (.iload 6, 2) := by decide +kernel
theorem dX12_rings_59 : decode cX12_rings 59 = .ok (.invokevirtual 493, 3) := by decide +kernel
theorem dX12_rings_62 : decode cX12_rings 62 = .ok (.ifCond .eq 7, 3) := by decide +kernel
theorem dX12_rings_65 : decode cX12_rings 65 = .ok (.iconst 1, 1) := by decide +kernel
theorem dX12_rings_66 : decode cX12_rings 66 = .ok (.goto 4, 3) := by decide +kernel
theorem dX12_rings_69 : decode cX12_rings 69 = .ok (.iconst 0, 1) := by decide +kernel
theorem dX12_rings_70 : decode cX12_rings 70 = .ok (.iadd, 1) := by decide +kernel
theorem dX12_rings_71 : decode cX12_rings 71 = .ok (.istore_n 3, 1) := by decide +kernel
theorem dX12_rings_72 : decode cX12_rings 72 = .ok (.iload 4, 2) := by decide +kernel
theorem dX12_rings_74 : decode cX12_rings 74 = .ok (.iload 7, 2) := by decide +kernel
theorem dX12_rings_76 : decode cX12_rings 76 = .ok (.invokestatic 168, 3) := by decide +kernel
theorem dX12_rings_79 : decode cX12_rings 79 = .ok (.istore 4, 2) := by decide +kernel
theorem dX12_rings_81 : decode cX12_rings 81 = .ok (.iload 5, 2) := by decide +kernel
theorem dX12_rings_83 : decode cX12_rings 83 = .ok (.iload 7, 2) := by decide +kernel
theorem dX12_rings_85 : decode cX12_rings 85 = .ok (.ifCond .le 10, 3) := by decide +kernel
theorem dX12_rings_88 : decode cX12_rings 88 = .ok (.iconst 1, 1) := by decide +kernel
theorem dX12_rings_89 : decode cX12_rings 89 = .ok (.iload 6, 2) := by decide +kernel
theorem dX12_rings_91 : decode cX12_rings 91 = .ok (.ishl, 1) := by decide +kernel
theorem dX12_rings_92 : decode cX12_rings 92 = .ok (.goto 4, 3) := by decide +kernel
theorem dX12_rings_95 : decode cX12_rings 95 = .ok (.iconst 0, 1) := by decide +kernel
theorem dX12_rings_96 : decode cX12_rings 96 = .ok (.ior, 1) := by decide +kernel
theorem dX12_rings_97 : decode cX12_rings 97 = .ok (.istore 5, 2) := by decide +kernel
theorem dX12_rings_99 : decode cX12_rings 99 = .ok (.iinc 6 1, 3) := by decide +kernel
theorem dX12_rings_102 : decode cX12_rings 102 = .ok (.goto (-67), 3) := by decide +kernel
theorem dX12_rings_105 : decode cX12_rings 105 = .ok (.iload_n 2, 1) := by decide +kernel
theorem dX12_rings_106 : decode cX12_rings 106 = .ok (.ifCond .ne 7, 3) := by decide +kernel
theorem dX12_rings_109 : decode cX12_rings 109 = .ok (.iload_n 3, 1) := by decide +kernel
theorem dX12_rings_110 : decode cX12_rings 110 = .ok (.goto 15, 3) := by decide +kernel
theorem dX12_rings_113 : decode cX12_rings 113 = .ok (.iload_n 2, 1) := by decide +kernel
theorem dX12_rings_114 : decode cX12_rings 114 = .ok (.iconst 1, 1) := by decide +kernel
theorem dX12_rings_115 : decode cX12_rings 115 = .ok (.if_icmp .ne 8, 3) := by decide +kernel
theorem dX12_rings_118 : decode cX12_rings 118 = .ok (.iload 4, 2) := by decide +kernel
theorem dX12_rings_120 : decode cX12_rings 120 = .ok (.goto 5, 3) := by decide +kernel
theorem dX12_rings_123 : decode cX12_rings 123 = .ok (.iload 5, 2) := by decide +kernel
theorem dX12_rings_125 : decode cX12_rings 125 = .ok (.ireturn, 1) := by decide +kernel
noncomputable def fX12_rings_b69  : Option (Int32) :=
  some 0
noncomputable def fX12_rings_l35 (m4 : zM) (x0 : Nat) (F12 : Int32 → Int32 → Int32 → Int32 → Option (Int32 × Int32 × Int32)) (x3_8 : Int32) (x4_9 : Int32) (x5_10 : Int32) (x6_11 : Int32) : Option (Int32 × Int32 × Int32) :=
  if 8 ≤ x6_11 then (
  some (x3_8, x4_9, x5_10))
  else (
  zb1 (fX12_ringOf m4 x0 x6_11) fun v19 =>
  zb1 (if v19 ≤ 0 then (
  fX12_rings_b69)
  else (
  zb1 (fX12_isFirst m4 x0 x6_11) fun v28 =>
  if v28 = 0 then (
  fX12_rings_b69)
  else (
  some 1)) : Option (Int32)) fun (s20 : Int32) =>
  zb1 (fX12_greater m4 x4_9 v19) fun v24 =>
  zb1 (if v19 ≤ 0 then (
  some 0)
  else (
  some (1 <<< (x6_11 &&& 31))) : Option (Int32)) fun (s25 : Int32) =>
  F12 (x3_8 + s20) v24 (x5_10 ||| s25) (x6_11 + 1))
noncomputable def fX12_rings (μ : zM) (x0 : Nat) (x1 : Int32) (x2 : Int32) : Option (Int32 × zM) := zgd (zm_ck μ 12 x0) <|
  zb1 (zm_p μ 12 x0 0 (.int 0)) fun m1 =>
  zb2 (fX12_hand m1 x0 x1) fun v5 m4 =>
  if v5 = 0 then (
  some ((-1), m4))
  else (
  zb1 (fX12_in m4 x2 0 2) fun v7 =>
  if v7 = 0 then (
  some ((-1), m4))
  else (
  zb3 (zf4 (fX12_rings_l35 m4 x0) zfu 0 0 0 0 : Option (Int32 × Int32 × Int32)) fun (x3_14 : Int32) (x4_15 : Int32) (x5_16 : Int32) =>
  zb1 (if x2 = 0 then (
  some x3_14)
  else (
  if x2 = 1 then (
  some x4_15)
  else (
  some x5_16)) : Option (Int32)) fun (s30 : Int32) =>
  some (s30, m4)))
theorem fX12_rings_ck {μ : zM} {x0 : Nat} {x1 : Int32} {x2 : Int32} {z : Int32 × zM} (h : fX12_rings μ x0 x1 x2 = some z) : zm_ck μ 12 x0 = true := (zgd_s h).1
set_option maxHeartbeats 4000000 in
set_option maxRecDepth 100000 in
theorem cX12_rings_ok {μ : zM} {x0 : Nat} {x1 : Int32} {x2 : Int32} {r : Int32} {mo : zM} (hf : fX12_rings μ x0 x1 x2 = some (r, mo)) : zC yX12_rings cX12_rings 8 (some .int) 3 0 0 [.ref x0, .int x1, .int x2] μ (some (.int r)) mo := by
  replace hf := (zgd_s hf).2
  refine zC.of (by decide) (Nat.le_of_ble_eq_true rfl) (fun K hin => ?_)
  clear hin
  show zz K cX12_rings (8, RX12, some .int, 3, 0, 0, some (.int r), mo) 0 0 0 [(0, .ref x0), (1, .int x1), (2, .int x2)] [] μ
  refine zr_aload_n 0 dX12_rings_0 rfl ?_
  refine zr_iconst 0 dX12_rings_1 (by decide) ?_
  replace hf := zb1_s hf
  obtain ⟨m1, h2, hf⟩ := hf
  refine zr_put h2 zk12 (by decide) zl_899 rfl rfl rfl dX12_rings_2 ?_
  refine zr_aload_n 0 dX12_rings_5 rfl ?_
  refine zr_iload_n 1 dX12_rings_6 rfl ?_
  replace hf := zb2_s hf
  obtain ⟨v5, m4, h3, hf⟩ := hf
  refine zr_callV (ci := 12) [.int x1] (cX12_hand_ok h3) zvs_X12_hand zl_1057 zl_1058 (fX12_hand_ck h3) rfl rfl zl_1056 rfl (Nat.le_of_ble_eq_true rfl) (Nat.le_of_ble_eq_true rfl) (Nat.le_of_ble_eq_true rfl) (Nat.le_of_ble_eq_true rfl) dX12_rings_7 rfl ?_
  refine zr_if_eq 22 dX12_rings_10 (by decide) (fun hc => ?_) (fun hc => ?_)
  · rw [if_pos hc] at hf
    refine zr_iconst (-1) dX12_rings_22 (by decide) ?_
    cases hf
    exact zr_iret dX12_rings_23
  · rw [if_neg hc] at hf
    refine zr_iload_n 2 dX12_rings_13 rfl ?_
    refine zr_iconst 0 dX12_rings_14 (by decide) ?_
    refine zr_iconst 2 dX12_rings_15 (by decide) ?_
    replace hf := zb1_s hf
    obtain ⟨v7, h6, hf⟩ := hf
    refine zr_callS [.int x2, .int 0, .int 2] (cX12_in_ok h6) zvs_X12_in zl_898 zl_897 rfl (Nat.le_of_ble_eq_true rfl) (Nat.le_of_ble_eq_true rfl) (Nat.le_of_ble_eq_true rfl) (Nat.le_of_ble_eq_true rfl) dX12_rings_16 rfl ?_
    refine zr_if_ne 24 dX12_rings_19 (by decide) (fun hc => ?_) (fun hc => ?_)
    · rw [if_neg hc] at hf
      refine zr_iconst 0 dX12_rings_24 (by decide) ?_
      refine zr_istore_n [(3, .int 0), (0, .ref x0), (1, .int x1), (2, .int x2)] dX12_rings_25 (Nat.le_of_ble_eq_true rfl) rfl ?_
      refine zr_iconst 0 dX12_rings_26 (by decide) ?_
      refine zr_istore [(4, .int 0), (3, .int 0), (0, .ref x0), (1, .int x1), (2, .int x2)] dX12_rings_27 (Nat.le_of_ble_eq_true rfl) rfl ?_
      refine zr_iconst 0 dX12_rings_29 (by decide) ?_
      refine zr_istore [(5, .int 0), (4, .int 0), (3, .int 0), (0, .ref x0), (1, .int x1), (2, .int x2)] dX12_rings_30 (Nat.le_of_ble_eq_true rfl) rfl ?_
      refine zr_iconst 0 dX12_rings_32 (by decide) ?_
      refine zr_istore [(6, .int 0), (5, .int 0), (4, .int 0), (3, .int 0), (0, .ref x0), (1, .int x1), (2, .int x2)] dX12_rings_33 (Nat.le_of_ble_eq_true rfl) rfl ?_
      replace hf := zb3_s hf
      obtain ⟨x3_14, x4_15, x5_16, hg, hf⟩ := hf
      have hj17 : zz K cX12_rings (8, RX12, some .int, 3, 0, 0, some (.int r), mo) 0 0 105 [(2, .int x2), (3, .int x3_14), (4, .int x4_15), (5, .int x5_16)] [] m4 := by
        refine zr_iload_n 0 dX12_rings_105 rfl ?_
        replace hf := zb1_s hf
        obtain ⟨s30, hg, hf⟩ := hf
        have hj31 : zz K cX12_rings (8, RX12, some .int, 3, 0, 0, some (.int r), mo) 0 0 125 [] [.int s30] m4 := by
          cases hf
          exact zr_iret dX12_rings_125
        clear hf
        have hf := hg
        clear hg
        refine zr_if_ne 113 dX12_rings_106 (by decide) (fun hc => ?_) (fun hc => ?_)
        · rw [if_neg hc] at hf
          refine zr_iload_n 0 dX12_rings_113 rfl ?_
          refine zr_iconst 1 dX12_rings_114 (by decide) ?_
          refine zr_icmp_ne 123 dX12_rings_115 (by decide) (fun hc => ?_) (fun hc => ?_)
          · rw [if_neg hc] at hf
            refine zr_iload 3 dX12_rings_123 rfl ?_
            cases hf
            exact zr_lv [] rfl hj31
          · rw [if_pos hc] at hf
            refine zr_iload 2 dX12_rings_118 rfl ?_
            refine zr_goto 125 dX12_rings_120 (by decide) ?_
            cases hf
            exact zr_lv [] rfl hj31
        · rw [if_pos hc] at hf
          refine zr_iload_n 1 dX12_rings_109 rfl ?_
          refine zr_goto 125 dX12_rings_110 (by decide) ?_
          cases hf
          exact zr_lv [] rfl hj31
      clear hf
      have hf := hg
      clear hg
      have hL29 : ∀ (n : Nat) (x3_8 : Int32) (x4_9 : Int32) (x5_10 : Int32) (x6_11 : Int32), zf4 (fX12_rings_l35 m4 x0) n x3_8 x4_9 x5_10 x6_11 = some (x3_14, x4_15, x5_16) → zz K cX12_rings (8, RX12, some .int, 3, 0, 0, some (.int r), mo) 0 0 35 [(0, .ref x0), (2, .int x2), (3, .int x3_8), (4, .int x4_9), (5, .int x5_10), (6, .int x6_11)] [] m4 := by
        intro n
        induction n with
        | zero => intro x3_8 x4_9 x5_10 x6_11 hf; cases hf
        | succ n ih13 =>
          intro x3_8 x4_9 x5_10 x6_11 hf
          replace hf := zf4_s hf
          generalize zf4 (fX12_rings_l35 m4 x0) n = F12 at hf ih13
          unfold fX12_rings_l35 at hf
          refine zr_iload 5 dX12_rings_35 rfl ?_
          refine zr_bipush 8 dX12_rings_37 (by decide) ?_
          refine zr_icmp_ge 105 dX12_rings_39 (by decide) (fun hc => ?_) (fun hc => ?_)
          · rw [if_pos hc] at hf
            cases hf
            exact zr_lv [1, 2, 3, 4] rfl hj17
          · rw [if_neg hc] at hf
            refine zr_aload_n 0 dX12_rings_42 rfl ?_
            refine zr_iload 5 dX12_rings_43 rfl ?_
            replace hf := zb1_s hf
            obtain ⟨v19, h18, hf⟩ := hf
            refine zr_callV (ci := 12) [.int x6_11] (cX12_ringOf_ok h18) zvs_X12_ringOf zl_1266 zl_1267 (fX12_ringOf_ck h18) rfl rfl zl_1265 rfl (Nat.le_of_ble_eq_true rfl) (Nat.le_of_ble_eq_true rfl) (Nat.le_of_ble_eq_true rfl) (Nat.le_of_ble_eq_true rfl) dX12_rings_45 rfl ?_
            refine zr_istore [(7, .int v19), (0, .ref x0), (2, .int x2), (3, .int x3_8), (4, .int x4_9), (5, .int x5_10), (6, .int x6_11)] dX12_rings_48 (Nat.le_of_ble_eq_true rfl) rfl ?_
            refine zr_iload_n 3 dX12_rings_50 rfl ?_
            refine zr_iload 0 dX12_rings_51 rfl ?_
            replace hf := zb1_s hf
            obtain ⟨s20, hg, hf⟩ := hf
            have hj21 : zz K cX12_rings (8, RX12, some .int, 3, 0, 0, some (.int r), mo) 0 0 70 [(0, .ref x0), (2, .int x2), (4, .int x4_9), (5, .int x5_10), (6, .int x6_11), (7, .int v19)] [.int s20, .int x3_8] m4 := by
              refine zr_iadd dX12_rings_70 ?_
              refine zr_istore_n [(3, .int (x3_8 + s20)), (0, .ref x0), (2, .int x2), (4, .int x4_9), (5, .int x5_10), (6, .int x6_11), (7, .int v19)] dX12_rings_71 (Nat.le_of_ble_eq_true rfl) rfl ?_
              refine zr_iload 3 dX12_rings_72 rfl ?_
              refine zr_iload 6 dX12_rings_74 rfl ?_
              replace hf := zb1_s hf
              obtain ⟨v24, h23, hf⟩ := hf
              refine zr_callS [.int x4_9, .int v19] (cX12_greater_ok h23) zvs_X12_greater zl_940 zl_939 rfl (Nat.le_of_ble_eq_true rfl) (Nat.le_of_ble_eq_true rfl) (Nat.le_of_ble_eq_true rfl) (Nat.le_of_ble_eq_true rfl) dX12_rings_76 rfl ?_
              refine zr_istore [(4, .int v24), (3, .int (x3_8 + s20)), (0, .ref x0), (2, .int x2), (5, .int x5_10), (6, .int x6_11), (7, .int v19)] dX12_rings_79 (Nat.le_of_ble_eq_true rfl) rfl ?_
              refine zr_iload 4 dX12_rings_81 rfl ?_
              refine zr_iload 6 dX12_rings_83 rfl ?_
              replace hf := zb1_s hf
              obtain ⟨s25, hg, hf⟩ := hf
              have hj26 : zz K cX12_rings (8, RX12, some .int, 3, 0, 0, some (.int r), mo) 0 0 96 [(0, .ref x0), (2, .int x2), (3, .int (x3_8 + s20)), (4, .int v24), (6, .int x6_11)] [.int s25, .int x5_10] m4 := by
                refine zr_ior dX12_rings_96 ?_
                refine zr_istore [(5, .int (x5_10 ||| s25)), (0, .ref x0), (2, .int x2), (3, .int (x3_8 + s20)), (4, .int v24), (6, .int x6_11)] dX12_rings_97 (Nat.le_of_ble_eq_true rfl) rfl ?_
                refine zr_iinc (j := 5) (x6_11 + 1) [(6, .int (x6_11 + 1)), (5, .int (x5_10 ||| s25)), (0, .ref x0), (2, .int x2), (3, .int (x3_8 + s20)), (4, .int v24)] dX12_rings_99 rfl rfl (Nat.le_of_ble_eq_true rfl) rfl ?_
                refine zr_goto 35 dX12_rings_102 (by decide) ?_
                exact zr_lv [2, 3, 4, 5, 1, 0] rfl (ih13 (x3_8 + s20) v24 (x5_10 ||| s25) (x6_11 + 1) hf)
              clear hf
              have hf := hg
              clear hg
              refine zr_if_le 95 dX12_rings_85 (by decide) (fun hc => ?_) (fun hc => ?_)
              · rw [if_pos hc] at hf
                refine zr_iconst 0 dX12_rings_95 (by decide) ?_
                cases hf
                exact zr_lv [2, 3, 1, 0, 5] rfl hj26
              · rw [if_neg hc] at hf
                refine zr_iconst 1 dX12_rings_88 (by decide) ?_
                refine zr_iload 5 dX12_rings_89 rfl ?_
                refine zr_ishl dX12_rings_91 ?_
                refine zr_goto 96 dX12_rings_92 (by decide) ?_
                cases hf
                exact zr_lv [2, 3, 1, 0, 5] rfl hj26
            clear hf
            have hf := hg
            clear hg
            have hb22 : ∀ (_ : Unit), fX12_rings_b69 = some s20 → zz K cX12_rings (8, RX12, some .int, 3, 0, 0, some (.int r), mo) 0 0 69 [(0, .ref x0), (2, .int x2), (4, .int x4_9), (5, .int x5_10), (6, .int x6_11), (7, .int v19)] [.int x3_8] m4 := by
              intro _ hf
              unfold fX12_rings_b69 at hf
              refine zr_iconst 0 dX12_rings_69 (by decide) ?_
              cases hf
              exact zr_lv [0, 1, 2, 3, 4, 5] rfl hj21
            refine zr_if_le 69 dX12_rings_53 (by decide) (fun hc => ?_) (fun hc => ?_)
            · rw [if_pos hc] at hf
              exact zr_lv [1, 2, 4, 5, 6, 0] rfl (hb22 () hf)
            · rw [if_neg hc] at hf
              refine zr_aload_n 1 dX12_rings_56 rfl ?_
              refine zr_iload 6 dX12_rings_57 rfl ?_
              replace hf := zb1_s hf
              obtain ⟨v28, h27, hf⟩ := hf
              refine zr_callV (ci := 12) [.int x6_11] (cX12_isFirst_ok h27) zvs_X12_isFirst zl_1270 zl_1271 (fX12_isFirst_ck h27) rfl rfl zl_1269 rfl (Nat.le_of_ble_eq_true rfl) (Nat.le_of_ble_eq_true rfl) (Nat.le_of_ble_eq_true rfl) (Nat.le_of_ble_eq_true rfl) dX12_rings_59 rfl ?_
              refine zr_if_eq 69 dX12_rings_62 (by decide) (fun hc => ?_) (fun hc => ?_)
              · rw [if_pos hc] at hf
                exact zr_lv [1, 2, 4, 5, 6, 0] rfl (hb22 () hf)
              · rw [if_neg hc] at hf
                refine zr_iconst 1 dX12_rings_65 (by decide) ?_
                refine zr_goto 70 dX12_rings_66 (by decide) ?_
                cases hf
                exact zr_lv [1, 2, 4, 5, 6, 0] rfl hj21
      exact zr_lv [4, 6, 3, 2, 1, 0] rfl (hL29 _ 0 0 0 0 hf)
    · rw [if_pos hc] at hf
      refine zr_iconst (-1) dX12_rings_22 (by decide) ?_
      cases hf
      exact zr_iret dX12_rings_23
theorem zl_1272 : Cond.constantLong RX12 496 (-1) ∈ zt := zt_at 1954 (by decide +kernel)
theorem dX12_unsure_0 : decode cX12_unsure 0 = .ok (.aload_n 0, 1) := by decide +kernel
theorem dX12_unsure_1 : decode cX12_unsure 1 = .ok (.iconst 0, 1) := by decide +kernel
theorem dX12_unsure_2 : decode cX12_unsure 2 = .ok (.putfield 93, 3) := by decide +kernel
theorem dX12_unsure_5 : decode cX12_unsure 5 = .ok (.iload_n 2, 1) := by decide +kernel
theorem dX12_unsure_6 : decode cX12_unsure 6 = .ok (.iconst 0, 1) := by decide +kernel
theorem dX12_unsure_7 : decode cX12_unsure 7 = .ok (.bipush 6, 2) := by decide +kernel
theorem dX12_unsure_9 : decode cX12_unsure 9 = .ok (.invokestatic 101, 3) := by decide +kernel
theorem dX12_unsure_12 : decode cX12_unsure 12 = .ok (.ifCond .eq 11, 3) := by decide +kernel
theorem dX12_unsure_15 : decode cX12_unsure 15 = .ok (.aload_n 0, 1) := by decide +kernel
theorem dX12_unsure_16 : decode cX12_unsure 16 = .ok (.iload_n 1, 1) := by decide +kernel
theorem dX12_unsure_17 : decode cX12_unsure 17 = .ok (.invokevirtual 298, 3) := by decide +kernel
theorem dX12_unsure_20 : decode cX12_unsure 20 = .ok (.ifCond .ne 7, 3) := by decide +kernel
theorem dX12_unsure_23 : decode cX12_unsure 23 = .ok (.ldc2_w 496, 3) := by decide +kernel
theorem dX12_unsure_26 : decode cX12_unsure 26 = .ok (.lreturn, 1) := by decide +kernel
theorem dX12_unsure_27 : decode cX12_unsure 27 = .ok (.iconst 0, 1) := by decide +kernel
theorem dX12_unsure_28 : decode cX12_unsure 28 = .ok (.istore 4, 2) := by decide +kernel
theorem dX12_unsure_30 : decode cX12_unsure 30 = .ok (.iconst 0, 1) := by decide +kernel
theorem dX12_unsure_31 : decode cX12_unsure 31 = .ok (.istore 5, 2) := by decide +kernel
theorem dX12_unsure_33 : decode cX12_unsure 33 = .ok (.iconst 0, 1) := by decide +kernel
theorem dX12_unsure_34 : decode cX12_unsure 34 = .ok (.istore 6, 2) := by decide +kernel
theorem dX12_unsure_36 : decode cX12_unsure 36 = .ok (.iload 6, 2) := by decide +kernel
theorem dX12_unsure_38 : decode cX12_unsure 38 = .ok (.bipush 8, 2) := by decide +kernel
theorem dX12_unsure_40 : decode cX12_unsure 40 = .ok (.if_icmp .ge 54, 3) := by decide +kernel
theorem dX12_unsure_43 : decode cX12_unsure 43 = .ok (.iload 4, 2) := by decide +kernel
theorem dX12_unsure_45 : decode cX12_unsure 45 = .ok (.aload_n 0, 1) := by decide +kernel
theorem dX12_unsure_46 : decode cX12_unsure 46 = .ok (.iconst 3, 1) := by decide +kernel
theorem dX12_unsure_47 : decode cX12_unsure 47 = .ok (.iload 6, 2) := by decide +kernel
theorem dX12_unsure_49 : decode cX12_unsure 49 = .ok (.iadd, 1) := by decide +kernel
theorem dX12_unsure_50 : decode cX12_unsure 50 = .ok (.invokevirtual 269, 3) := by decide +kernel
theorem dX12_unsure_53 : decode cX12_unsure 53 = .ok (.iload 6, 2) := by decide +kernel
theorem dX12_unsure_55 : decode cX12_unsure 55 = .ok (.if_icmp .ne 15, 3) := by decide +kernel
theorem dX12_unsure_58 : decode cX12_unsure 58 = .ok (.aload_n 0, 1) := by decide +kernel
theorem dX12_unsure_59 : decode cX12_unsure 59 = .ok (.bipush 19, 2) := by decide +kernel
theorem dX12_unsure_61 : decode cX12_unsure 61 = .ok (.iload 6, 2) := by decide +kernel
theorem dX12_unsure_63 : decode cX12_unsure 63 = .ok (.iadd, 1) := by decide +kernel
theorem dX12_unsure_64 : decode cX12_unsure 64 = .ok (.invokevirtual 269, 3) := by decide +kernel
theorem dX12_unsure_67 : decode cX12_unsure 67 = .ok (.goto 4, 3) := by decide +kernel
theorem dX12_unsure_70 : decode cX12_unsure 70 = .ok (.iconst 0, 1) := by decide +kernel
theorem dX12_unsure_71 : decode cX12_unsure 71 = .ok (.iadd, 1) := by decide +kernel
theorem dX12_unsure_72 : decode cX12_unsure 72 = .ok (.istore 4, 2) := by decide +kernel
theorem dX12_unsure_74 : decode cX12_unsure 74 = .ok (.iload 5, 2) := by decide +kernel
theorem dX12_unsure_76 : decode cX12_unsure 76 = .ok (.aload_n 0, 1) := by decide +kernel
theorem dX12_unsure_77 : decode cX12_unsure 77 = .ok (.bipush 19, 2) := by decide +kernel
theorem dX12_unsure_79 : decode cX12_unsure 79 = .ok (.iload 6, 2) := by decide +kernel
theorem dX12_unsure_81 : decode cX12_unsure 81 = .ok (.iadd, 1) := by decide +kernel
theorem dX12_unsure_82 : decode cX12_unsure 82 = .ok (.invokevirtual 269, 3) := by decide +kernel
theorem dX12_unsure_85 : decode cX12_unsure 85 = .ok (.iadd, 1) := by decide +kernel
theorem dX12_unsure_86 : decode cX12_unsure 86 = .ok (.istore 5, 2) := by decide +kernel
theorem dX12_unsure_88 : decode cX12_unsure 88 = .ok (.iinc 6 1, 3) := by decide +kernel
theorem dX12_unsure_91 : decode cX12_unsure 91 = .ok (.goto (-55), 3) := by decide +kernel
theorem dX12_unsure_94 : decode cX12_unsure 94 = .ok (.iload 5, 2) := by decide +kernel
theorem dX12_unsure_96 : decode cX12_unsure 96 = .ok (.ifCond .ne 7, 3) := by decide +kernel
theorem dX12_unsure_99 : decode cX12_unsure 99 = .ok (.ldc2_w 496, 3) := by decide +kernel
theorem dX12_unsure_102 : decode cX12_unsure 102 = .ok (.lreturn, 1) := by decide +kernel
theorem dX12_unsure_103 : decode cX12_unsure 103 = .ok (.iload 5, 2) := by decide +kernel
theorem dX12_unsure_105 : decode cX12_unsure 105 = .ok (.istore 6, 2) := by decide +kernel
theorem dX12_unsure_107 : decode cX12_unsure 107 = .ok (.iload 4, 2) := by decide +kernel
theorem dX12_unsure_109 : decode cX12_unsure 109 = .ok (.iload 6, 2) := by decide +kernel
theorem dX12_unsure_111 : decode cX12_unsure 111 = .ok (.irem, 1) := by decide +kernel
theorem dX12_unsure_112 : decode cX12_unsure 112 = .ok (.ifCond .ne 11, 3) := by decide +kernel
theorem dX12_unsure_115 : decode cX12_unsure 115 = .ok (.iload 5, 2) := by decide +kernel
theorem dX12_unsure_117 : decode cX12_unsure 117 = .ok (.iload 6, 2) := by decide +kernel
theorem dX12_unsure_119 : decode cX12_unsure 119 = .ok (.irem, 1) := by decide +kernel
theorem dX12_unsure_120 : decode cX12_unsure 120 = .ok (.ifCond .eq 9, 3) := by decide +kernel
theorem dX12_unsure_123 : decode cX12_unsure 123 = .ok (.iinc 6 (-1), 3) := by decide +kernel
theorem dX12_unsure_126 : decode cX12_unsure 126 = .ok (.goto (-19), 3) := by decide +kernel
theorem dX12_unsure_129 : decode cX12_unsure 129 = .ok (.lconst 1, 1) := by decide +kernel
theorem dX12_unsure_130 : decode cX12_unsure 130 = .ok (.lstore 7, 2) := by decide +kernel
theorem dX12_unsure_132 : decode cX12_unsure 132 = .ok (.iconst 0, 1) := by decide +kernel
theorem dX12_unsure_133 : decode cX12_unsure 133 = .ok (.istore 9, 2) := by decide +kernel
theorem dX12_unsure_135 : decode cX12_unsure 135 = .ok (.iload 9, 2) := by decide +kernel
theorem dX12_unsure_137 : decode cX12_unsure 137 = .ok (.iload_n 2, 1) := by decide +kernel
theorem dX12_unsure_138 : decode cX12_unsure 138 = .ok (.if_icmp .ge 29, 3) := by decide +kernel
theorem dX12_unsure_141 : decode cX12_unsure 141 = .ok (.lload 7, 2) := by decide +kernel
theorem dX12_unsure_143 : decode cX12_unsure 143 = .ok (.iload_n 3, 1) := by decide +kernel
theorem dX12_unsure_144 : decode cX12_unsure 144 = .ok (.ifCond .eq 8, 3) := by decide +kernel
theorem dX12_unsure_147 : decode cX12_unsure 147 = .ok (.iload 5, 2) := by decide +kernel
theorem dX12_unsure_149 : decode cX12_unsure 149 = .ok (.goto 5, 3) := by decide +kernel
theorem dX12_unsure_152 : decode cX12_unsure 152 = .ok (.iload 4, 2) := by decide +kernel
theorem dX12_unsure_154 : decode cX12_unsure 154 = .ok (.iload 6, 2) := by decide +kernel
theorem dX12_unsure_156 : decode cX12_unsure 156 = .ok (.idiv, 1) := by decide +kernel
theorem dX12_unsure_157 : decode cX12_unsure 157 = .ok (.i2l, 1) := by decide +kernel
theorem dX12_unsure_158 : decode cX12_unsure 158 = .ok (.lmul, 1) := by decide +kernel
theorem dX12_unsure_159 : decode cX12_unsure 159 = .ok (.lstore 7, 2) := by decide +kernel
theorem dX12_unsure_161 : decode cX12_unsure 161 = .ok (.iinc 9 1, 3) := by decide +kernel
theorem dX12_unsure_164 : decode cX12_unsure 164 = .ok (.goto (-29), 3) := by decide +kernel
theorem dX12_unsure_167 : decode cX12_unsure 167 = .ok (.lload 7, 2) := by decide +kernel
theorem dX12_unsure_169 : decode cX12_unsure 169 = .ok (.lreturn, 1) := by decide +kernel
noncomputable def fX12_unsure_l36 (m6 : zM) (x0 : Nat) (F11 : Int32 → Int32 → Int32 → Option (Int32 × Int32)) (x4_8 : Int32) (x5_9 : Int32) (x6_10 : Int32) : Option (Int32 × Int32) :=
  if 8 ≤ x6_10 then (
  some (x4_8, x5_9))
  else (
  zb1 (fX12_of m6 x0 (3 + x6_10)) fun v17 =>
  zb1 (if v17 = x6_10 then (
  zb1 (fX12_of m6 x0 (19 + x6_10)) fun v23 =>
  some v23)
  else (
  some 0) : Option (Int32)) fun (s18 : Int32) =>
  zb1 (fX12_of m6 x0 (19 + x6_10)) fun v21 =>
  F11 (x4_8 + s18) (x5_9 + v21) (x6_10 + 1))
noncomputable def fX12_unsure_l107 (x4_13 : Int32) (x5_14 : Int32) (F26 : Int32 → Option (Int32)) (x6_25 : Int32) : Option (Int32) :=
  zni (x6_25 = 0) <|
  if (x4_13 - x4_13 / x6_25 * x6_25) = 0 then (
  zni (x6_25 = 0) <|
  if (x5_14 - x5_14 / x6_25 * x6_25) = 0 then (
  some x6_25)
  else (
  F26 (x6_25 + (-1))))
  else (
  F26 (x6_25 + (-1)))
noncomputable def fX12_unsure_l135 (x2 : Int32) (x3 : Int32) (x4_13 : Int32) (x5_14 : Int32) (x6_28 : Int32) (F35 : Int64 → Int32 → Option (Int64)) (x7_33 : Int64) (x9_34 : Int32) : Option (Int64) :=
  if x2 ≤ x9_34 then (
  some x7_33)
  else (
  zb1 (if x3 = 0 then (
  some x4_13)
  else (
  some x5_14) : Option (Int32)) fun (s39 : Int32) =>
  zni (x6_28 = 0) <|
  F35 (x7_33 * ((s39 / x6_28 : Int32).toInt64)) (x9_34 + 1))
noncomputable def fX12_unsure (μ : zM) (x0 : Nat) (x1 : Int32) (x2 : Int32) (x3 : Int32) : Option (Int64 × zM) := zgd (zm_ck μ 12 x0) <|
  zb1 (zm_p μ 12 x0 0 (.int 0)) fun m1 =>
  zb1 (fX12_in m1 x2 0 6) fun v4 =>
  if v4 = 0 then (
  some ((-1), m1))
  else (
  zb2 (fX12_hand m1 x0 x1) fun v7 m6 =>
  if v7 = 0 then (
  some ((-1), m6))
  else (
  zb2 (zf3 (fX12_unsure_l36 m6 x0) zfu 0 0 0 : Option (Int32 × Int32)) fun (x4_13 : Int32) (x5_14 : Int32) =>
  if x5_14 = 0 then (
  some ((-1), m6))
  else (
  zb1 (zf1 (fX12_unsure_l107 x4_13 x5_14) zfu x5_14 : Option (Int32)) fun (x6_28 : Int32) =>
  zb1 (zf2 (fX12_unsure_l135 x2 x3 x4_13 x5_14 x6_28) zfu 1 0 : Option (Int64)) fun (x7_37 : Int64) =>
  some (x7_37, m6))))
theorem fX12_unsure_ck {μ : zM} {x0 : Nat} {x1 : Int32} {x2 : Int32} {x3 : Int32} {z : Int64 × zM} (h : fX12_unsure μ x0 x1 x2 x3 = some z) : zm_ck μ 12 x0 = true := (zgd_s h).1
set_option maxHeartbeats 4000000 in
set_option maxRecDepth 100000 in
theorem cX12_unsure_ok {μ : zM} {x0 : Nat} {x1 : Int32} {x2 : Int32} {x3 : Int32} {r : Int64} {mo : zM} (hf : fX12_unsure μ x0 x1 x2 x3 = some (r, mo)) : zC yX12_unsure cX12_unsure 10 (some .long) 3 0 0 [.ref x0, .int x1, .int x2, .int x3] μ (some (.long r)) mo := by
  replace hf := (zgd_s hf).2
  refine zC.of (by decide) (Nat.le_of_ble_eq_true rfl) (fun K hin => ?_)
  clear hin
  show zz K cX12_unsure (10, RX12, some .long, 3, 0, 0, some (.long r), mo) 0 0 0 [(0, .ref x0), (1, .int x1), (2, .int x2), (3, .int x3)] [] μ
  refine zr_aload_n 0 dX12_unsure_0 rfl ?_
  refine zr_iconst 0 dX12_unsure_1 (by decide) ?_
  replace hf := zb1_s hf
  obtain ⟨m1, h2, hf⟩ := hf
  refine zr_put h2 zk12 (by decide) zl_899 rfl rfl rfl dX12_unsure_2 ?_
  refine zr_iload_n 2 dX12_unsure_5 rfl ?_
  refine zr_iconst 0 dX12_unsure_6 (by decide) ?_
  refine zr_bipush 6 dX12_unsure_7 (by decide) ?_
  replace hf := zb1_s hf
  obtain ⟨v4, h3, hf⟩ := hf
  refine zr_callS [.int x2, .int 0, .int 6] (cX12_in_ok h3) zvs_X12_in zl_898 zl_897 rfl (Nat.le_of_ble_eq_true rfl) (Nat.le_of_ble_eq_true rfl) (Nat.le_of_ble_eq_true rfl) (Nat.le_of_ble_eq_true rfl) dX12_unsure_9 rfl ?_
  refine zr_if_eq 23 dX12_unsure_12 (by decide) (fun hc => ?_) (fun hc => ?_)
  · rw [if_pos hc] at hf
    refine zr_ldc2 zl_1272 dX12_unsure_23 ?_
    cases hf
    exact zr_lret dX12_unsure_26
  · rw [if_neg hc] at hf
    refine zr_aload_n 0 dX12_unsure_15 rfl ?_
    refine zr_iload_n 1 dX12_unsure_16 rfl ?_
    replace hf := zb2_s hf
    obtain ⟨v7, m6, h5, hf⟩ := hf
    refine zr_callV (ci := 12) [.int x1] (cX12_hand_ok h5) zvs_X12_hand zl_1057 zl_1058 (fX12_hand_ck h5) rfl rfl zl_1056 rfl (Nat.le_of_ble_eq_true rfl) (Nat.le_of_ble_eq_true rfl) (Nat.le_of_ble_eq_true rfl) (Nat.le_of_ble_eq_true rfl) dX12_unsure_17 rfl ?_
    refine zr_if_ne 27 dX12_unsure_20 (by decide) (fun hc => ?_) (fun hc => ?_)
    · rw [if_neg hc] at hf
      refine zr_iconst 0 dX12_unsure_27 (by decide) ?_
      refine zr_istore [(4, .int 0), (0, .ref x0), (1, .int x1), (2, .int x2), (3, .int x3)] dX12_unsure_28 (Nat.le_of_ble_eq_true rfl) rfl ?_
      refine zr_iconst 0 dX12_unsure_30 (by decide) ?_
      refine zr_istore [(5, .int 0), (4, .int 0), (0, .ref x0), (1, .int x1), (2, .int x2), (3, .int x3)] dX12_unsure_31 (Nat.le_of_ble_eq_true rfl) rfl ?_
      refine zr_iconst 0 dX12_unsure_33 (by decide) ?_
      refine zr_istore [(6, .int 0), (5, .int 0), (4, .int 0), (0, .ref x0), (1, .int x1), (2, .int x2), (3, .int x3)] dX12_unsure_34 (Nat.le_of_ble_eq_true rfl) rfl ?_
      replace hf := zb2_s hf
      obtain ⟨x4_13, x5_14, hg, hf⟩ := hf
      have hj15 : zz K cX12_unsure (10, RX12, some .long, 3, 0, 0, some (.long r), mo) 0 0 94 [(2, .int x2), (3, .int x3), (4, .int x4_13), (5, .int x5_14)] [] m6 := by
        refine zr_iload 3 dX12_unsure_94 rfl ?_
        refine zr_if_ne 103 dX12_unsure_96 (by decide) (fun hc => ?_) (fun hc => ?_)
        · rw [if_neg hc] at hf
          refine zr_iload 3 dX12_unsure_103 rfl ?_
          refine zr_istore [(6, .int x5_14), (2, .int x2), (3, .int x3), (4, .int x4_13), (5, .int x5_14)] dX12_unsure_105 (Nat.le_of_ble_eq_true rfl) rfl ?_
          replace hf := zb1_s hf
          obtain ⟨x6_28, hg, hf⟩ := hf
          have hj29 : zz K cX12_unsure (10, RX12, some .long, 3, 0, 0, some (.long r), mo) 0 0 129 [(2, .int x2), (3, .int x3), (4, .int x4_13), (5, .int x5_14), (6, .int x6_28)] [] m6 := by
            refine zr_lconst 1 dX12_unsure_129 (by decide) ?_
            refine zr_lstore [(7, .long 1), (2, .int x2), (3, .int x3), (4, .int x4_13), (5, .int x5_14), (6, .int x6_28)] dX12_unsure_130 (Nat.le_of_ble_eq_true rfl) rfl ?_
            refine zr_iconst 0 dX12_unsure_132 (by decide) ?_
            refine zr_istore [(9, .int 0), (7, .long 1), (2, .int x2), (3, .int x3), (4, .int x4_13), (5, .int x5_14), (6, .int x6_28)] dX12_unsure_133 (Nat.le_of_ble_eq_true rfl) rfl ?_
            replace hf := zb1_s hf
            obtain ⟨x7_37, hg, hf⟩ := hf
            have hj38 : zz K cX12_unsure (10, RX12, some .long, 3, 0, 0, some (.long r), mo) 0 0 167 [(7, .long x7_37)] [] m6 := by
              refine zr_lload 0 dX12_unsure_167 rfl ?_
              cases hf
              exact zr_lret dX12_unsure_169
            clear hf
            have hf := hg
            clear hg
            have hL42 : ∀ (n : Nat) (x7_33 : Int64) (x9_34 : Int32), zf2 (fX12_unsure_l135 x2 x3 x4_13 x5_14 x6_28) n x7_33 x9_34 = some x7_37 → zz K cX12_unsure (10, RX12, some .long, 3, 0, 0, some (.long r), mo) 0 0 135 [(2, .int x2), (3, .int x3), (4, .int x4_13), (5, .int x5_14), (6, .int x6_28), (7, .long x7_33), (9, .int x9_34)] [] m6 := by
              intro n
              induction n with
              | zero => intro x7_33 x9_34 hf; cases hf
              | succ n ih36 =>
                intro x7_33 x9_34 hf
                replace hf := zf2_s hf
                generalize zf2 (fX12_unsure_l135 x2 x3 x4_13 x5_14 x6_28) n = F35 at hf ih36
                unfold fX12_unsure_l135 at hf
                refine zr_iload 6 dX12_unsure_135 rfl ?_
                refine zr_iload_n 0 dX12_unsure_137 rfl ?_
                refine zr_icmp_ge 167 dX12_unsure_138 (by decide) (fun hc => ?_) (fun hc => ?_)
                · rw [if_pos hc] at hf
                  cases hf
                  exact zr_lv [5] rfl hj38
                · rw [if_neg hc] at hf
                  refine zr_lload 5 dX12_unsure_141 rfl ?_
                  refine zr_iload_n 1 dX12_unsure_143 rfl ?_
                  replace hf := zb1_s hf
                  obtain ⟨s39, hg, hf⟩ := hf
                  have hj40 : zz K cX12_unsure (10, RX12, some .long, 3, 0, 0, some (.long r), mo) 0 0 154 [(2, .int x2), (3, .int x3), (4, .int x4_13), (5, .int x5_14), (6, .int x6_28), (9, .int x9_34)] [.int s39, .long x7_33] m6 := by
                    refine zr_iload 4 dX12_unsure_154 rfl ?_
                    replace hf := zni_s hf
                    obtain ⟨hn41, hf⟩ := hf
                    refine zr_idiv dX12_unsure_156 hn41 ?_
                    refine zr_i2l dX12_unsure_157 ?_
                    refine zr_lmul dX12_unsure_158 ?_
                    refine zr_lstore [(7, .long (x7_33 * ((s39 / x6_28 : Int32).toInt64))), (2, .int x2), (3, .int x3), (4, .int x4_13), (5, .int x5_14), (6, .int x6_28), (9, .int x9_34)] dX12_unsure_159 (Nat.le_of_ble_eq_true rfl) rfl ?_
                    refine zr_iinc (j := 6) (x9_34 + 1) [(9, .int (x9_34 + 1)), (7, .long (x7_33 * ((s39 / x6_28 : Int32).toInt64))), (2, .int x2), (3, .int x3), (4, .int x4_13), (5, .int x5_14), (6, .int x6_28)] dX12_unsure_161 rfl rfl (Nat.le_of_ble_eq_true rfl) rfl ?_
                    refine zr_goto 135 dX12_unsure_164 (by decide) ?_
                    exact zr_lv [2, 3, 4, 5, 6, 1, 0] rfl (ih36 (x7_33 * ((s39 / x6_28 : Int32).toInt64)) (x9_34 + 1) hf)
                  clear hf
                  have hf := hg
                  clear hg
                  refine zr_if_eq 152 dX12_unsure_144 (by decide) (fun hc => ?_) (fun hc => ?_)
                  · rw [if_pos hc] at hf
                    refine zr_iload 2 dX12_unsure_152 rfl ?_
                    cases hf
                    exact zr_lv [0, 1, 2, 3, 4, 6] rfl hj40
                  · rw [if_neg hc] at hf
                    refine zr_iload 3 dX12_unsure_147 rfl ?_
                    refine zr_goto 154 dX12_unsure_149 (by decide) ?_
                    cases hf
                    exact zr_lv [0, 1, 2, 3, 4, 6] rfl hj40
            exact zr_lv [2, 3, 4, 5, 6, 1, 0] rfl (hL42 _ 1 0 hf)
          clear hf
          have hf := hg
          clear hg
          have hL32 : ∀ (n : Nat) (x6_25 : Int32), zf1 (fX12_unsure_l107 x4_13 x5_14) n x6_25 = some x6_28 → zz K cX12_unsure (10, RX12, some .long, 3, 0, 0, some (.long r), mo) 0 0 107 [(2, .int x2), (3, .int x3), (4, .int x4_13), (5, .int x5_14), (6, .int x6_25)] [] m6 := by
            intro n
            induction n with
            | zero => intro x6_25 hf; cases hf
            | succ n ih27 =>
              intro x6_25 hf
              replace hf := zf1_s hf
              generalize zf1 (fX12_unsure_l107 x4_13 x5_14) n = F26 at hf ih27
              unfold fX12_unsure_l107 at hf
              refine zr_iload 2 dX12_unsure_107 rfl ?_
              refine zr_iload 4 dX12_unsure_109 rfl ?_
              replace hf := zni_s hf
              obtain ⟨hn30, hf⟩ := hf
              refine zr_irem dX12_unsure_111 hn30 ?_
              refine zr_if_ne 123 dX12_unsure_112 (by decide) (fun hc => ?_) (fun hc => ?_)
              · rw [if_neg hc] at hf
                refine zr_iinc (j := 4) (x6_25 + (-1)) [(6, .int (x6_25 + (-1))), (2, .int x2), (3, .int x3), (4, .int x4_13), (5, .int x5_14)] dX12_unsure_123 rfl rfl (Nat.le_of_ble_eq_true rfl) rfl ?_
                refine zr_goto 107 dX12_unsure_126 (by decide) ?_
                exact zr_lv [1, 2, 3, 4, 0] rfl (ih27 (x6_25 + (-1)) hf)
              · rw [if_pos hc] at hf
                refine zr_iload 3 dX12_unsure_115 rfl ?_
                refine zr_iload 4 dX12_unsure_117 rfl ?_
                replace hf := zni_s hf
                obtain ⟨hn31, hf⟩ := hf
                refine zr_irem dX12_unsure_119 hn31 ?_
                refine zr_if_eq 129 dX12_unsure_120 (by decide) (fun hc => ?_) (fun hc => ?_)
                · rw [if_pos hc] at hf
                  cases hf
                  exact zr_lv [0, 1, 2, 3, 4] rfl hj29
                · rw [if_neg hc] at hf
                  refine zr_iinc (j := 4) (x6_25 + (-1)) [(6, .int (x6_25 + (-1))), (2, .int x2), (3, .int x3), (4, .int x4_13), (5, .int x5_14)] dX12_unsure_123 rfl rfl (Nat.le_of_ble_eq_true rfl) rfl ?_
                  refine zr_goto 107 dX12_unsure_126 (by decide) ?_
                  exact zr_lv [1, 2, 3, 4, 0] rfl (ih27 (x6_25 + (-1)) hf)
          exact zr_lv [1, 2, 3, 4, 0] rfl (hL32 _ x5_14 hf)
        · rw [if_pos hc] at hf
          refine zr_ldc2 zl_1272 dX12_unsure_99 ?_
          cases hf
          exact zr_lret dX12_unsure_102
      clear hf
      have hf := hg
      clear hg
      have hL24 : ∀ (n : Nat) (x4_8 : Int32) (x5_9 : Int32) (x6_10 : Int32), zf3 (fX12_unsure_l36 m6 x0) n x4_8 x5_9 x6_10 = some (x4_13, x5_14) → zz K cX12_unsure (10, RX12, some .long, 3, 0, 0, some (.long r), mo) 0 0 36 [(0, .ref x0), (2, .int x2), (3, .int x3), (4, .int x4_8), (5, .int x5_9), (6, .int x6_10)] [] m6 := by
        intro n
        induction n with
        | zero => intro x4_8 x5_9 x6_10 hf; cases hf
        | succ n ih12 =>
          intro x4_8 x5_9 x6_10 hf
          replace hf := zf3_s hf
          generalize zf3 (fX12_unsure_l36 m6 x0) n = F11 at hf ih12
          unfold fX12_unsure_l36 at hf
          refine zr_iload 5 dX12_unsure_36 rfl ?_
          refine zr_bipush 8 dX12_unsure_38 (by decide) ?_
          refine zr_icmp_ge 94 dX12_unsure_40 (by decide) (fun hc => ?_) (fun hc => ?_)
          · rw [if_pos hc] at hf
            cases hf
            exact zr_lv [1, 2, 3, 4] rfl hj15
          · rw [if_neg hc] at hf
            refine zr_iload 3 dX12_unsure_43 rfl ?_
            refine zr_aload_n 0 dX12_unsure_45 rfl ?_
            refine zr_iconst 3 dX12_unsure_46 (by decide) ?_
            refine zr_iload 5 dX12_unsure_47 rfl ?_
            refine zr_iadd dX12_unsure_49 ?_
            replace hf := zb1_s hf
            obtain ⟨v17, h16, hf⟩ := hf
            refine zr_callV (ci := 12) [.int (3 + x6_10)] (cX12_of_ok h16) zvs_X12_of zl_1029 zl_1030 (fX12_of_ck h16) rfl rfl zl_1028 rfl (Nat.le_of_ble_eq_true rfl) (Nat.le_of_ble_eq_true rfl) (Nat.le_of_ble_eq_true rfl) (Nat.le_of_ble_eq_true rfl) dX12_unsure_50 rfl ?_
            refine zr_iload 5 dX12_unsure_53 rfl ?_
            replace hf := zb1_s hf
            obtain ⟨s18, hg, hf⟩ := hf
            have hj19 : zz K cX12_unsure (10, RX12, some .long, 3, 0, 0, some (.long r), mo) 0 0 71 [(0, .ref x0), (2, .int x2), (3, .int x3), (5, .int x5_9), (6, .int x6_10)] [.int s18, .int x4_8] m6 := by
              refine zr_iadd dX12_unsure_71 ?_
              refine zr_istore [(4, .int (x4_8 + s18)), (0, .ref x0), (2, .int x2), (3, .int x3), (5, .int x5_9), (6, .int x6_10)] dX12_unsure_72 (Nat.le_of_ble_eq_true rfl) rfl ?_
              refine zr_iload 4 dX12_unsure_74 rfl ?_
              refine zr_aload_n 1 dX12_unsure_76 rfl ?_
              refine zr_bipush 19 dX12_unsure_77 (by decide) ?_
              refine zr_iload 5 dX12_unsure_79 rfl ?_
              refine zr_iadd dX12_unsure_81 ?_
              replace hf := zb1_s hf
              obtain ⟨v21, h20, hf⟩ := hf
              refine zr_callV (ci := 12) [.int (19 + x6_10)] (cX12_of_ok h20) zvs_X12_of zl_1029 zl_1030 (fX12_of_ck h20) rfl rfl zl_1028 rfl (Nat.le_of_ble_eq_true rfl) (Nat.le_of_ble_eq_true rfl) (Nat.le_of_ble_eq_true rfl) (Nat.le_of_ble_eq_true rfl) dX12_unsure_82 rfl ?_
              refine zr_iadd dX12_unsure_85 ?_
              refine zr_istore [(5, .int (x5_9 + v21)), (4, .int (x4_8 + s18)), (0, .ref x0), (2, .int x2), (3, .int x3), (6, .int x6_10)] dX12_unsure_86 (Nat.le_of_ble_eq_true rfl) rfl ?_
              refine zr_iinc (j := 5) (x6_10 + 1) [(6, .int (x6_10 + 1)), (5, .int (x5_9 + v21)), (4, .int (x4_8 + s18)), (0, .ref x0), (2, .int x2), (3, .int x3)] dX12_unsure_88 rfl rfl (Nat.le_of_ble_eq_true rfl) rfl ?_
              refine zr_goto 36 dX12_unsure_91 (by decide) ?_
              exact zr_lv [3, 4, 5, 2, 1, 0] rfl (ih12 (x4_8 + s18) (x5_9 + v21) (x6_10 + 1) hf)
            clear hf
            have hf := hg
            clear hg
            refine zr_icmp_ne 70 dX12_unsure_55 (by decide) (fun hc => ?_) (fun hc => ?_)
            · rw [if_neg hc] at hf
              refine zr_iconst 0 dX12_unsure_70 (by decide) ?_
              cases hf
              exact zr_lv [0, 1, 2, 4, 5] rfl hj19
            · rw [if_pos hc] at hf
              refine zr_aload_n 0 dX12_unsure_58 rfl ?_
              refine zr_bipush 19 dX12_unsure_59 (by decide) ?_
              refine zr_iload 5 dX12_unsure_61 rfl ?_
              refine zr_iadd dX12_unsure_63 ?_
              replace hf := zb1_s hf
              obtain ⟨v23, h22, hf⟩ := hf
              refine zr_callV (ci := 12) [.int (19 + x6_10)] (cX12_of_ok h22) zvs_X12_of zl_1029 zl_1030 (fX12_of_ck h22) rfl rfl zl_1028 rfl (Nat.le_of_ble_eq_true rfl) (Nat.le_of_ble_eq_true rfl) (Nat.le_of_ble_eq_true rfl) (Nat.le_of_ble_eq_true rfl) dX12_unsure_64 rfl ?_
              refine zr_goto 71 dX12_unsure_67 (by decide) ?_
              cases hf
              exact zr_lv [0, 1, 2, 4, 5] rfl hj19
      exact zr_lv [3, 5, 6, 2, 1, 0] rfl (hL24 _ 0 0 0 hf)
    · rw [if_pos hc] at hf
      refine zr_ldc2 zl_1272 dX12_unsure_23 ?_
      cases hf
      exact zr_lret dX12_unsure_26
theorem dX12_findSoon_0 : decode cX12_findSoon 0 = .ok (.iconst 0, 1) := by decide +kernel
theorem dX12_findSoon_1 : decode cX12_findSoon 1 = .ok (.istore 4, 2) := by decide +kernel
theorem dX12_findSoon_3 : decode cX12_findSoon 3 = .ok (.iload 4, 2) := by decide +kernel
theorem dX12_findSoon_5 : decode cX12_findSoon 5 = .ok (.aload_n 0, 1) := by decide +kernel
theorem dX12_findSoon_6 : decode cX12_findSoon 6 = .ok (.getfield 276, 3) := by decide +kernel
theorem dX12_findSoon_9 : decode cX12_findSoon 9 = .ok (.if_icmp .ge 29, 3) := by decide +kernel
theorem dX12_findSoon_12 : decode cX12_findSoon 12 = .ok (.aload_n 0, 1) := by decide +kernel
theorem dX12_findSoon_13 : decode cX12_findSoon 13 = .ok (.getfield 80, 3) := by decide +kernel
theorem dX12_findSoon_16 : decode cX12_findSoon 16 = .ok (.iload 4, 2) := by decide +kernel
theorem dX12_findSoon_18 : decode cX12_findSoon 18 = .ok (.iload 4, 2) := by decide +kernel
theorem dX12_findSoon_20 : decode cX12_findSoon 20 = .ok (.iload_n 1, 1) := by decide +kernel
theorem dX12_findSoon_21 : decode cX12_findSoon 21 = .ok (.if_icmp .ne 7, 3) := by decide +kernel
theorem dX12_findSoon_24 : decode cX12_findSoon 24 = .ok (.iconst 0, 1) := by decide +kernel
theorem dX12_findSoon_25 : decode cX12_findSoon 25 = .ok (.goto 6, 3) := by decide +kernel
theorem dX12_findSoon_28 : decode cX12_findSoon 28 = .ok (.ldc_w 423, 3) := by decide +kernel
theorem dX12_findSoon_31 : decode cX12_findSoon 31 = .ok (.iastore, 1) := by decide +kernel
theorem dX12_findSoon_32 : decode cX12_findSoon 32 = .ok (.iinc 4 1, 3) := by decide +kernel
theorem dX12_findSoon_35 : decode cX12_findSoon 35 = .ok (.goto (-32), 3) := by decide +kernel
theorem dX12_findSoon_38 : decode cX12_findSoon 38 = .ok (.iconst 0, 1) := by decide +kernel
theorem dX12_findSoon_39 : decode cX12_findSoon 39 = .ok (.istore 4, 2) := by decide +kernel
theorem dX12_findSoon_41 : decode cX12_findSoon 41 = .ok (.iload 4, 2) := by decide +kernel
theorem dX12_findSoon_43 : decode cX12_findSoon 43 = .ok (.bipush 6, 2) := by decide +kernel
theorem dX12_findSoon_45 : decode cX12_findSoon 45 = .ok (.if_icmp .ge 129, 3) := by decide +kernel
theorem dX12_findSoon_48 : decode cX12_findSoon 48 = .ok (.iconst 0, 1) := by decide +kernel
theorem dX12_findSoon_49 : decode cX12_findSoon 49 = .ok (.istore 5, 2) := by decide +kernel
theorem dX12_findSoon_51 : decode cX12_findSoon 51 = .ok (.iload 5, 2) := by decide +kernel
theorem dX12_findSoon_53 : decode cX12_findSoon 53 = .ok (.aload_n 0, 1) := by decide +kernel
theorem dX12_findSoon_54 : decode cX12_findSoon 54 = .ok (.getfield 276, 3) := by decide +kernel
theorem dX12_findSoon_57 : decode cX12_findSoon 57 = .ok (.if_icmp .ge 111, 3) := by decide +kernel
theorem dX12_findSoon_60 : decode cX12_findSoon 60 = .ok (.iconst 0, 1) := by decide +kernel
theorem dX12_findSoon_61 : decode cX12_findSoon 61 = .ok (.istore 6, 2) := by decide +kernel
theorem dX12_findSoon_63 : decode cX12_findSoon 63 = .ok (.iload 6, 2) := by decide +kernel
theorem dX12_findSoon_65 : decode cX12_findSoon 65 = .ok (.aload_n 0, 1) := by decide +kernel
theorem dX12_findSoon_66 : decode cX12_findSoon 66 = .ok (.getfield 276, 3) := by decide +kernel
theorem dX12_findSoon_69 : decode cX12_findSoon 69 = .ok (.if_icmp .ge 93, 3) := by decide +kernel
theorem dX12_findSoon_72 : decode cX12_findSoon 72 = .ok (.aload_n 0, 1) := by decide +kernel
theorem dX12_findSoon_73 : decode cX12_findSoon 73 = .ok (.bipush 33, 2) := by decide +kernel
theorem dX12_findSoon_75 : decode cX12_findSoon 75 = .ok (.iload 5, 2) := by decide +kernel
theorem dX12_findSoon_77 : decode cX12_findSoon 77 = .ok (.iadd, 1) := by decide +kernel
theorem dX12_findSoon_78 : decode cX12_findSoon 78 = .ok (.invokevirtual 269, 3) := by decide +kernel
theorem dX12_findSoon_81 : decode cX12_findSoon 81 = .ok (.aload_n 0, 1) := by decide +kernel
theorem dX12_findSoon_82 : decode cX12_findSoon 82 = .ok (.bipush 33, 2) := by decide +kernel
theorem dX12_findSoon_84 : decode cX12_findSoon 84 = .ok (.iload 6, 2) := by decide +kernel
theorem dX12_findSoon_86 : decode cX12_findSoon 86 = .ok (.iadd, 1) := by decide +kernel
theorem dX12_findSoon_87 : decode cX12_findSoon 87 = .ok (.invokevirtual 269, 3) := by decide +kernel
theorem dX12_findSoon_90 : decode cX12_findSoon 90 = .ok (.invokestatic 282, 3) := by decide +kernel
theorem dX12_findSoon_93 : decode cX12_findSoon 93 = .ok (.istore 7, 2) := by decide +kernel
theorem dX12_findSoon_95 : decode cX12_findSoon 95 = .ok (.iload 7, 2) := by decide +kernel
theorem dX12_findSoon_97 : decode cX12_findSoon 97 = .ok (.iload_n 2, 1) := by decide +kernel
theorem dX12_findSoon_98 : decode cX12_findSoon 98 = .ok (.invokestatic 295, 3) := by decide +kernel
theorem dX12_findSoon_101 : decode cX12_findSoon 101 = .ok (.if_icmp .gt 31, 3) := by decide +kernel
theorem dX12_findSoon_104 : decode cX12_findSoon 104 = .ok (.iload 5, 2) := by decide +kernel
theorem dX12_findSoon_106 : decode cX12_findSoon 106 = .ok (.iload 6, 2) := by decide +kernel
theorem dX12_findSoon_108 : decode cX12_findSoon 108 = .ok (.if_icmp .eq 24, 3) := by decide +kernel
theorem dX12_findSoon_111 : decode cX12_findSoon 111 = .ok (.aload_n 0, 1) := by decide +kernel
theorem dX12_findSoon_112 : decode cX12_findSoon 112 = .ok (.getfield 80, 3) := by decide +kernel
theorem dX12_findSoon_115 : decode cX12_findSoon 115 = .ok (.iload 5, 2) := by decide +kernel
theorem dX12_findSoon_117 : decode cX12_findSoon 117 = .ok (.iaload, 1) := by decide +kernel
theorem dX12_findSoon_118 : decode cX12_findSoon 118 = .ok (.iload_n 3, 1) := by decide +kernel
theorem dX12_findSoon_119 : decode cX12_findSoon 119 = .ok (.ifCond .eq 7, 3) := by decide +kernel
theorem dX12_findSoon_122 : decode cX12_findSoon 122 = .ok (.iconst 1, 1) := by decide +kernel
theorem dX12_findSoon_123 : decode cX12_findSoon 123 = .ok (.goto 5, 3) := by decide +kernel
theorem dX12_findSoon_126 : decode cX12_findSoon 126 = .ok (.iload 7, 2) := by decide +kernel
theorem dX12_findSoon_128 : decode cX12_findSoon 128 = .ok (.iadd, 1) := by decide +kernel
theorem dX12_findSoon_129 : decode cX12_findSoon 129 = .ok (.goto 6, 3) := by decide +kernel
theorem dX12_findSoon_132 : decode cX12_findSoon 132 = .ok (.ldc_w 423, 3) := by decide +kernel
theorem dX12_findSoon_135 : decode cX12_findSoon 135 = .ok (.istore 8, 2) := by decide +kernel
theorem dX12_findSoon_137 : decode cX12_findSoon 137 = .ok (.aload_n 0, 1) := by decide +kernel
theorem dX12_findSoon_138 : decode cX12_findSoon 138 = .ok (.getfield 80, 3) := by decide +kernel
theorem dX12_findSoon_141 : decode cX12_findSoon 141 = .ok (.iload 6, 2) := by decide +kernel
theorem dX12_findSoon_143 : decode cX12_findSoon 143 = .ok (.aload_n 0, 1) := by decide +kernel
theorem dX12_findSoon_144 : decode cX12_findSoon 144 = .ok (.getfield 80, 3) := by decide +kernel
theorem dX12_findSoon_147 : decode cX12_findSoon 147 = .ok (.iload 6, 2) := by decide +kernel
theorem dX12_findSoon_149 : decode cX12_findSoon 149 = .ok (.iaload, 1) := by decide +kernel
theorem dX12_findSoon_150 : decode cX12_findSoon 150 = .ok (.iload 8, 2) := by decide +kernel
theorem dX12_findSoon_152 : decode cX12_findSoon 152 = .ok (.invokestatic 404, 3) := by decide +kernel
theorem dX12_findSoon_155 : decode cX12_findSoon 155 = .ok (.iastore, 1) := by decide +kernel
theorem dX12_findSoon_156 : decode cX12_findSoon 156 = .ok (.iinc 6 1, 3) := by decide +kernel
theorem dX12_findSoon_159 : decode cX12_findSoon 159 = .ok (.goto (-96), 3) := by decide +kernel
theorem dX12_findSoon_162 : decode cX12_findSoon 162 = .ok (.iinc 5 1, 3) := by decide +kernel
theorem dX12_findSoon_165 : decode cX12_findSoon 165 = .ok (.goto (-114), 3) := by decide +kernel
theorem dX12_findSoon_168 : decode cX12_findSoon 168 = .ok (.iinc 4 1, 3) := by decide +kernel
theorem dX12_findSoon_171 : decode cX12_findSoon 171 = .ok (.goto (-130), 3) := by decide +kernel
theorem dX12_findSoon_174 : decode cX12_findSoon 174 = .ok (.return_, 1) := by decide +kernel
noncomputable def fX12_findSoon_l3 (x0 : Nat) (x1 : Int32) (F3 : Int32 → zM → Option (zM)) (x4_1 : Int32) (m2 : zM) : Option (zM) :=
  zb1 (zm_gI m2 12 x0 25) fun v7 =>
  if v7 ≤ x4_1 then (
  some m2)
  else (
  zb1 (zm_gR m2 12 x0 50) fun v9 =>
  zb1 (if x4_1 = x1 then (
  some 0)
  else (
  some 1000000) : Option (Int32)) fun (s11 : Int32) =>
  zb1 (zm_sI m2 0 v9 x4_1 s11) fun m13 =>
  F3 (x4_1 + 1) m13)
noncomputable def fX12_findSoon_b132  : Option (Int32) :=
  some 1000000
noncomputable def fX12_findSoon_l63 (x0 : Nat) (x5_22 : Int32) (x2 : Int32) (x3 : Int32) (F32 : Int32 → zM → Option (zM)) (x6_30 : Int32) (m31 : zM) : Option (zM) :=
  zb1 (zm_gI m31 12 x0 25) fun v36 =>
  if v36 ≤ x6_30 then (
  some m31)
  else (
  zb1 (fX12_of m31 x0 (33 + x5_22)) fun v39 =>
  zb1 (fX12_of m31 x0 (33 + x6_30)) fun v41 =>
  zb1 (fX12_apart m31 v39 v41) fun v43 =>
  zb1 (fX12_range m31 x2) fun v45 =>
  zb1 (if v45 < v43 then (
  fX12_findSoon_b132)
  else (
  if x5_22 = x6_30 then (
  fX12_findSoon_b132)
  else (
  zb1 (zm_gR m31 12 x0 50) fun v59 =>
  zb1 (zm_aI m31 0 v59 x5_22) fun v61 =>
  zb1 (if x3 = 0 then (
  some v43)
  else (
  some 1) : Option (Int32)) fun (s63 : Int32) =>
  some (v61 + s63))) : Option (Int32)) fun (s46 : Int32) =>
  zb1 (zm_gR m31 12 x0 50) fun v49 =>
  zb1 (zm_gR m31 12 x0 50) fun v51 =>
  zb1 (zm_aI m31 0 v51 x6_30) fun v53 =>
  zb1 (fX12_lesser m31 v53 s46) fun v56 =>
  zb1 (zm_sI m31 0 v49 x6_30 v56) fun m57 =>
  F32 (x6_30 + 1) m57)
noncomputable def fX12_findSoon_l51 (x0 : Nat) (x2 : Int32) (x3 : Int32) (F24 : Int32 → zM → Option (zM)) (x5_22 : Int32) (m23 : zM) : Option (zM) :=
  zb1 (zm_gI m23 12 x0 25) fun v28 =>
  if v28 ≤ x5_22 then (
  some m23)
  else (
  zb1 (zf2 (fX12_findSoon_l63 x0 x5_22 x2 x3) zfu 0 m23 : Option (zM)) fun (m34 : zM) =>
  F24 (x5_22 + 1) m34)
noncomputable def fX12_findSoon_l41 (x0 : Nat) (x2 : Int32) (x3 : Int32) (F18 : Int32 → zM → Option (zM)) (x4_16 : Int32) (m17 : zM) : Option (zM) :=
  if 6 ≤ x4_16 then (
  some m17)
  else (
  zb1 (zf2 (fX12_findSoon_l51 x0 x2 x3) zfu 0 m17 : Option (zM)) fun (m26 : zM) =>
  F18 (x4_16 + 1) m26)
noncomputable def fX12_findSoon (μ : zM) (x0 : Nat) (x1 : Int32) (x2 : Int32) (x3 : Int32) : Option (zM) := zgd (zm_ck μ 12 x0) <|
  zb1 (zf2 (fX12_findSoon_l3 x0 x1) zfu 0 μ : Option (zM)) fun (m5 : zM) =>
  zb1 (zf2 (fX12_findSoon_l41 x0 x2 x3) zfu 0 m5 : Option (zM)) fun (m20 : zM) =>
  some m20
theorem fX12_findSoon_ck {μ : zM} {x0 : Nat} {x1 : Int32} {x2 : Int32} {x3 : Int32} {z : zM} (h : fX12_findSoon μ x0 x1 x2 x3 = some z) : zm_ck μ 12 x0 = true := (zgd_s h).1
set_option maxHeartbeats 4000000 in
set_option maxRecDepth 100000 in
theorem cX12_findSoon_ok {μ : zM} {x0 : Nat} {x1 : Int32} {x2 : Int32} {x3 : Int32} {mo : zM} (hf : fX12_findSoon μ x0 x1 x2 x3 = some mo) : zC yX12_findSoon cX12_findSoon 9 (none) 1 0 0 [.ref x0, .int x1, .int x2, .int x3] μ (none) mo := by
  replace hf := (zgd_s hf).2
  refine zC.of (by decide) (Nat.le_of_ble_eq_true rfl) (fun K hin => ?_)
  clear hin
  show zz K cX12_findSoon (9, RX12, none, 1, 0, 0, none, mo) 0 0 0 [(0, .ref x0), (1, .int x1), (2, .int x2), (3, .int x3)] [] μ
  refine zr_iconst 0 dX12_findSoon_0 (by decide) ?_
  refine zr_istore [(4, .int 0), (0, .ref x0), (1, .int x1), (2, .int x2), (3, .int x3)] dX12_findSoon_1 (Nat.le_of_ble_eq_true rfl) rfl ?_
  replace hf := zb1_s hf
  obtain ⟨m5, hg, hf⟩ := hf
  have hj6 : zz K cX12_findSoon (9, RX12, none, 1, 0, 0, none, mo) 0 0 38 [(0, .ref x0), (2, .int x2), (3, .int x3)] [] m5 := by
    refine zr_iconst 0 dX12_findSoon_38 (by decide) ?_
    refine zr_istore [(4, .int 0), (0, .ref x0), (2, .int x2), (3, .int x3)] dX12_findSoon_39 (Nat.le_of_ble_eq_true rfl) rfl ?_
    replace hf := zb1_s hf
    obtain ⟨m20, hg, hf⟩ := hf
    have hj21 : zz K cX12_findSoon (9, RX12, none, 1, 0, 0, none, mo) 0 0 174 [] [] m20 := by
      cases hf
      exact zr_vret dX12_findSoon_174
    clear hf
    have hf := hg
    clear hg
    have hL67 : ∀ (n : Nat) (x4_16 : Int32) (m17 : zM), zf2 (fX12_findSoon_l41 x0 x2 x3) n x4_16 m17 = some m20 → zz K cX12_findSoon (9, RX12, none, 1, 0, 0, none, mo) 0 0 41 [(0, .ref x0), (2, .int x2), (3, .int x3), (4, .int x4_16)] [] m17 := by
      intro n
      induction n with
      | zero => intro x4_16 m17 hf; cases hf
      | succ n ih19 =>
        intro x4_16 m17 hf
        replace hf := zf2_s hf
        generalize zf2 (fX12_findSoon_l41 x0 x2 x3) n = F18 at hf ih19
        unfold fX12_findSoon_l41 at hf
        refine zr_iload 3 dX12_findSoon_41 rfl ?_
        refine zr_bipush 6 dX12_findSoon_43 (by decide) ?_
        refine zr_icmp_ge 174 dX12_findSoon_45 (by decide) (fun hc => ?_) (fun hc => ?_)
        · rw [if_pos hc] at hf
          cases hf
          exact zr_lv [] rfl hj21
        · rw [if_neg hc] at hf
          refine zr_iconst 0 dX12_findSoon_48 (by decide) ?_
          refine zr_istore [(5, .int 0), (0, .ref x0), (2, .int x2), (3, .int x3), (4, .int x4_16)] dX12_findSoon_49 (Nat.le_of_ble_eq_true rfl) rfl ?_
          replace hf := zb1_s hf
          obtain ⟨m26, hg, hf⟩ := hf
          have hj27 : zz K cX12_findSoon (9, RX12, none, 1, 0, 0, none, mo) 0 0 168 [(0, .ref x0), (2, .int x2), (3, .int x3), (4, .int x4_16)] [] m26 := by
            refine zr_iinc (j := 3) (x4_16 + 1) [(4, .int (x4_16 + 1)), (0, .ref x0), (2, .int x2), (3, .int x3)] dX12_findSoon_168 rfl rfl (Nat.le_of_ble_eq_true rfl) rfl ?_
            refine zr_goto 41 dX12_findSoon_171 (by decide) ?_
            exact zr_lv [1, 2, 3, 0] rfl (ih19 (x4_16 + 1) m26 hf)
          clear hf
          have hf := hg
          clear hg
          have hL66 : ∀ (n : Nat) (x5_22 : Int32) (m23 : zM), zf2 (fX12_findSoon_l51 x0 x2 x3) n x5_22 m23 = some m26 → zz K cX12_findSoon (9, RX12, none, 1, 0, 0, none, mo) 0 0 51 [(0, .ref x0), (2, .int x2), (3, .int x3), (4, .int x4_16), (5, .int x5_22)] [] m23 := by
            intro n
            induction n with
            | zero => intro x5_22 m23 hf; cases hf
            | succ n ih25 =>
              intro x5_22 m23 hf
              replace hf := zf2_s hf
              generalize zf2 (fX12_findSoon_l51 x0 x2 x3) n = F24 at hf ih25
              unfold fX12_findSoon_l51 at hf
              refine zr_iload 4 dX12_findSoon_51 rfl ?_
              refine zr_aload_n 0 dX12_findSoon_53 rfl ?_
              replace hf := zb1_s hf
              obtain ⟨v28, h29, hf⟩ := hf
              refine zr_get (zm_gI_g h29) zk12 (by decide) zl_1032 dX12_findSoon_54 ?_
              refine zr_icmp_ge 168 dX12_findSoon_57 (by decide) (fun hc => ?_) (fun hc => ?_)
              · rw [if_pos hc] at hf
                cases hf
                exact zr_lv [0, 1, 2, 3] rfl hj27
              · rw [if_neg hc] at hf
                refine zr_iconst 0 dX12_findSoon_60 (by decide) ?_
                refine zr_istore [(6, .int 0), (0, .ref x0), (2, .int x2), (3, .int x3), (4, .int x4_16), (5, .int x5_22)] dX12_findSoon_61 (Nat.le_of_ble_eq_true rfl) rfl ?_
                replace hf := zb1_s hf
                obtain ⟨m34, hg, hf⟩ := hf
                have hj35 : zz K cX12_findSoon (9, RX12, none, 1, 0, 0, none, mo) 0 0 162 [(0, .ref x0), (2, .int x2), (3, .int x3), (4, .int x4_16), (5, .int x5_22)] [] m34 := by
                  refine zr_iinc (j := 4) (x5_22 + 1) [(5, .int (x5_22 + 1)), (0, .ref x0), (2, .int x2), (3, .int x3), (4, .int x4_16)] dX12_findSoon_162 rfl rfl (Nat.le_of_ble_eq_true rfl) rfl ?_
                  refine zr_goto 51 dX12_findSoon_165 (by decide) ?_
                  exact zr_lv [1, 2, 3, 4, 0] rfl (ih25 (x5_22 + 1) m34 hf)
                clear hf
                have hf := hg
                clear hg
                have hL65 : ∀ (n : Nat) (x6_30 : Int32) (m31 : zM), zf2 (fX12_findSoon_l63 x0 x5_22 x2 x3) n x6_30 m31 = some m34 → zz K cX12_findSoon (9, RX12, none, 1, 0, 0, none, mo) 0 0 63 [(0, .ref x0), (2, .int x2), (3, .int x3), (4, .int x4_16), (5, .int x5_22), (6, .int x6_30)] [] m31 := by
                  intro n
                  induction n with
                  | zero => intro x6_30 m31 hf; cases hf
                  | succ n ih33 =>
                    intro x6_30 m31 hf
                    replace hf := zf2_s hf
                    generalize zf2 (fX12_findSoon_l63 x0 x5_22 x2 x3) n = F32 at hf ih33
                    unfold fX12_findSoon_l63 at hf
                    refine zr_iload 5 dX12_findSoon_63 rfl ?_
                    refine zr_aload_n 0 dX12_findSoon_65 rfl ?_
                    replace hf := zb1_s hf
                    obtain ⟨v36, h37, hf⟩ := hf
                    refine zr_get (zm_gI_g h37) zk12 (by decide) zl_1032 dX12_findSoon_66 ?_
                    refine zr_icmp_ge 162 dX12_findSoon_69 (by decide) (fun hc => ?_) (fun hc => ?_)
                    · rw [if_pos hc] at hf
                      cases hf
                      exact zr_lv [0, 1, 2, 3, 4] rfl hj35
                    · rw [if_neg hc] at hf
                      refine zr_aload_n 0 dX12_findSoon_72 rfl ?_
                      refine zr_bipush 33 dX12_findSoon_73 (by decide) ?_
                      refine zr_iload 4 dX12_findSoon_75 rfl ?_
                      refine zr_iadd dX12_findSoon_77 ?_
                      replace hf := zb1_s hf
                      obtain ⟨v39, h38, hf⟩ := hf
                      refine zr_callV (ci := 12) [.int (33 + x5_22)] (cX12_of_ok h38) zvs_X12_of zl_1029 zl_1030 (fX12_of_ck h38) rfl rfl zl_1028 rfl (Nat.le_of_ble_eq_true rfl) (Nat.le_of_ble_eq_true rfl) (Nat.le_of_ble_eq_true rfl) (Nat.le_of_ble_eq_true rfl) dX12_findSoon_78 rfl ?_
                      refine zr_aload_n 0 dX12_findSoon_81 rfl ?_
                      refine zr_bipush 33 dX12_findSoon_82 (by decide) ?_
                      refine zr_iload 5 dX12_findSoon_84 rfl ?_
                      refine zr_iadd dX12_findSoon_86 ?_
                      replace hf := zb1_s hf
                      obtain ⟨v41, h40, hf⟩ := hf
                      refine zr_callV (ci := 12) [.int (33 + x6_30)] (cX12_of_ok h40) zvs_X12_of zl_1029 zl_1030 (fX12_of_ck h40) rfl rfl zl_1028 rfl (Nat.le_of_ble_eq_true rfl) (Nat.le_of_ble_eq_true rfl) (Nat.le_of_ble_eq_true rfl) (Nat.le_of_ble_eq_true rfl) dX12_findSoon_87 rfl ?_
                      replace hf := zb1_s hf
                      obtain ⟨v43, h42, hf⟩ := hf
                      refine zr_callS [.int v39, .int v41] (cX12_apart_ok h42) zvs_X12_apart zl_1039 zl_1038 rfl (Nat.le_of_ble_eq_true rfl) (Nat.le_of_ble_eq_true rfl) (Nat.le_of_ble_eq_true rfl) (Nat.le_of_ble_eq_true rfl) dX12_findSoon_90 rfl ?_
                      refine zr_istore [(7, .int v43), (0, .ref x0), (2, .int x2), (3, .int x3), (4, .int x4_16), (5, .int x5_22), (6, .int x6_30)] dX12_findSoon_93 (Nat.le_of_ble_eq_true rfl) rfl ?_
                      refine zr_iload 0 dX12_findSoon_95 rfl ?_
                      refine zr_iload_n 2 dX12_findSoon_97 rfl ?_
                      replace hf := zb1_s hf
                      obtain ⟨v45, h44, hf⟩ := hf
                      refine zr_callS [.int x2] (cX12_range_ok h44) zvs_X12_range zl_1054 zl_1053 rfl (Nat.le_of_ble_eq_true rfl) (Nat.le_of_ble_eq_true rfl) (Nat.le_of_ble_eq_true rfl) (Nat.le_of_ble_eq_true rfl) dX12_findSoon_98 rfl ?_
                      replace hf := zb1_s hf
                      obtain ⟨s46, hg, hf⟩ := hf
                      have hj47 : zz K cX12_findSoon (9, RX12, none, 1, 0, 0, none, mo) 0 0 135 [(0, .ref x0), (2, .int x2), (3, .int x3), (4, .int x4_16), (5, .int x5_22), (6, .int x6_30)] [.int s46] m31 := by
                        refine zr_istore [(8, .int s46), (0, .ref x0), (2, .int x2), (3, .int x3), (4, .int x4_16), (5, .int x5_22), (6, .int x6_30)] dX12_findSoon_135 (Nat.le_of_ble_eq_true rfl) rfl ?_
                        refine zr_aload_n 1 dX12_findSoon_137 rfl ?_
                        replace hf := zb1_s hf
                        obtain ⟨v49, h50, hf⟩ := hf
                        refine zr_get (zm_gR_g h50) zk12 (by decide) zl_887 dX12_findSoon_138 ?_
                        refine zr_iload 6 dX12_findSoon_141 rfl ?_
                        refine zr_aload_n 1 dX12_findSoon_143 rfl ?_
                        replace hf := zb1_s hf
                        obtain ⟨v51, h52, hf⟩ := hf
                        refine zr_get (zm_gR_g h52) zk12 (by decide) zl_887 dX12_findSoon_144 ?_
                        refine zr_iload 6 dX12_findSoon_147 rfl ?_
                        replace hf := zb1_s hf
                        obtain ⟨v53, h54, hf⟩ := hf
                        refine zr_iald h54 dX12_findSoon_149 ?_
                        refine zr_iload 0 dX12_findSoon_150 rfl ?_
                        replace hf := zb1_s hf
                        obtain ⟨v56, h55, hf⟩ := hf
                        refine zr_callS [.int v53, .int s46] (cX12_lesser_ok h55) zvs_X12_lesser zl_1167 zl_1166 rfl (Nat.le_of_ble_eq_true rfl) (Nat.le_of_ble_eq_true rfl) (Nat.le_of_ble_eq_true rfl) (Nat.le_of_ble_eq_true rfl) dX12_findSoon_152 rfl ?_
                        replace hf := zb1_s hf
                        obtain ⟨m57, h58, hf⟩ := hf
                        refine zr_iast h58 dX12_findSoon_155 ?_
                        refine zr_iinc (j := 6) (x6_30 + 1) [(6, .int (x6_30 + 1)), (8, .int s46), (0, .ref x0), (2, .int x2), (3, .int x3), (4, .int x4_16), (5, .int x5_22)] dX12_findSoon_156 rfl rfl (Nat.le_of_ble_eq_true rfl) rfl ?_
                        refine zr_goto 63 dX12_findSoon_159 (by decide) ?_
                        exact zr_lv [2, 3, 4, 5, 6, 0] rfl (ih33 (x6_30 + 1) m57 hf)
                      clear hf
                      have hf := hg
                      clear hg
                      have hb48 : ∀ (_ : Unit), fX12_findSoon_b132 = some s46 → zz K cX12_findSoon (9, RX12, none, 1, 0, 0, none, mo) 0 0 132 [(0, .ref x0), (2, .int x2), (3, .int x3), (4, .int x4_16), (5, .int x5_22), (6, .int x6_30)] [] m31 := by
                        intro _ hf
                        unfold fX12_findSoon_b132 at hf
                        refine zr_ldcw zl_1187 dX12_findSoon_132 ?_
                        cases hf
                        exact zr_lv [0, 1, 2, 3, 4, 5] rfl hj47
                      refine zr_icmp_gt 132 dX12_findSoon_101 (by decide) (fun hc => ?_) (fun hc => ?_)
                      · rw [if_pos hc] at hf
                        exact zr_lv [1, 2, 3, 4, 5, 6] rfl (hb48 () hf)
                      · rw [if_neg hc] at hf
                        refine zr_iload 5 dX12_findSoon_104 rfl ?_
                        refine zr_iload 6 dX12_findSoon_106 rfl ?_
                        refine zr_icmp_eq 132 dX12_findSoon_108 (by decide) (fun hc => ?_) (fun hc => ?_)
                        · rw [if_pos hc] at hf
                          exact zr_lv [1, 2, 3, 4, 5, 6] rfl (hb48 () hf)
                        · rw [if_neg hc] at hf
                          refine zr_aload_n 1 dX12_findSoon_111 rfl ?_
                          replace hf := zb1_s hf
                          obtain ⟨v59, h60, hf⟩ := hf
                          refine zr_get (zm_gR_g h60) zk12 (by decide) zl_887 dX12_findSoon_112 ?_
                          refine zr_iload 5 dX12_findSoon_115 rfl ?_
                          replace hf := zb1_s hf
                          obtain ⟨v61, h62, hf⟩ := hf
                          refine zr_iald h62 dX12_findSoon_117 ?_
                          refine zr_iload_n 3 dX12_findSoon_118 rfl ?_
                          replace hf := zb1_s hf
                          obtain ⟨s63, hg, hf⟩ := hf
                          have hj64 : zz K cX12_findSoon (9, RX12, none, 1, 0, 0, none, mo) 0 0 128 [(0, .ref x0), (2, .int x2), (3, .int x3), (4, .int x4_16), (5, .int x5_22), (6, .int x6_30)] [.int s63, .int v61] m31 := by
                            refine zr_iadd dX12_findSoon_128 ?_
                            refine zr_goto 135 dX12_findSoon_129 (by decide) ?_
                            cases hf
                            exact zr_lv [0, 1, 2, 3, 4, 5] rfl hj47
                          clear hf
                          have hf := hg
                          clear hg
                          refine zr_if_eq 126 dX12_findSoon_119 (by decide) (fun hc => ?_) (fun hc => ?_)
                          · rw [if_pos hc] at hf
                            refine zr_iload 0 dX12_findSoon_126 rfl ?_
                            cases hf
                            exact zr_lv [1, 2, 3, 4, 5, 6] rfl hj64
                          · rw [if_neg hc] at hf
                            refine zr_iconst 1 dX12_findSoon_122 (by decide) ?_
                            refine zr_goto 128 dX12_findSoon_123 (by decide) ?_
                            cases hf
                            exact zr_lv [1, 2, 3, 4, 5, 6] rfl hj64
                exact zr_lv [1, 2, 3, 4, 5, 0] rfl (hL65 _ 0 m23 hf)
          exact zr_lv [1, 2, 3, 4, 0] rfl (hL66 _ 0 m17 hf)
    exact zr_lv [1, 2, 3, 0] rfl (hL67 _ 0 m5 hf)
  clear hf
  have hf := hg
  clear hg
  have hL15 : ∀ (n : Nat) (x4_1 : Int32) (m2 : zM), zf2 (fX12_findSoon_l3 x0 x1) n x4_1 m2 = some m5 → zz K cX12_findSoon (9, RX12, none, 1, 0, 0, none, mo) 0 0 3 [(0, .ref x0), (1, .int x1), (2, .int x2), (3, .int x3), (4, .int x4_1)] [] m2 := by
    intro n
    induction n with
    | zero => intro x4_1 m2 hf; cases hf
    | succ n ih4 =>
      intro x4_1 m2 hf
      replace hf := zf2_s hf
      generalize zf2 (fX12_findSoon_l3 x0 x1) n = F3 at hf ih4
      unfold fX12_findSoon_l3 at hf
      refine zr_iload 4 dX12_findSoon_3 rfl ?_
      refine zr_aload_n 0 dX12_findSoon_5 rfl ?_
      replace hf := zb1_s hf
      obtain ⟨v7, h8, hf⟩ := hf
      refine zr_get (zm_gI_g h8) zk12 (by decide) zl_1032 dX12_findSoon_6 ?_
      refine zr_icmp_ge 38 dX12_findSoon_9 (by decide) (fun hc => ?_) (fun hc => ?_)
      · rw [if_pos hc] at hf
        cases hf
        exact zr_lv [0, 2, 3] rfl hj6
      · rw [if_neg hc] at hf
        refine zr_aload_n 0 dX12_findSoon_12 rfl ?_
        replace hf := zb1_s hf
        obtain ⟨v9, h10, hf⟩ := hf
        refine zr_get (zm_gR_g h10) zk12 (by decide) zl_887 dX12_findSoon_13 ?_
        refine zr_iload 4 dX12_findSoon_16 rfl ?_
        refine zr_iload 4 dX12_findSoon_18 rfl ?_
        refine zr_iload_n 1 dX12_findSoon_20 rfl ?_
        replace hf := zb1_s hf
        obtain ⟨s11, hg, hf⟩ := hf
        have hj12 : zz K cX12_findSoon (9, RX12, none, 1, 0, 0, none, mo) 0 0 31 [(0, .ref x0), (1, .int x1), (2, .int x2), (3, .int x3), (4, .int x4_1)] [.int s11, .int x4_1, .ref v9] m2 := by
          replace hf := zb1_s hf
          obtain ⟨m13, h14, hf⟩ := hf
          refine zr_iast h14 dX12_findSoon_31 ?_
          refine zr_iinc (j := 4) (x4_1 + 1) [(4, .int (x4_1 + 1)), (0, .ref x0), (1, .int x1), (2, .int x2), (3, .int x3)] dX12_findSoon_32 rfl rfl (Nat.le_of_ble_eq_true rfl) rfl ?_
          refine zr_goto 3 dX12_findSoon_35 (by decide) ?_
          exact zr_lv [1, 2, 3, 4, 0] rfl (ih4 (x4_1 + 1) m13 hf)
        clear hf
        have hf := hg
        clear hg
        refine zr_icmp_ne 28 dX12_findSoon_21 (by decide) (fun hc => ?_) (fun hc => ?_)
        · rw [if_neg hc] at hf
          refine zr_ldcw zl_1187 dX12_findSoon_28 ?_
          cases hf
          exact zr_lv [0, 1, 2, 3, 4] rfl hj12
        · rw [if_pos hc] at hf
          refine zr_iconst 0 dX12_findSoon_24 (by decide) ?_
          refine zr_goto 31 dX12_findSoon_25 (by decide) ?_
          cases hf
          exact zr_lv [0, 1, 2, 3, 4] rfl hj12
  exact zr_lv [1, 2, 3, 4, 0] rfl (hL15 _ 0 μ hf)
theorem zl_1273 : Cond.code yX12_findSoon cX12_findSoon 9 (none) ∈ zt := zt_at 1962 (by decide +kernel)
theorem zvs_X12_findSoon : zvS yX12_findSoon cX12_findSoon 9 (none) 3 := ⟨zl_1273, zl_893, ⟨by decide +kernel, by decide +kernel, by decide +kernel⟩, by decide⟩
theorem zl_1274 : Cond.methodLink RX12 498 yX12_findSoon ∈ zt := zt_at 1959 (by decide +kernel)
theorem zl_1275 : Cond.instanceMethod yX12_findSoon ∈ zt := zt_at 1961 (by decide +kernel)
theorem zl_1276 : Cond.selects RX12 yX12_findSoon yX12_findSoon ∈ zt := zt_at 120 (by decide +kernel)
theorem dX12_spread_0 : decode cX12_spread 0 = .ok (.aload_n 0, 1) := by decide +kernel
theorem dX12_spread_1 : decode cX12_spread 1 = .ok (.iconst 0, 1) := by decide +kernel
theorem dX12_spread_2 : decode cX12_spread 2 = .ok (.putfield 93, 3) := by decide +kernel
theorem dX12_spread_5 : decode cX12_spread 5 = .ok (.aload_n 0, 1) := by decide +kernel
theorem dX12_spread_6 : decode cX12_spread 6 = .ok (.iload_n 1, 1) := by decide +kernel
theorem dX12_spread_7 : decode cX12_spread 7 = .ok (.invokevirtual 298, 3) := by decide +kernel
theorem dX12_spread_10 : decode cX12_spread 10 = .ok (.ifCond .eq 20, 3) := by decide +kernel
theorem dX12_spread_13 : decode cX12_spread 13 = .ok (.aload_n 0, 1) := by decide +kernel
theorem dX12_spread_14 : decode cX12_spread 14 = .ok (.iload_n 2, 1) := by decide +kernel
theorem dX12_spread_15 : decode cX12_spread 15 = .ok (.invokevirtual 301, 3) := by decide +kernel
theorem dX12_spread_18 : decode cX12_spread 18 = .ok (.ifCond .eq 12, 3) := by decide +kernel
theorem dX12_spread_21 : decode cX12_spread 21 = .ok (.iload_n 3, 1) := by decide +kernel
theorem dX12_spread_22 : decode cX12_spread 22 = .ok (.iconst 0, 1) := by decide +kernel
theorem dX12_spread_23 : decode cX12_spread 23 = .ok (.iconst 2, 1) := by decide +kernel
theorem dX12_spread_24 : decode cX12_spread 24 = .ok (.invokestatic 101, 3) := by decide +kernel
theorem dX12_spread_27 : decode cX12_spread 27 = .ok (.ifCond .ne 5, 3) := by decide +kernel
theorem dX12_spread_30 : decode cX12_spread 30 = .ok (.iconst (-1), 1) := by decide +kernel
theorem dX12_spread_31 : decode cX12_spread 31 = .ok (.ireturn, 1) := by decide +kernel
theorem dX12_spread_32 : decode cX12_spread 32 = .ok (.aload_n 0, 1) := by decide +kernel
theorem dX12_spread_33 : decode cX12_spread 33 = .ok (.iload_n 2, 1) := by decide +kernel
theorem dX12_spread_34 : decode cX12_spread 34 = .ok (.iload_n 3, 1) := by decide +kernel
theorem dX12_spread_35 : decode cX12_spread 35 = .ok (.iconst 0, 1) := by decide +kernel
theorem dX12_spread_36 : decode cX12_spread 36 = .ok (.invokevirtual 498, 3) := by decide +kernel
theorem dX12_spread_39 : decode cX12_spread 39 = .ok (.iconst 0, 1) := by decide +kernel
theorem dX12_spread_40 : decode cX12_spread 40 = .ok (.istore 5, 2) := by decide +kernel
theorem dX12_spread_42 : decode cX12_spread 42 = .ok (.iconst 0, 1) := by decide +kernel
theorem dX12_spread_43 : decode cX12_spread 43 = .ok (.istore 6, 2) := by decide +kernel
theorem dX12_spread_45 : decode cX12_spread 45 = .ok (.iconst 0, 1) := by decide +kernel
theorem dX12_spread_46 : decode cX12_spread 46 = .ok (.istore 7, 2) := by decide +kernel
theorem dX12_spread_48 : decode cX12_spread 48 = .ok (.iload 7, 2) := by decide +kernel
theorem dX12_spread_50 : decode cX12_spread 50 = .ok (.aload_n 0, 1) := by decide +kernel
theorem dX12_spread_51 : decode cX12_spread 51 = .ok (.getfield 276, 3) := by decide +kernel
theorem dX12_spread_54 : decode cX12_spread 54 = .ok (.if_icmp .ge 64, 3) := by decide +kernel
theorem dX12_spread_57 : decode cX12_spread 57 = .ok (.iload 5, 2) := by decide +kernel
theorem dX12_spread_59 : decode cX12_spread 59 = .ok (.aload_n 0, 1) := by decide +kernel
theorem dX12_spread_60 : decode cX12_spread 60 = .ok (.getfield 80, 3) := by decide +kernel
theorem dX12_spread_63 : decode cX12_spread 63 = .ok (.iload 7, 2) := by decide +kernel
theorem dX12_spread_65 : decode cX12_spread 65 = .ok (.iaload, 1) := by decide +kernel
theorem dX12_spread_66 : decode cX12_spread 66 = .ok (.ldc_w 423, 3) := by decide +kernel
theorem dX12_spread_69 : decode cX12_spread 69 = .ok (.if_icmp .ge 7, 3) := by decide +kernel
theorem dX12_spread_72 : decode cX12_spread 72 = .ok (.iconst 1, 1) := by decide +kernel
theorem dX12_spread_73 : decode cX12_spread 73 = .ok (.goto 4, 3) := by decide +kernel
theorem dX12_spread_76 : decode cX12_spread 76 = .ok (.iconst 0, 1) := by decide +kernel
theorem dX12_spread_77 : decode cX12_spread 77 = .ok (.iadd, 1) := by decide +kernel
theorem dX12_spread_78 : decode cX12_spread 78 = .ok (.istore 5, 2) := by decide +kernel
theorem dX12_spread_80 : decode cX12_spread 80 = .ok (.aload_n 0, 1) := by decide +kernel
theorem dX12_spread_81 : decode cX12_spread 81 = .ok (.getfield 80, 3) := by decide +kernel
theorem dX12_spread_84 : decode cX12_spread 84 = .ok (.iload 7, 2) := by decide +kernel
theorem dX12_spread_86 : decode cX12_spread 86 = .ok (.iaload, 1) := by decide +kernel
theorem dX12_spread_87 : decode cX12_spread 87 = .ok (.ldc_w 423, 3) := by decide +kernel
theorem dX12_spread_90 : decode cX12_spread 90 = .ok (.if_icmp .ge 18, 3) := by decide +kernel
theorem dX12_spread_93 : decode cX12_spread 93 = .ok (.iload 6, 2) := by decide +kernel
theorem dX12_spread_95 : decode cX12_spread 95 = .ok (.aload_n 0, 1) := by decide +kernel
theorem dX12_spread_96 : decode cX12_spread 96 = .ok (.getfield 80, 3) := by decide +kernel
theorem dX12_spread_99 : decode cX12_spread 99 = .ok (.iload 7, 2) := by decide +kernel
theorem dX12_spread_101 : decode cX12_spread 101 = .ok (.iaload, 1) := by decide +kernel
theorem dX12_spread_102 : decode cX12_spread 102 = .ok (.invokestatic 168, 3) := by decide +kernel
theorem dX12_spread_105 : decode cX12_spread 105 = .ok (.goto 5, 3) := by decide +kernel
theorem dX12_spread_108 : decode cX12_spread 108 = .ok (.iload 6, 2) := by decide +kernel
theorem dX12_spread_110 : decode cX12_spread 110 = .ok (.istore 6, 2) := by decide +kernel
theorem dX12_spread_112 : decode cX12_spread 112 = .ok (.iinc 7 1, 3) := by decide +kernel
theorem dX12_spread_115 : decode cX12_spread 115 = .ok (.goto (-67), 3) := by decide +kernel
theorem dX12_spread_118 : decode cX12_spread 118 = .ok (.iload 4, 2) := by decide +kernel
theorem dX12_spread_120 : decode cX12_spread 120 = .ok (.ifCond .eq 8, 3) := by decide +kernel
theorem dX12_spread_123 : decode cX12_spread 123 = .ok (.iload 6, 2) := by decide +kernel
theorem dX12_spread_125 : decode cX12_spread 125 = .ok (.goto 5, 3) := by decide +kernel
theorem dX12_spread_128 : decode cX12_spread 128 = .ok (.iload 5, 2) := by decide +kernel
theorem dX12_spread_130 : decode cX12_spread 130 = .ok (.ireturn, 1) := by decide +kernel
noncomputable def fX12_spread_l48 (m11 : zM) (x0 : Nat) (F15 : Int32 → Int32 → Int32 → Option (Int32 × Int32)) (x5_12 : Int32) (x6_13 : Int32) (x7_14 : Int32) : Option (Int32 × Int32) :=
  zb1 (zm_gI m11 12 x0 25) fun v20 =>
  if v20 ≤ x7_14 then (
  some (x5_12, x6_13))
  else (
  zb1 (zm_gR m11 12 x0 50) fun v22 =>
  zb1 (zm_aI m11 0 v22 x7_14) fun v24 =>
  zb1 (if 1000000 ≤ v24 then (
  some 0)
  else (
  some 1) : Option (Int32)) fun (s26 : Int32) =>
  zb1 (zm_gR m11 12 x0 50) fun v28 =>
  zb1 (zm_aI m11 0 v28 x7_14) fun v30 =>
  zb1 (if 1000000 ≤ v30 then (
  some x6_13)
  else (
  zb1 (zm_gR m11 12 x0 50) fun v34 =>
  zb1 (zm_aI m11 0 v34 x7_14) fun v36 =>
  zb1 (fX12_greater m11 x6_13 v36) fun v39 =>
  some v39) : Option (Int32)) fun (s32 : Int32) =>
  F15 (x5_12 + s26) s32 (x7_14 + 1))
noncomputable def fX12_spread (μ : zM) (x0 : Nat) (x1 : Int32) (x2 : Int32) (x3 : Int32) (x4 : Int32) : Option (Int32 × zM) := zgd (zm_ck μ 12 x0) <|
  zb1 (zm_p μ 12 x0 0 (.int 0)) fun m1 =>
  zb2 (fX12_hand m1 x0 x1) fun v5 m4 =>
  if v5 = 0 then (
  some ((-1), m4))
  else (
  zb1 (fX12_isPerson m4 x0 x2) fun v7 =>
  if v7 = 0 then (
  some ((-1), m4))
  else (
  zb1 (fX12_in m4 x3 0 2) fun v9 =>
  if v9 = 0 then (
  some ((-1), m4))
  else (
  zb1 (fX12_findSoon m4 x0 x2 x3 0) fun m11 =>
  zb2 (zf3 (fX12_spread_l48 m11 x0) zfu 0 0 0 : Option (Int32 × Int32)) fun (x5_17 : Int32) (x6_18 : Int32) =>
  zb1 (if x4 = 0 then (
  some x5_17)
  else (
  some x6_18) : Option (Int32)) fun (s41 : Int32) =>
  some (s41, m11))))
theorem fX12_spread_ck {μ : zM} {x0 : Nat} {x1 : Int32} {x2 : Int32} {x3 : Int32} {x4 : Int32} {z : Int32 × zM} (h : fX12_spread μ x0 x1 x2 x3 x4 = some z) : zm_ck μ 12 x0 = true := (zgd_s h).1
set_option maxHeartbeats 4000000 in
set_option maxRecDepth 100000 in
theorem cX12_spread_ok {μ : zM} {x0 : Nat} {x1 : Int32} {x2 : Int32} {x3 : Int32} {x4 : Int32} {r : Int32} {mo : zM} (hf : fX12_spread μ x0 x1 x2 x3 x4 = some (r, mo)) : zC yX12_spread cX12_spread 8 (some .int) 3 0 0 [.ref x0, .int x1, .int x2, .int x3, .int x4] μ (some (.int r)) mo := by
  replace hf := (zgd_s hf).2
  refine zC.of (by decide) (Nat.le_of_ble_eq_true rfl) (fun K hin => ?_)
  clear hin
  show zz K cX12_spread (8, RX12, some .int, 3, 0, 0, some (.int r), mo) 0 0 0 [(0, .ref x0), (1, .int x1), (2, .int x2), (3, .int x3), (4, .int x4)] [] μ
  refine zr_aload_n 0 dX12_spread_0 rfl ?_
  refine zr_iconst 0 dX12_spread_1 (by decide) ?_
  replace hf := zb1_s hf
  obtain ⟨m1, h2, hf⟩ := hf
  refine zr_put h2 zk12 (by decide) zl_899 rfl rfl rfl dX12_spread_2 ?_
  refine zr_aload_n 0 dX12_spread_5 rfl ?_
  refine zr_iload_n 1 dX12_spread_6 rfl ?_
  replace hf := zb2_s hf
  obtain ⟨v5, m4, h3, hf⟩ := hf
  refine zr_callV (ci := 12) [.int x1] (cX12_hand_ok h3) zvs_X12_hand zl_1057 zl_1058 (fX12_hand_ck h3) rfl rfl zl_1056 rfl (Nat.le_of_ble_eq_true rfl) (Nat.le_of_ble_eq_true rfl) (Nat.le_of_ble_eq_true rfl) (Nat.le_of_ble_eq_true rfl) dX12_spread_7 rfl ?_
  refine zr_if_eq 30 dX12_spread_10 (by decide) (fun hc => ?_) (fun hc => ?_)
  · rw [if_pos hc] at hf
    refine zr_iconst (-1) dX12_spread_30 (by decide) ?_
    cases hf
    exact zr_iret dX12_spread_31
  · rw [if_neg hc] at hf
    refine zr_aload_n 0 dX12_spread_13 rfl ?_
    refine zr_iload_n 2 dX12_spread_14 rfl ?_
    replace hf := zb1_s hf
    obtain ⟨v7, h6, hf⟩ := hf
    refine zr_callV (ci := 12) [.int x2] (cX12_isPerson_ok h6) zvs_X12_isPerson zl_1061 zl_1062 (fX12_isPerson_ck h6) rfl rfl zl_1060 rfl (Nat.le_of_ble_eq_true rfl) (Nat.le_of_ble_eq_true rfl) (Nat.le_of_ble_eq_true rfl) (Nat.le_of_ble_eq_true rfl) dX12_spread_15 rfl ?_
    refine zr_if_eq 30 dX12_spread_18 (by decide) (fun hc => ?_) (fun hc => ?_)
    · rw [if_pos hc] at hf
      refine zr_iconst (-1) dX12_spread_30 (by decide) ?_
      cases hf
      exact zr_iret dX12_spread_31
    · rw [if_neg hc] at hf
      refine zr_iload_n 3 dX12_spread_21 rfl ?_
      refine zr_iconst 0 dX12_spread_22 (by decide) ?_
      refine zr_iconst 2 dX12_spread_23 (by decide) ?_
      replace hf := zb1_s hf
      obtain ⟨v9, h8, hf⟩ := hf
      refine zr_callS [.int x3, .int 0, .int 2] (cX12_in_ok h8) zvs_X12_in zl_898 zl_897 rfl (Nat.le_of_ble_eq_true rfl) (Nat.le_of_ble_eq_true rfl) (Nat.le_of_ble_eq_true rfl) (Nat.le_of_ble_eq_true rfl) dX12_spread_24 rfl ?_
      refine zr_if_ne 32 dX12_spread_27 (by decide) (fun hc => ?_) (fun hc => ?_)
      · rw [if_neg hc] at hf
        refine zr_aload_n 0 dX12_spread_32 rfl ?_
        refine zr_iload_n 2 dX12_spread_33 rfl ?_
        refine zr_iload_n 3 dX12_spread_34 rfl ?_
        refine zr_iconst 0 dX12_spread_35 (by decide) ?_
        replace hf := zb1_s hf
        obtain ⟨m11, h10, hf⟩ := hf
        refine zr_callV (ci := 12) [.int x2, .int x3, .int 0] (cX12_findSoon_ok h10) zvs_X12_findSoon zl_1275 zl_1276 (fX12_findSoon_ck h10) rfl rfl zl_1274 rfl (Nat.le_of_ble_eq_true rfl) (Nat.le_of_ble_eq_true rfl) (Nat.le_of_ble_eq_true rfl) (Nat.le_of_ble_eq_true rfl) dX12_spread_36 rfl ?_
        refine zr_iconst 0 dX12_spread_39 (by decide) ?_
        refine zr_istore [(5, .int 0), (0, .ref x0), (1, .int x1), (2, .int x2), (3, .int x3), (4, .int x4)] dX12_spread_40 (Nat.le_of_ble_eq_true rfl) rfl ?_
        refine zr_iconst 0 dX12_spread_42 (by decide) ?_
        refine zr_istore [(6, .int 0), (5, .int 0), (0, .ref x0), (1, .int x1), (2, .int x2), (3, .int x3), (4, .int x4)] dX12_spread_43 (Nat.le_of_ble_eq_true rfl) rfl ?_
        refine zr_iconst 0 dX12_spread_45 (by decide) ?_
        refine zr_istore [(7, .int 0), (6, .int 0), (5, .int 0), (0, .ref x0), (1, .int x1), (2, .int x2), (3, .int x3), (4, .int x4)] dX12_spread_46 (Nat.le_of_ble_eq_true rfl) rfl ?_
        replace hf := zb2_s hf
        obtain ⟨x5_17, x6_18, hg, hf⟩ := hf
        have hj19 : zz K cX12_spread (8, RX12, some .int, 3, 0, 0, some (.int r), mo) 0 0 118 [(4, .int x4), (5, .int x5_17), (6, .int x6_18)] [] m11 := by
          refine zr_iload 0 dX12_spread_118 rfl ?_
          replace hf := zb1_s hf
          obtain ⟨s41, hg, hf⟩ := hf
          have hj42 : zz K cX12_spread (8, RX12, some .int, 3, 0, 0, some (.int r), mo) 0 0 130 [] [.int s41] m11 := by
            cases hf
            exact zr_iret dX12_spread_130
          clear hf
          have hf := hg
          clear hg
          refine zr_if_eq 128 dX12_spread_120 (by decide) (fun hc => ?_) (fun hc => ?_)
          · rw [if_pos hc] at hf
            refine zr_iload 1 dX12_spread_128 rfl ?_
            cases hf
            exact zr_lv [] rfl hj42
          · rw [if_neg hc] at hf
            refine zr_iload 2 dX12_spread_123 rfl ?_
            refine zr_goto 130 dX12_spread_125 (by decide) ?_
            cases hf
            exact zr_lv [] rfl hj42
        clear hf
        have hf := hg
        clear hg
        have hL40 : ∀ (n : Nat) (x5_12 : Int32) (x6_13 : Int32) (x7_14 : Int32), zf3 (fX12_spread_l48 m11 x0) n x5_12 x6_13 x7_14 = some (x5_17, x6_18) → zz K cX12_spread (8, RX12, some .int, 3, 0, 0, some (.int r), mo) 0 0 48 [(0, .ref x0), (4, .int x4), (5, .int x5_12), (6, .int x6_13), (7, .int x7_14)] [] m11 := by
          intro n
          induction n with
          | zero => intro x5_12 x6_13 x7_14 hf; cases hf
          | succ n ih16 =>
            intro x5_12 x6_13 x7_14 hf
            replace hf := zf3_s hf
            generalize zf3 (fX12_spread_l48 m11 x0) n = F15 at hf ih16
            unfold fX12_spread_l48 at hf
            refine zr_iload 4 dX12_spread_48 rfl ?_
            refine zr_aload_n 0 dX12_spread_50 rfl ?_
            replace hf := zb1_s hf
            obtain ⟨v20, h21, hf⟩ := hf
            refine zr_get (zm_gI_g h21) zk12 (by decide) zl_1032 dX12_spread_51 ?_
            refine zr_icmp_ge 118 dX12_spread_54 (by decide) (fun hc => ?_) (fun hc => ?_)
            · rw [if_pos hc] at hf
              cases hf
              exact zr_lv [1, 2, 3] rfl hj19
            · rw [if_neg hc] at hf
              refine zr_iload 2 dX12_spread_57 rfl ?_
              refine zr_aload_n 0 dX12_spread_59 rfl ?_
              replace hf := zb1_s hf
              obtain ⟨v22, h23, hf⟩ := hf
              refine zr_get (zm_gR_g h23) zk12 (by decide) zl_887 dX12_spread_60 ?_
              refine zr_iload 4 dX12_spread_63 rfl ?_
              replace hf := zb1_s hf
              obtain ⟨v24, h25, hf⟩ := hf
              refine zr_iald h25 dX12_spread_65 ?_
              refine zr_ldcw zl_1187 dX12_spread_66 ?_
              replace hf := zb1_s hf
              obtain ⟨s26, hg, hf⟩ := hf
              have hj27 : zz K cX12_spread (8, RX12, some .int, 3, 0, 0, some (.int r), mo) 0 0 77 [(0, .ref x0), (4, .int x4), (6, .int x6_13), (7, .int x7_14)] [.int s26, .int x5_12] m11 := by
                refine zr_iadd dX12_spread_77 ?_
                refine zr_istore [(5, .int (x5_12 + s26)), (0, .ref x0), (4, .int x4), (6, .int x6_13), (7, .int x7_14)] dX12_spread_78 (Nat.le_of_ble_eq_true rfl) rfl ?_
                refine zr_aload_n 1 dX12_spread_80 rfl ?_
                replace hf := zb1_s hf
                obtain ⟨v28, h29, hf⟩ := hf
                refine zr_get (zm_gR_g h29) zk12 (by decide) zl_887 dX12_spread_81 ?_
                refine zr_iload 4 dX12_spread_84 rfl ?_
                replace hf := zb1_s hf
                obtain ⟨v30, h31, hf⟩ := hf
                refine zr_iald h31 dX12_spread_86 ?_
                refine zr_ldcw zl_1187 dX12_spread_87 ?_
                replace hf := zb1_s hf
                obtain ⟨s32, hg, hf⟩ := hf
                have hj33 : zz K cX12_spread (8, RX12, some .int, 3, 0, 0, some (.int r), mo) 0 0 110 [(0, .ref x0), (4, .int x4), (5, .int (x5_12 + s26)), (7, .int x7_14)] [.int s32] m11 := by
                  refine zr_istore [(6, .int s32), (0, .ref x0), (4, .int x4), (5, .int (x5_12 + s26)), (7, .int x7_14)] dX12_spread_110 (Nat.le_of_ble_eq_true rfl) rfl ?_
                  refine zr_iinc (j := 4) (x7_14 + 1) [(7, .int (x7_14 + 1)), (6, .int s32), (0, .ref x0), (4, .int x4), (5, .int (x5_12 + s26))] dX12_spread_112 rfl rfl (Nat.le_of_ble_eq_true rfl) rfl ?_
                  refine zr_goto 48 dX12_spread_115 (by decide) ?_
                  exact zr_lv [2, 3, 4, 1, 0] rfl (ih16 (x5_12 + s26) s32 (x7_14 + 1) hf)
                clear hf
                have hf := hg
                clear hg
                refine zr_icmp_ge 108 dX12_spread_90 (by decide) (fun hc => ?_) (fun hc => ?_)
                · rw [if_pos hc] at hf
                  refine zr_iload 3 dX12_spread_108 rfl ?_
                  cases hf
                  exact zr_lv [1, 2, 0, 4] rfl hj33
                · rw [if_neg hc] at hf
                  refine zr_iload 3 dX12_spread_93 rfl ?_
                  refine zr_aload_n 1 dX12_spread_95 rfl ?_
                  replace hf := zb1_s hf
                  obtain ⟨v34, h35, hf⟩ := hf
                  refine zr_get (zm_gR_g h35) zk12 (by decide) zl_887 dX12_spread_96 ?_
                  refine zr_iload 4 dX12_spread_99 rfl ?_
                  replace hf := zb1_s hf
                  obtain ⟨v36, h37, hf⟩ := hf
                  refine zr_iald h37 dX12_spread_101 ?_
                  replace hf := zb1_s hf
                  obtain ⟨v39, h38, hf⟩ := hf
                  refine zr_callS [.int x6_13, .int v36] (cX12_greater_ok h38) zvs_X12_greater zl_940 zl_939 rfl (Nat.le_of_ble_eq_true rfl) (Nat.le_of_ble_eq_true rfl) (Nat.le_of_ble_eq_true rfl) (Nat.le_of_ble_eq_true rfl) dX12_spread_102 rfl ?_
                  refine zr_goto 110 dX12_spread_105 (by decide) ?_
                  cases hf
                  exact zr_lv [1, 2, 0, 4] rfl hj33
              clear hf
              have hf := hg
              clear hg
              refine zr_icmp_ge 76 dX12_spread_69 (by decide) (fun hc => ?_) (fun hc => ?_)
              · rw [if_pos hc] at hf
                refine zr_iconst 0 dX12_spread_76 (by decide) ?_
                cases hf
                exact zr_lv [0, 1, 3, 4] rfl hj27
              · rw [if_neg hc] at hf
                refine zr_iconst 1 dX12_spread_72 (by decide) ?_
                refine zr_goto 77 dX12_spread_73 (by decide) ?_
                cases hf
                exact zr_lv [0, 1, 3, 4] rfl hj27
        exact zr_lv [3, 7, 2, 1, 0] rfl (hL40 _ 0 0 0 hf)
      · rw [if_pos hc] at hf
        refine zr_iconst (-1) dX12_spread_30 (by decide) ?_
        cases hf
        exact zr_iret dX12_spread_31
theorem dX12_areGuarded_0 : decode cX12_areGuarded 0 = .ok (.iconst 0, 1) := by decide +kernel
theorem dX12_areGuarded_1 : decode cX12_areGuarded 1 = .ok (.istore_n 3, 1) := by decide +kernel
theorem dX12_areGuarded_2 : decode cX12_areGuarded 2 = .ok (.iload_n 3, 1) := by decide +kernel
theorem dX12_areGuarded_3 : decode cX12_areGuarded 3 = .ok (.aload_n 0, 1) := by decide +kernel
theorem dX12_areGuarded_4 : decode cX12_areGuarded 4 = .ok (.getfield 273, 3) := by decide +kernel
theorem dX12_areGuarded_7 : decode cX12_areGuarded 7 = .ok (.if_icmp .gt 78, 3) := by decide +kernel
theorem dX12_areGuarded_10 : decode cX12_areGuarded 10 = .ok (.iconst 0, 1) := by decide +kernel
theorem dX12_areGuarded_11 : decode cX12_areGuarded 11 = .ok (.istore 4, 2) := by decide +kernel
theorem dX12_areGuarded_13 : decode cX12_areGuarded 13 = .ok (.iconst 0, 1) := by decide +kernel
theorem dX12_areGuarded_14 : decode cX12_areGuarded 14 = .ok (.istore 5, 2) := by decide +kernel
theorem dX12_areGuarded_16 : decode cX12_areGuarded 16 = .ok (.iload 5, 2) := by decide +kernel
theorem dX12_areGuarded_18 : decode cX12_areGuarded 18 = .ok (.aload_n 0, 1) := by decide +kernel
theorem dX12_areGuarded_19 : decode cX12_areGuarded 19 = .ok (.getfield 276, 3) := by decide +kernel
theorem dX12_areGuarded_22 : decode cX12_areGuarded 22 = .ok (.if_icmp .ge 50, 3) := by decide +kernel
theorem dX12_areGuarded_25 : decode cX12_areGuarded 25 = .ok (.iload 4, 2) := by decide +kernel
theorem dX12_areGuarded_27 : decode cX12_areGuarded 27 = .ok (.ifCond .ne 32, 3) := by decide +kernel
theorem dX12_areGuarded_30 : decode cX12_areGuarded 30 = .ok (.iload_n 1, 1) := by decide +kernel
theorem dX12_areGuarded_31 : decode cX12_areGuarded 31 = .ok (.iload 5, 2) := by decide +kernel
theorem dX12_areGuarded_33 : decode cX12_areGuarded 33 = .ok (.invokestatic 380, 3) := by decide +kernel
theorem dX12_areGuarded_36 : decode cX12_areGuarded 36 = .ok (.ifCond .eq 27, 3) := by decide +kernel
theorem dX12_areGuarded_39 : decode cX12_areGuarded 39 = .ok (.iload_n 3, 1) := by decide +kernel
theorem dX12_areGuarded_40 : decode cX12_areGuarded 40 = .ok (.aload_n 0, 1) := by decide +kernel
theorem dX12_areGuarded_41 : decode cX12_areGuarded 41 = .ok (.bipush 33, 2) := by decide +kernel
theorem dX12_areGuarded_43 : decode cX12_areGuarded 43 = .ok (.iload 5, 2) := by decide +kernel
theorem dX12_areGuarded_45 : decode cX12_areGuarded 45 = .ok (.iadd, 1) := by decide +kernel
theorem dX12_areGuarded_46 : decode cX12_areGuarded 46 = .ok (.invokevirtual 269, 3) := by decide +kernel
theorem dX12_areGuarded_49 : decode cX12_areGuarded 49 = .ok (.invokestatic 282, 3) := by decide +kernel
theorem dX12_areGuarded_52 : decode cX12_areGuarded 52 = .ok (.iload_n 2, 1) := by decide +kernel
theorem dX12_areGuarded_53 : decode cX12_areGuarded 53 = .ok (.invokestatic 295, 3) := by decide +kernel
theorem dX12_areGuarded_56 : decode cX12_areGuarded 56 = .ok (.if_icmp .gt 7, 3) := by decide +kernel
theorem dX12_areGuarded_59 : decode cX12_areGuarded 59 = .ok (.iconst 1, 1) := by decide +kernel
theorem dX12_areGuarded_60 : decode cX12_areGuarded 60 = .ok (.goto 4, 3) := by decide +kernel
theorem dX12_areGuarded_63 : decode cX12_areGuarded 63 = .ok (.iconst 0, 1) := by decide +kernel
theorem dX12_areGuarded_64 : decode cX12_areGuarded 64 = .ok (.istore 4, 2) := by decide +kernel
theorem dX12_areGuarded_66 : decode cX12_areGuarded 66 = .ok (.iinc 5 1, 3) := by decide +kernel
theorem dX12_areGuarded_69 : decode cX12_areGuarded 69 = .ok (.goto (-53), 3) := by decide +kernel
theorem dX12_areGuarded_72 : decode cX12_areGuarded 72 = .ok (.iload 4, 2) := by decide +kernel
theorem dX12_areGuarded_74 : decode cX12_areGuarded 74 = .ok (.ifCond .ne 5, 3) := by decide +kernel
theorem dX12_areGuarded_77 : decode cX12_areGuarded 77 = .ok (.iconst 0, 1) := by decide +kernel
theorem dX12_areGuarded_78 : decode cX12_areGuarded 78 = .ok (.ireturn, 1) := by decide +kernel
theorem dX12_areGuarded_79 : decode cX12_areGuarded 79 = .ok (.iinc 3 1, 3) := by decide +kernel
theorem dX12_areGuarded_82 : decode cX12_areGuarded 82 = .ok (.goto (-80), 3) := by decide +kernel
theorem dX12_areGuarded_85 : decode cX12_areGuarded 85 = .ok (.iconst 1, 1) := by decide +kernel
theorem dX12_areGuarded_86 : decode cX12_areGuarded 86 = .ok (.ireturn, 1) := by decide +kernel
noncomputable def fX12_areGuarded_l16 (μ : zM) (x0 : Nat) (x1 : Int32) (x3_1 : Int32) (x2 : Int32) (F8 : Int32 → Int32 → Option (Int32)) (x4_6 : Int32) (x5_7 : Int32) : Option (Int32) :=
  zb1 (zm_gI μ 12 x0 25) fun v12 =>
  if v12 ≤ x5_7 then (
  some x4_6)
  else (
  zb1 (if x4_6 = 0 then (
  zb1 (fX12_has μ x1 x5_7) fun v17 =>
  if v17 = 0 then (
  some 0)
  else (
  zb1 (fX12_of μ x0 (33 + x5_7)) fun v19 =>
  zb1 (fX12_apart μ x3_1 v19) fun v21 =>
  zb1 (fX12_range μ x2) fun v23 =>
  if v23 < v21 then (
  some 0)
  else (
  some 1)))
  else (
  some 1) : Option (Int32)) fun (s14 : Int32) =>
  F8 s14 (x5_7 + 1))
noncomputable def fX12_areGuarded_l2 (μ : zM) (x0 : Nat) (x1 : Int32) (x2 : Int32) (F2 : Int32 → Option (Int32)) (x3_1 : Int32) : Option (Int32) :=
  zb1 (zm_gI μ 12 x0 24) fun v4 =>
  if v4 < x3_1 then (
  some 1)
  else (
  zb1 (zf2 (fX12_areGuarded_l16 μ x0 x1 x3_1 x2) zfu 0 0 : Option (Int32)) fun (x4_10 : Int32) =>
  if x4_10 = 0 then (
  some 0)
  else (
  F2 (x3_1 + 1)))
noncomputable def fX12_areGuarded (μ : zM) (x0 : Nat) (x1 : Int32) (x2 : Int32) : Option (Int32) := zgd (zm_ck μ 12 x0) <|
  zf1 (fX12_areGuarded_l2 μ x0 x1 x2) zfu 0
theorem fX12_areGuarded_ck {μ : zM} {x0 : Nat} {x1 : Int32} {x2 : Int32} {z : Int32} (h : fX12_areGuarded μ x0 x1 x2 = some z) : zm_ck μ 12 x0 = true := (zgd_s h).1
set_option maxHeartbeats 4000000 in
set_option maxRecDepth 100000 in
theorem cX12_areGuarded_ok {μ : zM} {x0 : Nat} {x1 : Int32} {x2 : Int32} {r : Int32} (hf : fX12_areGuarded μ x0 x1 x2 = some r) : zC yX12_areGuarded cX12_areGuarded 6 (some .boolean) 1 0 0 [.ref x0, .int x1, .int x2] μ (some (.int r)) μ := by
  replace hf := (zgd_s hf).2
  refine zC.of (by decide) (Nat.le_of_ble_eq_true rfl) (fun K hin => ?_)
  clear hin
  show zz K cX12_areGuarded (6, RX12, some .boolean, 1, 0, 0, some (.int r), μ) 0 0 0 [(0, .ref x0), (1, .int x1), (2, .int x2)] [] μ
  refine zr_iconst 0 dX12_areGuarded_0 (by decide) ?_
  refine zr_istore_n [(3, .int 0), (0, .ref x0), (1, .int x1), (2, .int x2)] dX12_areGuarded_1 (Nat.le_of_ble_eq_true rfl) rfl ?_
  have hL25 : ∀ (n : Nat) (x3_1 : Int32), zf1 (fX12_areGuarded_l2 μ x0 x1 x2) n x3_1 = some r → zz K cX12_areGuarded (6, RX12, some .boolean, 1, 0, 0, some (.int r), μ) 0 0 2 [(0, .ref x0), (1, .int x1), (2, .int x2), (3, .int x3_1)] [] μ := by
    intro n
    induction n with
    | zero => intro x3_1 hf; cases hf
    | succ n ih3 =>
      intro x3_1 hf
      replace hf := zf1_s hf
      generalize zf1 (fX12_areGuarded_l2 μ x0 x1 x2) n = F2 at hf ih3
      unfold fX12_areGuarded_l2 at hf
      refine zr_iload_n 3 dX12_areGuarded_2 rfl ?_
      refine zr_aload_n 0 dX12_areGuarded_3 rfl ?_
      replace hf := zb1_s hf
      obtain ⟨v4, h5, hf⟩ := hf
      refine zr_get (zm_gI_g h5) zk12 (by decide) zl_1031 dX12_areGuarded_4 ?_
      refine zr_icmp_gt 85 dX12_areGuarded_7 (by decide) (fun hc => ?_) (fun hc => ?_)
      · rw [if_pos hc] at hf
        refine zr_iconst 1 dX12_areGuarded_85 (by decide) ?_
        cases hf
        exact zr_zret rfl dX12_areGuarded_86
      · rw [if_neg hc] at hf
        refine zr_iconst 0 dX12_areGuarded_10 (by decide) ?_
        refine zr_istore [(4, .int 0), (0, .ref x0), (1, .int x1), (2, .int x2), (3, .int x3_1)] dX12_areGuarded_11 (Nat.le_of_ble_eq_true rfl) rfl ?_
        refine zr_iconst 0 dX12_areGuarded_13 (by decide) ?_
        refine zr_istore [(5, .int 0), (4, .int 0), (0, .ref x0), (1, .int x1), (2, .int x2), (3, .int x3_1)] dX12_areGuarded_14 (Nat.le_of_ble_eq_true rfl) rfl ?_
        replace hf := zb1_s hf
        obtain ⟨x4_10, hg, hf⟩ := hf
        have hj11 : zz K cX12_areGuarded (6, RX12, some .boolean, 1, 0, 0, some (.int r), μ) 0 0 72 [(0, .ref x0), (1, .int x1), (2, .int x2), (3, .int x3_1), (4, .int x4_10)] [] μ := by
          refine zr_iload 4 dX12_areGuarded_72 rfl ?_
          refine zr_if_ne 79 dX12_areGuarded_74 (by decide) (fun hc => ?_) (fun hc => ?_)
          · rw [if_neg hc] at hf
            refine zr_iinc (j := 3) (x3_1 + 1) [(3, .int (x3_1 + 1)), (0, .ref x0), (1, .int x1), (2, .int x2), (4, .int x4_10)] dX12_areGuarded_79 rfl rfl (Nat.le_of_ble_eq_true rfl) rfl ?_
            refine zr_goto 2 dX12_areGuarded_82 (by decide) ?_
            exact zr_lv [1, 2, 3, 0] rfl (ih3 (x3_1 + 1) hf)
          · rw [if_pos hc] at hf
            refine zr_iconst 0 dX12_areGuarded_77 (by decide) ?_
            cases hf
            exact zr_zret rfl dX12_areGuarded_78
        clear hf
        have hf := hg
        clear hg
        have hL24 : ∀ (n : Nat) (x4_6 : Int32) (x5_7 : Int32), zf2 (fX12_areGuarded_l16 μ x0 x1 x3_1 x2) n x4_6 x5_7 = some x4_10 → zz K cX12_areGuarded (6, RX12, some .boolean, 1, 0, 0, some (.int r), μ) 0 0 16 [(0, .ref x0), (1, .int x1), (2, .int x2), (3, .int x3_1), (4, .int x4_6), (5, .int x5_7)] [] μ := by
          intro n
          induction n with
          | zero => intro x4_6 x5_7 hf; cases hf
          | succ n ih9 =>
            intro x4_6 x5_7 hf
            replace hf := zf2_s hf
            generalize zf2 (fX12_areGuarded_l16 μ x0 x1 x3_1 x2) n = F8 at hf ih9
            unfold fX12_areGuarded_l16 at hf
            refine zr_iload 5 dX12_areGuarded_16 rfl ?_
            refine zr_aload_n 0 dX12_areGuarded_18 rfl ?_
            replace hf := zb1_s hf
            obtain ⟨v12, h13, hf⟩ := hf
            refine zr_get (zm_gI_g h13) zk12 (by decide) zl_1032 dX12_areGuarded_19 ?_
            refine zr_icmp_ge 72 dX12_areGuarded_22 (by decide) (fun hc => ?_) (fun hc => ?_)
            · rw [if_pos hc] at hf
              cases hf
              exact zr_lv [0, 1, 2, 3, 4] rfl hj11
            · rw [if_neg hc] at hf
              refine zr_iload 4 dX12_areGuarded_25 rfl ?_
              replace hf := zb1_s hf
              obtain ⟨s14, hg, hf⟩ := hf
              have hj15 : zz K cX12_areGuarded (6, RX12, some .boolean, 1, 0, 0, some (.int r), μ) 0 0 64 [(0, .ref x0), (1, .int x1), (2, .int x2), (3, .int x3_1), (5, .int x5_7)] [.int s14] μ := by
                refine zr_istore [(4, .int s14), (0, .ref x0), (1, .int x1), (2, .int x2), (3, .int x3_1), (5, .int x5_7)] dX12_areGuarded_64 (Nat.le_of_ble_eq_true rfl) rfl ?_
                refine zr_iinc (j := 5) (x5_7 + 1) [(5, .int (x5_7 + 1)), (4, .int s14), (0, .ref x0), (1, .int x1), (2, .int x2), (3, .int x3_1)] dX12_areGuarded_66 rfl rfl (Nat.le_of_ble_eq_true rfl) rfl ?_
                refine zr_goto 16 dX12_areGuarded_69 (by decide) ?_
                exact zr_lv [2, 3, 4, 5, 1, 0] rfl (ih9 s14 (x5_7 + 1) hf)
              clear hf
              have hf := hg
              clear hg
              refine zr_if_ne 59 dX12_areGuarded_27 (by decide) (fun hc => ?_) (fun hc => ?_)
              · rw [if_neg hc] at hf
                refine zr_iconst 1 dX12_areGuarded_59 (by decide) ?_
                refine zr_goto 64 dX12_areGuarded_60 (by decide) ?_
                cases hf
                exact zr_lv [0, 1, 2, 3, 5] rfl hj15
              · rw [if_pos hc] at hf
                refine zr_iload_n 1 dX12_areGuarded_30 rfl ?_
                refine zr_iload 5 dX12_areGuarded_31 rfl ?_
                replace hf := zb1_s hf
                obtain ⟨v17, h16, hf⟩ := hf
                refine zr_callS [.int x1, .int x5_7] (cX12_has_ok h16) zvs_X12_has zl_1146 zl_1145 rfl (Nat.le_of_ble_eq_true rfl) (Nat.le_of_ble_eq_true rfl) (Nat.le_of_ble_eq_true rfl) (Nat.le_of_ble_eq_true rfl) dX12_areGuarded_33 rfl ?_
                refine zr_if_eq 63 dX12_areGuarded_36 (by decide) (fun hc => ?_) (fun hc => ?_)
                · rw [if_pos hc] at hf
                  refine zr_iconst 0 dX12_areGuarded_63 (by decide) ?_
                  cases hf
                  exact zr_lv [0, 1, 2, 3, 5] rfl hj15
                · rw [if_neg hc] at hf
                  refine zr_iload_n 3 dX12_areGuarded_39 rfl ?_
                  refine zr_aload_n 0 dX12_areGuarded_40 rfl ?_
                  refine zr_bipush 33 dX12_areGuarded_41 (by decide) ?_
                  refine zr_iload 5 dX12_areGuarded_43 rfl ?_
                  refine zr_iadd dX12_areGuarded_45 ?_
                  replace hf := zb1_s hf
                  obtain ⟨v19, h18, hf⟩ := hf
                  refine zr_callV (ci := 12) [.int (33 + x5_7)] (cX12_of_ok h18) zvs_X12_of zl_1029 zl_1030 (fX12_of_ck h18) rfl rfl zl_1028 rfl (Nat.le_of_ble_eq_true rfl) (Nat.le_of_ble_eq_true rfl) (Nat.le_of_ble_eq_true rfl) (Nat.le_of_ble_eq_true rfl) dX12_areGuarded_46 rfl ?_
                  replace hf := zb1_s hf
                  obtain ⟨v21, h20, hf⟩ := hf
                  refine zr_callS [.int x3_1, .int v19] (cX12_apart_ok h20) zvs_X12_apart zl_1039 zl_1038 rfl (Nat.le_of_ble_eq_true rfl) (Nat.le_of_ble_eq_true rfl) (Nat.le_of_ble_eq_true rfl) (Nat.le_of_ble_eq_true rfl) dX12_areGuarded_49 rfl ?_
                  refine zr_iload_n 2 dX12_areGuarded_52 rfl ?_
                  replace hf := zb1_s hf
                  obtain ⟨v23, h22, hf⟩ := hf
                  refine zr_callS [.int x2] (cX12_range_ok h22) zvs_X12_range zl_1054 zl_1053 rfl (Nat.le_of_ble_eq_true rfl) (Nat.le_of_ble_eq_true rfl) (Nat.le_of_ble_eq_true rfl) (Nat.le_of_ble_eq_true rfl) dX12_areGuarded_53 rfl ?_
                  refine zr_icmp_gt 63 dX12_areGuarded_56 (by decide) (fun hc => ?_) (fun hc => ?_)
                  · rw [if_pos hc] at hf
                    refine zr_iconst 0 dX12_areGuarded_63 (by decide) ?_
                    cases hf
                    exact zr_lv [0, 1, 2, 3, 5] rfl hj15
                  · rw [if_neg hc] at hf
                    refine zr_iconst 1 dX12_areGuarded_59 (by decide) ?_
                    refine zr_goto 64 dX12_areGuarded_60 (by decide) ?_
                    cases hf
                    exact zr_lv [0, 1, 2, 3, 5] rfl hj15
        exact zr_lv [2, 3, 4, 5, 1, 0] rfl (hL24 _ 0 0 hf)
  exact zr_lv [1, 2, 3, 0] rfl (hL25 _ 0 hf)
