theorem zl_1125 : Cond.fieldLink RX12 359 "TwoEchoesModel" "clashes" "I" ∈ zt := zt_at 1375 (by decide +kernel)
theorem zl_1126 : Cond.fieldLink RX12 362 "TwoEchoesModel" "clashAt" "I" ∈ zt := zt_at 1376 (by decide +kernel)
theorem zl_1127 : Cond.fieldLink RX12 365 "TwoEchoesModel" "clashOf" "I" ∈ zt := zt_at 1377 (by decide +kernel)
theorem zl_1128 : Cond.code yX12_hears cX12_hears 10 (some .int) ∈ zt := zt_at 1767 (by decide +kernel)
theorem zvs_X12_hears : zvS yX12_hears cX12_hears 10 (some .int) 3 := ⟨zl_1128, zl_893, ⟨by decide +kernel, by decide +kernel, by decide +kernel⟩, by decide⟩
theorem zl_1129 : Cond.methodLink RX12 368 yX12_hears ∈ zt := zt_at 1764 (by decide +kernel)
theorem zl_1130 : Cond.instanceMethod yX12_hears ∈ zt := zt_at 1766 (by decide +kernel)
theorem zl_1131 : Cond.selects RX12 yX12_hears yX12_hears ∈ zt := zt_at 92 (by decide +kernel)
theorem dX12_findHeard_0 : decode cX12_findHeard 0 = .ok (.iconst 0, 1) := by decide +kernel
theorem dX12_findHeard_1 : decode cX12_findHeard 1 = .ok (.istore_n 1, 1) := by decide +kernel
theorem dX12_findHeard_2 : decode cX12_findHeard 2 = .ok (.iload_n 1, 1) := by decide +kernel
theorem dX12_findHeard_3 : decode cX12_findHeard 3 = .ok (.bipush 6, 2) := by decide +kernel
theorem dX12_findHeard_5 : decode cX12_findHeard 5 = .ok (.if_icmp .ge 30, 3) := by decide +kernel
theorem dX12_findHeard_8 : decode cX12_findHeard 8 = .ok (.aload_n 0, 1) := by decide +kernel
theorem dX12_findHeard_9 : decode cX12_findHeard 9 = .ok (.getfield 50, 3) := by decide +kernel
theorem dX12_findHeard_12 : decode cX12_findHeard 12 = .ok (.iload_n 1, 1) := by decide +kernel
theorem dX12_findHeard_13 : decode cX12_findHeard 13 = .ok (.iconst 0, 1) := by decide +kernel
theorem dX12_findHeard_14 : decode cX12_findHeard 14 = .ok (.iastore, 1) := by decide +kernel
theorem dX12_findHeard_15 : decode cX12_findHeard 15 = .ok (.aload_n 0, 1) := by decide +kernel
theorem dX12_findHeard_16 : decode cX12_findHeard 16 = .ok (.getfield 53, 3) := by decide +kernel
theorem dX12_findHeard_19 : decode cX12_findHeard 19 = .ok (.iload_n 1, 1) := by decide +kernel
theorem dX12_findHeard_20 : decode cX12_findHeard 20 = .ok (.iconst 0, 1) := by decide +kernel
theorem dX12_findHeard_21 : decode cX12_findHeard 21 = .ok (.iastore, 1) := by decide +kernel
theorem dX12_findHeard_22 : decode cX12_findHeard 22 = .ok (.aload_n 0, 1) := by decide +kernel
theorem dX12_findHeard_23 : decode cX12_findHeard 23 = .ok (.getfield 56, 3) := by decide +kernel
theorem dX12_findHeard_26 : decode cX12_findHeard 26 = .ok (.iload_n 1, 1) := by decide +kernel
theorem dX12_findHeard_27 : decode cX12_findHeard 27 = .ok (.iconst (-1), 1) := by decide +kernel
theorem dX12_findHeard_28 : decode cX12_findHeard 28 = .ok (.iastore, 1) := by decide +kernel
theorem dX12_findHeard_29 : decode cX12_findHeard 29 = .ok (.iinc 1 1, 3) := by decide +kernel
theorem dX12_findHeard_32 : decode cX12_findHeard 32 = .ok (.goto (-30), 3) := by decide +kernel
theorem dX12_findHeard_35 : decode cX12_findHeard 35 = .ok (.aload_n 0, 1) := by decide +kernel
theorem dX12_findHeard_36 : decode cX12_findHeard 36 = .ok (.iconst 0, 1) := by decide +kernel
theorem dX12_findHeard_37 : decode cX12_findHeard 37 = .ok (.putfield 359, 3) := by decide +kernel
theorem dX12_findHeard_40 : decode cX12_findHeard 40 = .ok (.aload_n 0, 1) := by decide +kernel
theorem dX12_findHeard_41 : decode cX12_findHeard 41 = .ok (.iconst (-1), 1) := by decide +kernel
theorem dX12_findHeard_42 : decode cX12_findHeard 42 = .ok (.putfield 362, 3) := by decide +kernel
theorem dX12_findHeard_45 : decode cX12_findHeard 45 = .ok (.aload_n 0, 1) := by decide +kernel
theorem dX12_findHeard_46 : decode cX12_findHeard 46 = .ok (.iconst (-1), 1) := by decide +kernel
theorem dX12_findHeard_47 : decode cX12_findHeard 47 = .ok (.putfield 365, 3) := by decide +kernel
theorem dX12_findHeard_50 : decode cX12_findHeard 50 = .ok (.iconst 0, 1) := by decide +kernel
theorem dX12_findHeard_51 : decode cX12_findHeard 51 = .ok (.istore_n 1, 1) := by decide +kernel
theorem dX12_findHeard_52 : decode cX12_findHeard 52 = .ok (.iload_n 1, 1) := by decide +kernel
theorem dX12_findHeard_53 : decode cX12_findHeard 53 = .ok (.aload_n 0, 1) := by decide +kernel
theorem dX12_findHeard_54 : decode cX12_findHeard 54 = .ok (.getfield 332, 3) := by decide +kernel
theorem dX12_findHeard_57 : decode cX12_findHeard 57 = .ok (.if_icmp .gt 178, 3) := by decide +kernel
theorem dX12_findHeard_60 : decode cX12_findHeard 60 = .ok (.iconst 0, 1) := by decide +kernel
theorem dX12_findHeard_61 : decode cX12_findHeard 61 = .ok (.istore_n 2, 1) := by decide +kernel
theorem dX12_findHeard_62 : decode cX12_findHeard 62 = .ok (.iload_n 2, 1) := by decide +kernel
theorem dX12_findHeard_63 : decode cX12_findHeard 63 = .ok (.aload_n 0, 1) := by decide +kernel
theorem dX12_findHeard_64 : decode cX12_findHeard 64 = .ok (.getfield 276, 3) := by decide +kernel
theorem dX12_findHeard_67 : decode cX12_findHeard 67 = .ok (.if_icmp .ge 162, 3) := by decide +kernel
theorem dX12_findHeard_70 : decode cX12_findHeard 70 = .ok (.iconst 0, 1) := by decide +kernel
theorem dX12_findHeard_71 : decode cX12_findHeard 71 = .ok (.istore_n 3, 1) := by decide +kernel
theorem dX12_findHeard_72 : decode cX12_findHeard 72 = .ok (.iconst 0, 1) := by decide +kernel
theorem dX12_findHeard_73 : decode cX12_findHeard 73 = .ok (.istore 4, 2) := by decide +kernel
theorem dX12_findHeard_75 : decode cX12_findHeard 75 = .ok (.iload 4, 2) := by decide +kernel
theorem dX12_findHeard_77 : decode cX12_findHeard 77 = .ok (.aload_n 0, 1) := by decide +kernel
theorem dX12_findHeard_78 : decode cX12_findHeard 78 = .ok (.getfield 329, 3) := by decide +kernel
theorem dX12_findHeard_81 : decode cX12_findHeard 81 = .ok (.if_icmp .ge 20, 3) := by decide +kernel
theorem dX12_findHeard_84 : decode cX12_findHeard 84 = .ok (.iload_n 3, 1) := by decide +kernel
theorem dX12_findHeard_85 : decode cX12_findHeard 85 = .ok (.aload_n 0, 1) := by decide +kernel
theorem dX12_findHeard_86 : decode cX12_findHeard 86 = .ok (.iload_n 2, 1) := by decide +kernel
theorem dX12_findHeard_87 : decode cX12_findHeard 87 = .ok (.iload_n 1, 1) := by decide +kernel
theorem dX12_findHeard_88 : decode cX12_findHeard 88 = .ok (.iload 4, 2) := by decide +kernel
theorem dX12_findHeard_90 : decode cX12_findHeard 90 = .ok (.invokevirtual 368, 3) := by decide +kernel
theorem dX12_findHeard_93 : decode cX12_findHeard 93 = .ok (.ior, 1) := by decide +kernel
theorem dX12_findHeard_94 : decode cX12_findHeard 94 = .ok (.istore_n 3, 1) := by decide +kernel
theorem dX12_findHeard_95 : decode cX12_findHeard 95 = .ok (.iinc 4 1, 3) := by decide +kernel
theorem dX12_findHeard_98 : decode cX12_findHeard 98 = .ok (.goto (-23), 3) := by decide +kernel
theorem dX12_findHeard_101 : decode cX12_findHeard 101 = .ok (.aload_n 0, 1) := by decide +kernel
theorem dX12_findHeard_102 : decode cX12_findHeard 102 = .ok (.getfield 50, 3) := by decide +kernel
theorem dX12_findHeard_105 : decode cX12_findHeard 105 = .ok (.iload_n 2, 1) := by decide +kernel
theorem dX12_findHeard_106 : decode cX12_findHeard 106 = .ok (.dup2, 1) := by decide +kernel
theorem dX12_findHeard_107 : decode cX12_findHeard 107 = .ok (.iaload, 1) := by decide +kernel
theorem dX12_findHeard_108 : decode cX12_findHeard 108 = .ok (.iload_n 3, 1) := by decide +kernel
theorem dX12_findHeard_109 : decode cX12_findHeard 109 = .ok (.ior, 1) := by decide +kernel
theorem dX12_findHeard_110 : decode cX12_findHeard 110 = .ok (.iastore, 1) := by decide +kernel
theorem dX12_findHeard_111 : decode cX12_findHeard 111 = .ok (.aload_n 0, 1) := by decide +kernel
theorem dX12_findHeard_112 : decode cX12_findHeard 112 = .ok (.getfield 56, 3) := by decide +kernel
theorem dX12_findHeard_115 : decode cX12_findHeard 115 = .ok (.iload_n 2, 1) := by decide +kernel
theorem dX12_findHeard_116 : decode cX12_findHeard 116 = .ok (.aload_n 0, 1) := by decide +kernel
theorem dX12_findHeard_117 : decode cX12_findHeard 117 = .ok (.getfield 56, 3) := by decide +kernel
theorem dX12_findHeard_120 : decode cX12_findHeard 120 = .ok (.iload_n 2, 1) := by decide +kernel
theorem dX12_findHeard_121 : decode cX12_findHeard 121 = .ok (.iaload, 1) := by decide +kernel
theorem dX12_findHeard_122 : decode cX12_findHeard 122 = .ok (.iconst (-1), 1) := by decide +kernel
theorem dX12_findHeard_123 : decode cX12_findHeard 123 = .ok (.if_icmp .ne 11, 3) := by decide +kernel
theorem dX12_findHeard_126 : decode cX12_findHeard 126 = .ok (.iload_n 3, 1) := by decide +kernel
theorem dX12_findHeard_127 : decode cX12_findHeard 127 = .ok (.ifCond .le 7, 3) := by decide +kernel
theorem dX12_findHeard_130 : decode cX12_findHeard 130 = .ok (.iload_n 1, 1) := by decide +kernel
theorem dX12_findHeard_131 : decode cX12_findHeard 131 = .ok (.goto 9, 3) := by decide +kernel
theorem dX12_findHeard_134 : decode cX12_findHeard 134 = .ok (.aload_n 0, 1) := by decide +kernel
theorem dX12_findHeard_135 : decode cX12_findHeard 135 = .ok (.getfield 56, 3) := by decide +kernel
theorem dX12_findHeard_138 : decode cX12_findHeard 138 = .ok (.iload_n 2, 1) := by decide +kernel
theorem dX12_findHeard_139 : decode cX12_findHeard 139 = .ok (.iaload, 1) := by decide +kernel
theorem dX12_findHeard_140 : decode cX12_findHeard 140 = .ok (.iastore, 1) := by decide +kernel
theorem dX12_findHeard_141 : decode cX12_findHeard 141 = .ok (.iload_n 3, 1) := by decide +kernel
theorem dX12_findHeard_142 : decode cX12_findHeard 142 = .ok (.iload_n 3, 1) := by decide +kernel
theorem dX12_findHeard_143 : decode cX12_findHeard 143 = .ok (.iconst 1, 1) := by decide +kernel
theorem dX12_findHeard_144 : decode cX12_findHeard 144 = .ok (.isub, 1) := by decide +kernel
theorem dX12_findHeard_145 : decode cX12_findHeard 145 = .ok (.iand, 1) := by decide +kernel
theorem dX12_findHeard_146 : decode cX12_findHeard 146 = .ok (.ifCond .eq 7, 3) := by decide +kernel
theorem dX12_findHeard_149 : decode cX12_findHeard 149 = .ok (.iconst 1, 1) := by decide +kernel
theorem dX12_findHeard_150 : decode cX12_findHeard 150 = .ok (.goto 4, 3) := by decide +kernel
theorem dX12_findHeard_153 : decode cX12_findHeard 153 = .ok (.iconst 0, 1) := by decide +kernel
theorem dX12_findHeard_154 : decode cX12_findHeard 154 = .ok (.istore 4, 2) := by decide +kernel
theorem dX12_findHeard_156 : decode cX12_findHeard 156 = .ok (.aload_n 0, 1) := by decide +kernel
theorem dX12_findHeard_157 : decode cX12_findHeard 157 = .ok (.iload 4, 2) := by decide +kernel
theorem dX12_findHeard_159 : decode cX12_findHeard 159 = .ok (.ifCond .eq 14, 3) := by decide +kernel
theorem dX12_findHeard_162 : decode cX12_findHeard 162 = .ok (.aload_n 0, 1) := by decide +kernel
theorem dX12_findHeard_163 : decode cX12_findHeard 163 = .ok (.getfield 359, 3) := by decide +kernel
theorem dX12_findHeard_166 : decode cX12_findHeard 166 = .ok (.ifCond .ne 7, 3) := by decide +kernel
theorem dX12_findHeard_169 : decode cX12_findHeard 169 = .ok (.iload_n 1, 1) := by decide +kernel
theorem dX12_findHeard_170 : decode cX12_findHeard 170 = .ok (.goto 7, 3) := by decide +kernel
theorem dX12_findHeard_173 : decode cX12_findHeard 173 = .ok (.aload_n 0, 1) := by decide +kernel
theorem dX12_findHeard_174 : decode cX12_findHeard 174 = .ok (.getfield 362, 3) := by decide +kernel
theorem dX12_findHeard_177 : decode cX12_findHeard 177 = .ok (.putfield 362, 3) := by decide +kernel
theorem dX12_findHeard_180 : decode cX12_findHeard 180 = .ok (.aload_n 0, 1) := by decide +kernel
theorem dX12_findHeard_181 : decode cX12_findHeard 181 = .ok (.iload 4, 2) := by decide +kernel
theorem dX12_findHeard_183 : decode cX12_findHeard 183 = .ok (.ifCond .eq 14, 3) := by decide +kernel
theorem dX12_findHeard_186 : decode cX12_findHeard 186 = .ok (.aload_n 0, 1) := by decide +kernel
theorem dX12_findHeard_187 : decode cX12_findHeard 187 = .ok (.getfield 359, 3) := by decide +kernel
theorem dX12_findHeard_190 : decode cX12_findHeard 190 = .ok (.ifCond .ne 7, 3) := by decide +kernel
theorem dX12_findHeard_193 : decode cX12_findHeard 193 = .ok (.iload_n 2, 1) := by decide +kernel
theorem dX12_findHeard_194 : decode cX12_findHeard 194 = .ok (.goto 7, 3) := by decide +kernel
theorem dX12_findHeard_197 : decode cX12_findHeard 197 = .ok (.aload_n 0, 1) := by decide +kernel
theorem dX12_findHeard_198 : decode cX12_findHeard 198 = .ok (.getfield 365, 3) := by decide +kernel
theorem dX12_findHeard_201 : decode cX12_findHeard 201 = .ok (.putfield 365, 3) := by decide +kernel
theorem dX12_findHeard_204 : decode cX12_findHeard 204 = .ok (.aload_n 0, 1) := by decide +kernel
theorem dX12_findHeard_205 : decode cX12_findHeard 205 = .ok (.dup, 1) := by decide +kernel
theorem dX12_findHeard_206 : decode cX12_findHeard 206 = .ok (.getfield 359, 3) := by decide +kernel
theorem dX12_findHeard_209 : decode cX12_findHeard 209 = .ok (.iload 4, 2) := by decide +kernel
theorem dX12_findHeard_211 : decode cX12_findHeard 211 = .ok (.ifCond .eq 7, 3) := by decide +kernel
theorem dX12_findHeard_214 : decode cX12_findHeard 214 = .ok (.iconst 1, 1) := by decide +kernel
theorem dX12_findHeard_215 : decode cX12_findHeard 215 = .ok (.goto 4, 3) := by decide +kernel
theorem dX12_findHeard_218 : decode cX12_findHeard 218 = .ok (.iconst 0, 1) := by decide +kernel
theorem dX12_findHeard_219 : decode cX12_findHeard 219 = .ok (.iadd, 1) := by decide +kernel
theorem dX12_findHeard_220 : decode cX12_findHeard 220 = .ok (.putfield 359, 3) := by decide +kernel
theorem dX12_findHeard_223 : decode cX12_findHeard 223 = .ok (.iinc 2 1, 3) := by decide +kernel
theorem dX12_findHeard_226 : decode cX12_findHeard 226 = .ok (.goto (-164), 3) := by decide +kernel
theorem dX12_findHeard_229 : decode cX12_findHeard 229 = .ok (.iinc 1 1, 3) := by decide +kernel
theorem dX12_findHeard_232 : decode cX12_findHeard 232 = .ok (.goto (-180), 3) := by decide +kernel
theorem dX12_findHeard_235 : decode cX12_findHeard 235 = .ok (.return_, 1) := by decide +kernel
noncomputable def fX12_findHeard_l2 (x0 : Nat) (F3 : Int32 → zM → Option (zM)) (x1_1 : Int32) (m2 : zM) : Option (zM) :=
  if 6 ≤ x1_1 then (
  some m2)
  else (
  zb1 (zm_gR m2 12 x0 31) fun v7 =>
  zb1 (zm_sI m2 0 v7 x1_1 0) fun m9 =>
  zb1 (zm_gR m9 12 x0 32) fun v11 =>
  zb1 (zm_sI m9 0 v11 x1_1 0) fun m13 =>
  zb1 (zm_gR m13 12 x0 33) fun v15 =>
  zb1 (zm_sI m13 0 v15 x1_1 (-1)) fun m17 =>
  F3 (x1_1 + 1) m17)
noncomputable def fX12_findHeard_l75 (x0 : Nat) (x2_34 : Int32) (x1_26 : Int32) (F45 : Int32 → Int32 → zM → Option (Int32 × zM)) (x3_42 : Int32) (x4_43 : Int32) (m44 : zM) : Option (Int32 × zM) :=
  zb1 (zm_gI m44 12 x0 29) fun v50 =>
  if v50 ≤ x4_43 then (
  some (x3_42, m44))
  else (
  zb2 (fX12_hears m44 x0 x2_34 x1_26 x4_43) fun v54 m53 =>
  F45 (x3_42 ||| v54) (x4_43 + 1) m53)
noncomputable def fX12_findHeard_b134 (m60 : zM) (x0 : Nat) (x2_34 : Int32) : Option (Int32) :=
  zb1 (zm_gR m60 12 x0 33) fun v70 =>
  zb1 (zm_aI m60 0 v70 x2_34) fun v72 =>
  some v72
noncomputable def fX12_findHeard_b173 (m75 : zM) (x0 : Nat) : Option (Int32) :=
  zb1 (zm_gI m75 12 x0 35) fun v81 =>
  some v81
noncomputable def fX12_findHeard_b197 (m84 : zM) (x0 : Nat) : Option (Int32) :=
  zb1 (zm_gI m84 12 x0 36) fun v88 =>
  some v88
noncomputable def fX12_findHeard_l62 (x0 : Nat) (x1_26 : Int32) (F36 : Int32 → zM → Option (zM)) (x2_34 : Int32) (m35 : zM) : Option (zM) :=
  zb1 (zm_gI m35 12 x0 25) fun v40 =>
  if v40 ≤ x2_34 then (
  some m35)
  else (
  zb2 (zf3 (fX12_findHeard_l75 x0 x2_34 x1_26) zfu 0 0 m35 : Option (Int32 × zM)) fun (x3_47 : Int32) (m48 : zM) =>
  zb1 (zm_gR m48 12 x0 31) fun v56 =>
  zb1 (zm_aI m48 0 v56 x2_34) fun v58 =>
  zb1 (zm_sI m48 0 v56 x2_34 (v58 ||| x3_47)) fun m60 =>
  zb1 (zm_gR m60 12 x0 33) fun v62 =>
  zb1 (zm_gR m60 12 x0 33) fun v64 =>
  zb1 (zm_aI m60 0 v64 x2_34) fun v66 =>
  zb1 (if v66 = (-1) then (
  if x3_47 ≤ 0 then (
  fX12_findHeard_b134 m60 x0 x2_34)
  else (
  some x1_26))
  else (
  fX12_findHeard_b134 m60 x0 x2_34) : Option (Int32)) fun (s68 : Int32) =>
  zb1 (zm_sI m60 0 v62 x2_34 s68) fun m75 =>
  zb1 (if (x3_47 &&& (x3_47 - 1)) = 0 then (
  some 0)
  else (
  some 1) : Option (Int32)) fun (s77 : Int32) =>
  zb1 (if s77 = 0 then (
  fX12_findHeard_b173 m75 x0)
  else (
  zb1 (zm_gI m75 12 x0 34) fun v101 =>
  if v101 = 0 then (
  some x1_26)
  else (
  fX12_findHeard_b173 m75 x0)) : Option (Int32)) fun (s79 : Int32) =>
  zb1 (zm_p m75 12 x0 35 (.int s79)) fun m84 =>
  zb1 (if s77 = 0 then (
  fX12_findHeard_b197 m84 x0)
  else (
  zb1 (zm_gI m84 12 x0 34) fun v99 =>
  if v99 = 0 then (
  some x2_34)
  else (
  fX12_findHeard_b197 m84 x0)) : Option (Int32)) fun (s86 : Int32) =>
  zb1 (zm_p m84 12 x0 36 (.int s86)) fun m91 =>
  zb1 (zm_gI m91 12 x0 34) fun v93 =>
  zb1 (if s77 = 0 then (
  some 0)
  else (
  some 1) : Option (Int32)) fun (s95 : Int32) =>
  zb1 (zm_p m91 12 x0 34 (.int (v93 + s95))) fun m97 =>
  F36 (x2_34 + 1) m97)
noncomputable def fX12_findHeard_l52 (x0 : Nat) (F28 : Int32 → zM → Option (zM)) (x1_26 : Int32) (m27 : zM) : Option (zM) :=
  zb1 (zm_gI m27 12 x0 30) fun v32 =>
  if v32 < x1_26 then (
  some m27)
  else (
  zb1 (zf2 (fX12_findHeard_l62 x0 x1_26) zfu 0 m27 : Option (zM)) fun (m38 : zM) =>
  F28 (x1_26 + 1) m38)
noncomputable def fX12_findHeard (μ : zM) (x0 : Nat) : Option (zM) := zgd (zm_ck μ 12 x0) <|
  zb1 (zf2 (fX12_findHeard_l2 x0) zfu 0 μ : Option (zM)) fun (m5 : zM) =>
  zb1 (zm_p m5 12 x0 34 (.int 0)) fun m20 =>
  zb1 (zm_p m20 12 x0 35 (.int (-1))) fun m22 =>
  zb1 (zm_p m22 12 x0 36 (.int (-1))) fun m24 =>
  zb1 (zf2 (fX12_findHeard_l52 x0) zfu 0 m24 : Option (zM)) fun (m30 : zM) =>
  some m30
theorem fX12_findHeard_ck {μ : zM} {x0 : Nat} {z : zM} (h : fX12_findHeard μ x0 = some z) : zm_ck μ 12 x0 = true := (zgd_s h).1
set_option maxHeartbeats 4000000 in
set_option maxRecDepth 100000 in
theorem cX12_findHeard_ok {μ : zM} {x0 : Nat} {mo : zM} (hf : fX12_findHeard μ x0 = some mo) : zC yX12_findHeard cX12_findHeard 5 (none) 5 0 0 [.ref x0] μ (none) mo := by
  replace hf := (zgd_s hf).2
  refine zC.of (by decide) (Nat.le_of_ble_eq_true rfl) (fun K hin => ?_)
  clear hin
  show zz K cX12_findHeard (5, RX12, none, 5, 0, 0, none, mo) 0 0 0 [(0, .ref x0)] [] μ
  refine zr_iconst 0 dX12_findHeard_0 (by decide) ?_
  refine zr_istore_n [(1, .int 0), (0, .ref x0)] dX12_findHeard_1 (Nat.le_of_ble_eq_true rfl) rfl ?_
  replace hf := zb1_s hf
  obtain ⟨m5, hg, hf⟩ := hf
  have hj6 : zz K cX12_findHeard (5, RX12, none, 5, 0, 0, none, mo) 0 0 35 [(0, .ref x0)] [] m5 := by
    refine zr_aload_n 0 dX12_findHeard_35 rfl ?_
    refine zr_iconst 0 dX12_findHeard_36 (by decide) ?_
    replace hf := zb1_s hf
    obtain ⟨m20, h21, hf⟩ := hf
    refine zr_put h21 zk12 (by decide) zl_1125 rfl rfl rfl dX12_findHeard_37 ?_
    refine zr_aload_n 0 dX12_findHeard_40 rfl ?_
    refine zr_iconst (-1) dX12_findHeard_41 (by decide) ?_
    replace hf := zb1_s hf
    obtain ⟨m22, h23, hf⟩ := hf
    refine zr_put h23 zk12 (by decide) zl_1126 rfl rfl rfl dX12_findHeard_42 ?_
    refine zr_aload_n 0 dX12_findHeard_45 rfl ?_
    refine zr_iconst (-1) dX12_findHeard_46 (by decide) ?_
    replace hf := zb1_s hf
    obtain ⟨m24, h25, hf⟩ := hf
    refine zr_put h25 zk12 (by decide) zl_1127 rfl rfl rfl dX12_findHeard_47 ?_
    refine zr_iconst 0 dX12_findHeard_50 (by decide) ?_
    refine zr_istore_n [(1, .int 0), (0, .ref x0)] dX12_findHeard_51 (Nat.le_of_ble_eq_true rfl) rfl ?_
    replace hf := zb1_s hf
    obtain ⟨m30, hg, hf⟩ := hf
    have hj31 : zz K cX12_findHeard (5, RX12, none, 5, 0, 0, none, mo) 0 0 235 [] [] m30 := by
      cases hf
      exact zr_vret dX12_findHeard_235
    clear hf
    have hf := hg
    clear hg
    have hL104 : ∀ (n : Nat) (x1_26 : Int32) (m27 : zM), zf2 (fX12_findHeard_l52 x0) n x1_26 m27 = some m30 → zz K cX12_findHeard (5, RX12, none, 5, 0, 0, none, mo) 0 0 52 [(0, .ref x0), (1, .int x1_26)] [] m27 := by
      intro n
      induction n with
      | zero => intro x1_26 m27 hf; cases hf
      | succ n ih29 =>
        intro x1_26 m27 hf
        replace hf := zf2_s hf
        generalize zf2 (fX12_findHeard_l52 x0) n = F28 at hf ih29
        unfold fX12_findHeard_l52 at hf
        refine zr_iload_n 1 dX12_findHeard_52 rfl ?_
        refine zr_aload_n 0 dX12_findHeard_53 rfl ?_
        replace hf := zb1_s hf
        obtain ⟨v32, h33, hf⟩ := hf
        refine zr_get (zm_gI_g h33) zk12 (by decide) zl_1092 dX12_findHeard_54 ?_
        refine zr_icmp_gt 235 dX12_findHeard_57 (by decide) (fun hc => ?_) (fun hc => ?_)
        · rw [if_pos hc] at hf
          cases hf
          exact zr_lv [] rfl hj31
        · rw [if_neg hc] at hf
          refine zr_iconst 0 dX12_findHeard_60 (by decide) ?_
          refine zr_istore_n [(2, .int 0), (0, .ref x0), (1, .int x1_26)] dX12_findHeard_61 (Nat.le_of_ble_eq_true rfl) rfl ?_
          replace hf := zb1_s hf
          obtain ⟨m38, hg, hf⟩ := hf
          have hj39 : zz K cX12_findHeard (5, RX12, none, 5, 0, 0, none, mo) 0 0 229 [(0, .ref x0), (1, .int x1_26)] [] m38 := by
            refine zr_iinc (j := 1) (x1_26 + 1) [(1, .int (x1_26 + 1)), (0, .ref x0)] dX12_findHeard_229 rfl rfl (Nat.le_of_ble_eq_true rfl) rfl ?_
            refine zr_goto 52 dX12_findHeard_232 (by decide) ?_
            exact zr_lv [1, 0] rfl (ih29 (x1_26 + 1) m38 hf)
          clear hf
          have hf := hg
          clear hg
          have hL103 : ∀ (n : Nat) (x2_34 : Int32) (m35 : zM), zf2 (fX12_findHeard_l62 x0 x1_26) n x2_34 m35 = some m38 → zz K cX12_findHeard (5, RX12, none, 5, 0, 0, none, mo) 0 0 62 [(0, .ref x0), (1, .int x1_26), (2, .int x2_34)] [] m35 := by
            intro n
            induction n with
            | zero => intro x2_34 m35 hf; cases hf
            | succ n ih37 =>
              intro x2_34 m35 hf
              replace hf := zf2_s hf
              generalize zf2 (fX12_findHeard_l62 x0 x1_26) n = F36 at hf ih37
              unfold fX12_findHeard_l62 at hf
              refine zr_iload_n 2 dX12_findHeard_62 rfl ?_
              refine zr_aload_n 0 dX12_findHeard_63 rfl ?_
              replace hf := zb1_s hf
              obtain ⟨v40, h41, hf⟩ := hf
              refine zr_get (zm_gI_g h41) zk12 (by decide) zl_1032 dX12_findHeard_64 ?_
              refine zr_icmp_ge 229 dX12_findHeard_67 (by decide) (fun hc => ?_) (fun hc => ?_)
              · rw [if_pos hc] at hf
                cases hf
                exact zr_lv [0, 1] rfl hj39
              · rw [if_neg hc] at hf
                refine zr_iconst 0 dX12_findHeard_70 (by decide) ?_
                refine zr_istore_n [(3, .int 0), (0, .ref x0), (1, .int x1_26), (2, .int x2_34)] dX12_findHeard_71 (Nat.le_of_ble_eq_true rfl) rfl ?_
                refine zr_iconst 0 dX12_findHeard_72 (by decide) ?_
                refine zr_istore [(4, .int 0), (3, .int 0), (0, .ref x0), (1, .int x1_26), (2, .int x2_34)] dX12_findHeard_73 (Nat.le_of_ble_eq_true rfl) rfl ?_
                replace hf := zb2_s hf
                obtain ⟨x3_47, m48, hg, hf⟩ := hf
                have hj49 : zz K cX12_findHeard (5, RX12, none, 5, 0, 0, none, mo) 0 0 101 [(0, .ref x0), (1, .int x1_26), (2, .int x2_34), (3, .int x3_47)] [] m48 := by
                  refine zr_aload_n 0 dX12_findHeard_101 rfl ?_
                  replace hf := zb1_s hf
                  obtain ⟨v56, h57, hf⟩ := hf
                  refine zr_get (zm_gR_g h57) zk12 (by decide) zl_877 dX12_findHeard_102 ?_
                  refine zr_iload_n 2 dX12_findHeard_105 rfl ?_
                  refine zr_dup2 dX12_findHeard_106 rfl rfl ?_
                  replace hf := zb1_s hf
                  obtain ⟨v58, h59, hf⟩ := hf
                  refine zr_iald h59 dX12_findHeard_107 ?_
                  refine zr_iload_n 3 dX12_findHeard_108 rfl ?_
                  refine zr_ior dX12_findHeard_109 ?_
                  replace hf := zb1_s hf
                  obtain ⟨m60, h61, hf⟩ := hf
                  refine zr_iast h61 dX12_findHeard_110 ?_
                  refine zr_aload_n 0 dX12_findHeard_111 rfl ?_
                  replace hf := zb1_s hf
                  obtain ⟨v62, h63, hf⟩ := hf
                  refine zr_get (zm_gR_g h63) zk12 (by decide) zl_879 dX12_findHeard_112 ?_
                  refine zr_iload_n 2 dX12_findHeard_115 rfl ?_
                  refine zr_aload_n 0 dX12_findHeard_116 rfl ?_
                  replace hf := zb1_s hf
                  obtain ⟨v64, h65, hf⟩ := hf
                  refine zr_get (zm_gR_g h65) zk12 (by decide) zl_879 dX12_findHeard_117 ?_
                  refine zr_iload_n 2 dX12_findHeard_120 rfl ?_
                  replace hf := zb1_s hf
                  obtain ⟨v66, h67, hf⟩ := hf
                  refine zr_iald h67 dX12_findHeard_121 ?_
                  refine zr_iconst (-1) dX12_findHeard_122 (by decide) ?_
                  replace hf := zb1_s hf
                  obtain ⟨s68, hg, hf⟩ := hf
                  have hj69 : zz K cX12_findHeard (5, RX12, none, 5, 0, 0, none, mo) 0 0 140 [(0, .ref x0), (1, .int x1_26), (2, .int x2_34), (3, .int x3_47)] [.int s68, .int x2_34, .ref v62] m60 := by
                    replace hf := zb1_s hf
                    obtain ⟨m75, h76, hf⟩ := hf
                    refine zr_iast h76 dX12_findHeard_140 ?_
                    refine zr_iload_n 3 dX12_findHeard_141 rfl ?_
                    refine zr_iload_n 3 dX12_findHeard_142 rfl ?_
                    refine zr_iconst 1 dX12_findHeard_143 (by decide) ?_
                    refine zr_isub dX12_findHeard_144 ?_
                    refine zr_iand dX12_findHeard_145 ?_
                    replace hf := zb1_s hf
                    obtain ⟨s77, hg, hf⟩ := hf
                    have hj78 : zz K cX12_findHeard (5, RX12, none, 5, 0, 0, none, mo) 0 0 154 [(0, .ref x0), (1, .int x1_26), (2, .int x2_34)] [.int s77] m75 := by
                      refine zr_istore [(4, .int s77), (0, .ref x0), (1, .int x1_26), (2, .int x2_34)] dX12_findHeard_154 (Nat.le_of_ble_eq_true rfl) rfl ?_
                      refine zr_aload_n 1 dX12_findHeard_156 rfl ?_
                      refine zr_iload 0 dX12_findHeard_157 rfl ?_
                      replace hf := zb1_s hf
                      obtain ⟨s79, hg, hf⟩ := hf
                      have hj80 : zz K cX12_findHeard (5, RX12, none, 5, 0, 0, none, mo) 0 0 177 [(0, .ref x0), (1, .int x1_26), (2, .int x2_34), (4, .int s77)] [.int s79, .ref x0] m75 := by
                        replace hf := zb1_s hf
                        obtain ⟨m84, h85, hf⟩ := hf
                        refine zr_put h85 zk12 (by decide) zl_1126 rfl rfl rfl dX12_findHeard_177 ?_
                        refine zr_aload_n 0 dX12_findHeard_180 rfl ?_
                        refine zr_iload 3 dX12_findHeard_181 rfl ?_
                        replace hf := zb1_s hf
                        obtain ⟨s86, hg, hf⟩ := hf
                        have hj87 : zz K cX12_findHeard (5, RX12, none, 5, 0, 0, none, mo) 0 0 201 [(0, .ref x0), (1, .int x1_26), (2, .int x2_34), (4, .int s77)] [.int s86, .ref x0] m84 := by
                          replace hf := zb1_s hf
                          obtain ⟨m91, h92, hf⟩ := hf
                          refine zr_put h92 zk12 (by decide) zl_1127 rfl rfl rfl dX12_findHeard_201 ?_
                          refine zr_aload_n 0 dX12_findHeard_204 rfl ?_
                          refine zr_dup dX12_findHeard_205 rfl ?_
                          replace hf := zb1_s hf
                          obtain ⟨v93, h94, hf⟩ := hf
                          refine zr_get (zm_gI_g h94) zk12 (by decide) zl_1125 dX12_findHeard_206 ?_
                          refine zr_iload 3 dX12_findHeard_209 rfl ?_
                          replace hf := zb1_s hf
                          obtain ⟨s95, hg, hf⟩ := hf
                          have hj96 : zz K cX12_findHeard (5, RX12, none, 5, 0, 0, none, mo) 0 0 219 [(0, .ref x0), (1, .int x1_26), (2, .int x2_34)] [.int s95, .int v93, .ref x0] m91 := by
                            refine zr_iadd dX12_findHeard_219 ?_
                            replace hf := zb1_s hf
                            obtain ⟨m97, h98, hf⟩ := hf
                            refine zr_put h98 zk12 (by decide) zl_1125 rfl rfl rfl dX12_findHeard_220 ?_
                            refine zr_iinc (j := 2) (x2_34 + 1) [(2, .int (x2_34 + 1)), (0, .ref x0), (1, .int x1_26)] dX12_findHeard_223 rfl rfl (Nat.le_of_ble_eq_true rfl) rfl ?_
                            refine zr_goto 62 dX12_findHeard_226 (by decide) ?_
                            exact zr_lv [1, 2, 0] rfl (ih37 (x2_34 + 1) m97 hf)
                          clear hf
                          have hf := hg
                          clear hg
                          refine zr_if_eq 218 dX12_findHeard_211 (by decide) (fun hc => ?_) (fun hc => ?_)
                          · rw [if_pos hc] at hf
                            refine zr_iconst 0 dX12_findHeard_218 (by decide) ?_
                            cases hf
                            exact zr_lv [0, 1, 2] rfl hj96
                          · rw [if_neg hc] at hf
                            refine zr_iconst 1 dX12_findHeard_214 (by decide) ?_
                            refine zr_goto 219 dX12_findHeard_215 (by decide) ?_
                            cases hf
                            exact zr_lv [0, 1, 2] rfl hj96
                        clear hf
                        have hf := hg
                        clear hg
                        have hb90 : ∀ (_ : Unit), fX12_findHeard_b197 m84 x0 = some s86 → zz K cX12_findHeard (5, RX12, none, 5, 0, 0, none, mo) 0 0 197 [(0, .ref x0), (1, .int x1_26), (2, .int x2_34), (4, .int s77)] [.ref x0] m84 := by
                          intro _ hf
                          unfold fX12_findHeard_b197 at hf
                          refine zr_aload_n 0 dX12_findHeard_197 rfl ?_
                          replace hf := zb1_s hf
                          obtain ⟨v88, h89, hf⟩ := hf
                          refine zr_get (zm_gI_g h89) zk12 (by decide) zl_1127 dX12_findHeard_198 ?_
                          cases hf
                          exact zr_lv [0, 1, 2, 3] rfl hj87
                        refine zr_if_eq 197 dX12_findHeard_183 (by decide) (fun hc => ?_) (fun hc => ?_)
                        · rw [if_pos hc] at hf
                          exact zr_lv [0, 1, 2, 3] rfl (hb90 () hf)
                        · rw [if_neg hc] at hf
                          refine zr_aload_n 0 dX12_findHeard_186 rfl ?_
                          replace hf := zb1_s hf
                          obtain ⟨v99, h100, hf⟩ := hf
                          refine zr_get (zm_gI_g h100) zk12 (by decide) zl_1125 dX12_findHeard_187 ?_
                          refine zr_if_ne 197 dX12_findHeard_190 (by decide) (fun hc => ?_) (fun hc => ?_)
                          · rw [if_neg hc] at hf
                            exact zr_lv [0, 1, 2, 3] rfl (hb90 () hf)
                          · rw [if_pos hc] at hf
                            refine zr_iload_n 2 dX12_findHeard_193 rfl ?_
                            refine zr_goto 201 dX12_findHeard_194 (by decide) ?_
                            cases hf
                            exact zr_lv [0, 1, 2, 3] rfl hj87
                      clear hf
                      have hf := hg
                      clear hg
                      have hb83 : ∀ (_ : Unit), fX12_findHeard_b173 m75 x0 = some s79 → zz K cX12_findHeard (5, RX12, none, 5, 0, 0, none, mo) 0 0 173 [(0, .ref x0), (1, .int x1_26), (2, .int x2_34), (4, .int s77)] [.ref x0] m75 := by
                        intro _ hf
                        unfold fX12_findHeard_b173 at hf
                        refine zr_aload_n 0 dX12_findHeard_173 rfl ?_
                        replace hf := zb1_s hf
                        obtain ⟨v81, h82, hf⟩ := hf
                        refine zr_get (zm_gI_g h82) zk12 (by decide) zl_1126 dX12_findHeard_174 ?_
                        cases hf
                        exact zr_lv [0, 1, 2, 3] rfl hj80
                      refine zr_if_eq 173 dX12_findHeard_159 (by decide) (fun hc => ?_) (fun hc => ?_)
                      · rw [if_pos hc] at hf
                        exact zr_lv [1, 2, 3, 0] rfl (hb83 () hf)
                      · rw [if_neg hc] at hf
                        refine zr_aload_n 1 dX12_findHeard_162 rfl ?_
                        replace hf := zb1_s hf
                        obtain ⟨v101, h102, hf⟩ := hf
                        refine zr_get (zm_gI_g h102) zk12 (by decide) zl_1125 dX12_findHeard_163 ?_
                        refine zr_if_ne 173 dX12_findHeard_166 (by decide) (fun hc => ?_) (fun hc => ?_)
                        · rw [if_neg hc] at hf
                          exact zr_lv [1, 2, 3, 0] rfl (hb83 () hf)
                        · rw [if_pos hc] at hf
                          refine zr_iload_n 2 dX12_findHeard_169 rfl ?_
                          refine zr_goto 177 dX12_findHeard_170 (by decide) ?_
                          cases hf
                          exact zr_lv [1, 2, 3, 0] rfl hj80
                    clear hf
                    have hf := hg
                    clear hg
                    refine zr_if_eq 153 dX12_findHeard_146 (by decide) (fun hc => ?_) (fun hc => ?_)
                    · rw [if_pos hc] at hf
                      refine zr_iconst 0 dX12_findHeard_153 (by decide) ?_
                      cases hf
                      exact zr_lv [0, 1, 2] rfl hj78
                    · rw [if_neg hc] at hf
                      refine zr_iconst 1 dX12_findHeard_149 (by decide) ?_
                      refine zr_goto 154 dX12_findHeard_150 (by decide) ?_
                      cases hf
                      exact zr_lv [0, 1, 2] rfl hj78
                  clear hf
                  have hf := hg
                  clear hg
                  have hb74 : ∀ (_ : Unit), fX12_findHeard_b134 m60 x0 x2_34 = some s68 → zz K cX12_findHeard (5, RX12, none, 5, 0, 0, none, mo) 0 0 134 [(0, .ref x0), (1, .int x1_26), (2, .int x2_34), (3, .int x3_47)] [.int x2_34, .ref v62] m60 := by
                    intro _ hf
                    unfold fX12_findHeard_b134 at hf
                    refine zr_aload_n 0 dX12_findHeard_134 rfl ?_
                    replace hf := zb1_s hf
                    obtain ⟨v70, h71, hf⟩ := hf
                    refine zr_get (zm_gR_g h71) zk12 (by decide) zl_879 dX12_findHeard_135 ?_
                    refine zr_iload_n 2 dX12_findHeard_138 rfl ?_
                    replace hf := zb1_s hf
                    obtain ⟨v72, h73, hf⟩ := hf
                    refine zr_iald h73 dX12_findHeard_139 ?_
                    cases hf
                    exact zr_lv [0, 1, 2, 3] rfl hj69
                  refine zr_icmp_ne 134 dX12_findHeard_123 (by decide) (fun hc => ?_) (fun hc => ?_)
                  · rw [if_neg hc] at hf
                    exact zr_lv [0, 1, 2, 3] rfl (hb74 () hf)
                  · rw [if_pos hc] at hf
                    refine zr_iload_n 3 dX12_findHeard_126 rfl ?_
                    refine zr_if_le 134 dX12_findHeard_127 (by decide) (fun hc => ?_) (fun hc => ?_)
                    · rw [if_pos hc] at hf
                      exact zr_lv [0, 1, 2, 3] rfl (hb74 () hf)
                    · rw [if_neg hc] at hf
                      refine zr_iload_n 1 dX12_findHeard_130 rfl ?_
                      refine zr_goto 140 dX12_findHeard_131 (by decide) ?_
                      cases hf
                      exact zr_lv [0, 1, 2, 3] rfl hj69
                clear hf
                have hf := hg
                clear hg
                have hL55 : ∀ (n : Nat) (x3_42 : Int32) (x4_43 : Int32) (m44 : zM), zf3 (fX12_findHeard_l75 x0 x2_34 x1_26) n x3_42 x4_43 m44 = some (x3_47, m48) → zz K cX12_findHeard (5, RX12, none, 5, 0, 0, none, mo) 0 0 75 [(0, .ref x0), (1, .int x1_26), (2, .int x2_34), (3, .int x3_42), (4, .int x4_43)] [] m44 := by
                  intro n
                  induction n with
                  | zero => intro x3_42 x4_43 m44 hf; cases hf
                  | succ n ih46 =>
                    intro x3_42 x4_43 m44 hf
                    replace hf := zf3_s hf
                    generalize zf3 (fX12_findHeard_l75 x0 x2_34 x1_26) n = F45 at hf ih46
                    unfold fX12_findHeard_l75 at hf
                    refine zr_iload 4 dX12_findHeard_75 rfl ?_
                    refine zr_aload_n 0 dX12_findHeard_77 rfl ?_
                    replace hf := zb1_s hf
                    obtain ⟨v50, h51, hf⟩ := hf
                    refine zr_get (zm_gI_g h51) zk12 (by decide) zl_1091 dX12_findHeard_78 ?_
                    refine zr_icmp_ge 101 dX12_findHeard_81 (by decide) (fun hc => ?_) (fun hc => ?_)
                    · rw [if_pos hc] at hf
                      cases hf
                      exact zr_lv [0, 1, 2, 3] rfl hj49
                    · rw [if_neg hc] at hf
                      refine zr_iload_n 3 dX12_findHeard_84 rfl ?_
                      refine zr_aload_n 0 dX12_findHeard_85 rfl ?_
                      refine zr_iload_n 2 dX12_findHeard_86 rfl ?_
                      refine zr_iload_n 1 dX12_findHeard_87 rfl ?_
                      refine zr_iload 4 dX12_findHeard_88 rfl ?_
                      replace hf := zb2_s hf
                      obtain ⟨v54, m53, h52, hf⟩ := hf
                      refine zr_callV (ci := 12) [.int x2_34, .int x1_26, .int x4_43] (cX12_hears_ok h52) zvs_X12_hears zl_1130 zl_1131 (fX12_hears_ck h52) rfl rfl zl_1129 rfl (Nat.le_of_ble_eq_true rfl) (Nat.le_of_ble_eq_true rfl) (Nat.le_of_ble_eq_true rfl) (Nat.le_of_ble_eq_true rfl) dX12_findHeard_90 rfl ?_
                      refine zr_ior dX12_findHeard_93 ?_
                      refine zr_istore_n [(3, .int (x3_42 ||| v54)), (0, .ref x0), (1, .int x1_26), (2, .int x2_34), (4, .int x4_43)] dX12_findHeard_94 (Nat.le_of_ble_eq_true rfl) rfl ?_
                      refine zr_iinc (j := 4) (x4_43 + 1) [(4, .int (x4_43 + 1)), (3, .int (x3_42 ||| v54)), (0, .ref x0), (1, .int x1_26), (2, .int x2_34)] dX12_findHeard_95 rfl rfl (Nat.le_of_ble_eq_true rfl) rfl ?_
                      refine zr_goto 75 dX12_findHeard_98 (by decide) ?_
                      exact zr_lv [2, 3, 4, 1, 0] rfl (ih46 (x3_42 ||| v54) (x4_43 + 1) m53 hf)
                exact zr_lv [2, 3, 4, 1, 0] rfl (hL55 _ 0 0 m35 hf)
          exact zr_lv [1, 2, 0] rfl (hL103 _ 0 m27 hf)
    exact zr_lv [1, 0] rfl (hL104 _ 0 m24 hf)
  clear hf
  have hf := hg
  clear hg
  have hL19 : ∀ (n : Nat) (x1_1 : Int32) (m2 : zM), zf2 (fX12_findHeard_l2 x0) n x1_1 m2 = some m5 → zz K cX12_findHeard (5, RX12, none, 5, 0, 0, none, mo) 0 0 2 [(0, .ref x0), (1, .int x1_1)] [] m2 := by
    intro n
    induction n with
    | zero => intro x1_1 m2 hf; cases hf
    | succ n ih4 =>
      intro x1_1 m2 hf
      replace hf := zf2_s hf
      generalize zf2 (fX12_findHeard_l2 x0) n = F3 at hf ih4
      unfold fX12_findHeard_l2 at hf
      refine zr_iload_n 1 dX12_findHeard_2 rfl ?_
      refine zr_bipush 6 dX12_findHeard_3 (by decide) ?_
      refine zr_icmp_ge 35 dX12_findHeard_5 (by decide) (fun hc => ?_) (fun hc => ?_)
      · rw [if_pos hc] at hf
        cases hf
        exact zr_lv [0] rfl hj6
      · rw [if_neg hc] at hf
        refine zr_aload_n 0 dX12_findHeard_8 rfl ?_
        replace hf := zb1_s hf
        obtain ⟨v7, h8, hf⟩ := hf
        refine zr_get (zm_gR_g h8) zk12 (by decide) zl_877 dX12_findHeard_9 ?_
        refine zr_iload_n 1 dX12_findHeard_12 rfl ?_
        refine zr_iconst 0 dX12_findHeard_13 (by decide) ?_
        replace hf := zb1_s hf
        obtain ⟨m9, h10, hf⟩ := hf
        refine zr_iast h10 dX12_findHeard_14 ?_
        refine zr_aload_n 0 dX12_findHeard_15 rfl ?_
        replace hf := zb1_s hf
        obtain ⟨v11, h12, hf⟩ := hf
        refine zr_get (zm_gR_g h12) zk12 (by decide) zl_878 dX12_findHeard_16 ?_
        refine zr_iload_n 1 dX12_findHeard_19 rfl ?_
        refine zr_iconst 0 dX12_findHeard_20 (by decide) ?_
        replace hf := zb1_s hf
        obtain ⟨m13, h14, hf⟩ := hf
        refine zr_iast h14 dX12_findHeard_21 ?_
        refine zr_aload_n 0 dX12_findHeard_22 rfl ?_
        replace hf := zb1_s hf
        obtain ⟨v15, h16, hf⟩ := hf
        refine zr_get (zm_gR_g h16) zk12 (by decide) zl_879 dX12_findHeard_23 ?_
        refine zr_iload_n 1 dX12_findHeard_26 rfl ?_
        refine zr_iconst (-1) dX12_findHeard_27 (by decide) ?_
        replace hf := zb1_s hf
        obtain ⟨m17, h18, hf⟩ := hf
        refine zr_iast h18 dX12_findHeard_28 ?_
        refine zr_iinc (j := 1) (x1_1 + 1) [(1, .int (x1_1 + 1)), (0, .ref x0)] dX12_findHeard_29 rfl rfl (Nat.le_of_ble_eq_true rfl) rfl ?_
        refine zr_goto 2 dX12_findHeard_32 (by decide) ?_
        exact zr_lv [1, 0] rfl (ih4 (x1_1 + 1) m17 hf)
  exact zr_lv [1, 0] rfl (hL19 _ 0 μ hf)
theorem dX12_ofPerson_0 : decode cX12_ofPerson 0 = .ok (.iload_n 2, 1) := by decide +kernel
theorem dX12_ofPerson_1 : decode cX12_ofPerson 1 = .ok (.tableswitch 56 1 3 #[27, 42, 49], 27) := by decide +kernel
theorem dX12_ofPerson_28 : decode cX12_ofPerson 28 = .ok (.aload_n 0, 1) := by decide +kernel
theorem dX12_ofPerson_29 : decode cX12_ofPerson 29 = .ok (.getfield 44, 3) := by decide +kernel
theorem dX12_ofPerson_32 : decode cX12_ofPerson 32 = .ok (.bipush 100, 2) := by decide +kernel
theorem dX12_ofPerson_34 : decode cX12_ofPerson 34 = .ok (.iload_n 1, 1) := by decide +kernel
theorem dX12_ofPerson_35 : decode cX12_ofPerson 35 = .ok (.imul, 1) := by decide +kernel
theorem dX12_ofPerson_36 : decode cX12_ofPerson 36 = .ok (.aload_n 0, 1) := by decide +kernel
theorem dX12_ofPerson_37 : decode cX12_ofPerson 37 = .ok (.getfield 332, 3) := by decide +kernel
theorem dX12_ofPerson_40 : decode cX12_ofPerson 40 = .ok (.iadd, 1) := by decide +kernel
theorem dX12_ofPerson_41 : decode cX12_ofPerson 41 = .ok (.iaload, 1) := by decide +kernel
theorem dX12_ofPerson_42 : decode cX12_ofPerson 42 = .ok (.ireturn, 1) := by decide +kernel
theorem dX12_ofPerson_43 : decode cX12_ofPerson 43 = .ok (.aload_n 0, 1) := by decide +kernel
theorem dX12_ofPerson_44 : decode cX12_ofPerson 44 = .ok (.getfield 50, 3) := by decide +kernel
theorem dX12_ofPerson_47 : decode cX12_ofPerson 47 = .ok (.iload_n 1, 1) := by decide +kernel
theorem dX12_ofPerson_48 : decode cX12_ofPerson 48 = .ok (.iaload, 1) := by decide +kernel
theorem dX12_ofPerson_49 : decode cX12_ofPerson 49 = .ok (.ireturn, 1) := by decide +kernel
theorem dX12_ofPerson_50 : decode cX12_ofPerson 50 = .ok (.aload_n 0, 1) := by decide +kernel
theorem dX12_ofPerson_51 : decode cX12_ofPerson 51 = .ok (.getfield 53, 3) := by decide +kernel
theorem dX12_ofPerson_54 : decode cX12_ofPerson 54 = .ok (.iload_n 1, 1) := by decide +kernel
theorem dX12_ofPerson_55 : decode cX12_ofPerson 55 = .ok (.iaload, 1) := by decide +kernel
theorem dX12_ofPerson_56 : decode cX12_ofPerson 56 = .ok (.ireturn, 1) := by decide +kernel
theorem dX12_ofPerson_57 : decode cX12_ofPerson 57 = .ok (.aload_n 0, 1) := by decide +kernel
theorem dX12_ofPerson_58 : decode cX12_ofPerson 58 = .ok (.getfield 56, 3) := by decide +kernel
theorem dX12_ofPerson_61 : decode cX12_ofPerson 61 = .ok (.iload_n 1, 1) := by decide +kernel
theorem dX12_ofPerson_62 : decode cX12_ofPerson 62 = .ok (.iaload, 1) := by decide +kernel
theorem dX12_ofPerson_63 : decode cX12_ofPerson 63 = .ok (.ireturn, 1) := by decide +kernel
noncomputable def fX12_ofPerson (μ : zM) (x0 : Nat) (x1 : Int32) (x2 : Int32) : Option (Int32) := zgd (zm_ck μ 12 x0) <|
  if x2 = 1 then (
  zb1 (zm_gR μ 12 x0 27) fun v1 =>
  zb1 (zm_gI μ 12 x0 30) fun v3 =>
  zb1 (zm_aI μ 0 v1 ((100 * x1) + v3)) fun v5 =>
  some v5)
  else (
  if x2 = 2 then (
  zb1 (zm_gR μ 12 x0 31) fun v8 =>
  zb1 (zm_aI μ 0 v8 x1) fun v10 =>
  some v10)
  else (
  if x2 = 3 then (
  zb1 (zm_gR μ 12 x0 32) fun v13 =>
  zb1 (zm_aI μ 0 v13 x1) fun v15 =>
  some v15)
  else (
  zb1 (zm_gR μ 12 x0 33) fun v18 =>
  zb1 (zm_aI μ 0 v18 x1) fun v20 =>
  some v20)))
theorem fX12_ofPerson_ck {μ : zM} {x0 : Nat} {x1 : Int32} {x2 : Int32} {z : Int32} (h : fX12_ofPerson μ x0 x1 x2 = some z) : zm_ck μ 12 x0 = true := (zgd_s h).1
set_option maxHeartbeats 4000000 in
set_option maxRecDepth 100000 in
theorem cX12_ofPerson_ok {μ : zM} {x0 : Nat} {x1 : Int32} {x2 : Int32} {r : Int32} (hf : fX12_ofPerson μ x0 x1 x2 = some r) : zC yX12_ofPerson cX12_ofPerson 3 (some .int) 0 0 0 [.ref x0, .int x1, .int x2] μ (some (.int r)) μ := by
  replace hf := (zgd_s hf).2
  refine zC.of (by decide) (Nat.le_of_ble_eq_true rfl) (fun K hin => ?_)
  clear hin
  show zz K cX12_ofPerson (3, RX12, some .int, 0, 0, 0, some (.int r), μ) 0 0 0 [(0, .ref x0), (1, .int x1), (2, .int x2)] [] μ
  refine zr_iload_n 2 dX12_ofPerson_0 rfl ?_
  rcases zdec (x2 = 1) with hs7 | hs7
  · rw [if_pos hs7] at hf
    refine zr_tableIn (off := 27) 28 dX12_ofPerson_1 (by rw [hs7]; decide) (by rw [hs7]; decide) (by rw [hs7]; rfl) (by decide) ?_
    refine zr_aload_n 0 dX12_ofPerson_28 rfl ?_
    replace hf := zb1_s hf
    obtain ⟨v1, h2, hf⟩ := hf
    refine zr_get (zm_gR_g h2) zk12 (by decide) zl_875 dX12_ofPerson_29 ?_
    refine zr_bipush 100 dX12_ofPerson_32 (by decide) ?_
    refine zr_iload_n 1 dX12_ofPerson_34 rfl ?_
    refine zr_imul dX12_ofPerson_35 ?_
    refine zr_aload_n 0 dX12_ofPerson_36 rfl ?_
    replace hf := zb1_s hf
    obtain ⟨v3, h4, hf⟩ := hf
    refine zr_get (zm_gI_g h4) zk12 (by decide) zl_1092 dX12_ofPerson_37 ?_
    refine zr_iadd dX12_ofPerson_40 ?_
    replace hf := zb1_s hf
    obtain ⟨v5, h6, hf⟩ := hf
    refine zr_iald h6 dX12_ofPerson_41 ?_
    cases hf
    exact zr_iret dX12_ofPerson_42
  rw [if_neg hs7] at hf
  rcases zdec (x2 = 2) with hs12 | hs12
  · rw [if_pos hs12] at hf
    refine zr_tableIn (off := 42) 43 dX12_ofPerson_1 (by rw [hs12]; decide) (by rw [hs12]; decide) (by rw [hs12]; rfl) (by decide) ?_
    refine zr_aload_n 0 dX12_ofPerson_43 rfl ?_
    replace hf := zb1_s hf
    obtain ⟨v8, h9, hf⟩ := hf
    refine zr_get (zm_gR_g h9) zk12 (by decide) zl_877 dX12_ofPerson_44 ?_
    refine zr_iload_n 1 dX12_ofPerson_47 rfl ?_
    replace hf := zb1_s hf
    obtain ⟨v10, h11, hf⟩ := hf
    refine zr_iald h11 dX12_ofPerson_48 ?_
    cases hf
    exact zr_iret dX12_ofPerson_49
  rw [if_neg hs12] at hf
  rcases zdec (x2 = 3) with hs17 | hs17
  · rw [if_pos hs17] at hf
    refine zr_tableIn (off := 49) 50 dX12_ofPerson_1 (by rw [hs17]; decide) (by rw [hs17]; decide) (by rw [hs17]; rfl) (by decide) ?_
    refine zr_aload_n 0 dX12_ofPerson_50 rfl ?_
    replace hf := zb1_s hf
    obtain ⟨v13, h14, hf⟩ := hf
    refine zr_get (zm_gR_g h14) zk12 (by decide) zl_878 dX12_ofPerson_51 ?_
    refine zr_iload_n 1 dX12_ofPerson_54 rfl ?_
    replace hf := zb1_s hf
    obtain ⟨v15, h16, hf⟩ := hf
    refine zr_iald h16 dX12_ofPerson_55 ?_
    cases hf
    exact zr_iret dX12_ofPerson_56
  rw [if_neg hs17] at hf
  refine zr_tableOut 57 dX12_ofPerson_1 (by simp only [← Int32.toInt_inj] at hs7 hs12 hs17; simp at hs7 hs12 hs17; omega) (by decide) ?_
  refine zr_aload_n 0 dX12_ofPerson_57 rfl ?_
  replace hf := zb1_s hf
  obtain ⟨v18, h19, hf⟩ := hf
  refine zr_get (zm_gR_g h19) zk12 (by decide) zl_879 dX12_ofPerson_58 ?_
  refine zr_iload_n 1 dX12_ofPerson_61 rfl ?_
  replace hf := zb1_s hf
  obtain ⟨v20, h21, hf⟩ := hf
  refine zr_iald h21 dX12_ofPerson_62 ?_
  cases hf
  exact zr_iret dX12_ofPerson_63
theorem zl_1132 : Cond.code yX12_findHeard cX12_findHeard 5 (none) ∈ zt := zt_at 1763 (by decide +kernel)
theorem zvs_X12_findHeard : zvS yX12_findHeard cX12_findHeard 5 (none) 0 := ⟨zl_1132, zl_893, ⟨by decide +kernel, by decide +kernel, by decide +kernel⟩, by decide⟩
theorem zl_1133 : Cond.methodLink RX12 371 yX12_findHeard ∈ zt := zt_at 1760 (by decide +kernel)
theorem zl_1134 : Cond.instanceMethod yX12_findHeard ∈ zt := zt_at 1762 (by decide +kernel)
theorem zl_1135 : Cond.selects RX12 yX12_findHeard yX12_findHeard ∈ zt := zt_at 91 (by decide +kernel)
theorem zl_1136 : Cond.code yX12_ofPerson cX12_ofPerson 3 (some .int) ∈ zt := zt_at 1771 (by decide +kernel)
theorem zvs_X12_ofPerson : zvS yX12_ofPerson cX12_ofPerson 3 (some .int) 2 := ⟨zl_1136, zl_893, ⟨by decide +kernel, by decide +kernel, by decide +kernel⟩, by decide⟩
theorem zl_1137 : Cond.methodLink RX12 374 yX12_ofPerson ∈ zt := zt_at 1768 (by decide +kernel)
theorem zl_1138 : Cond.instanceMethod yX12_ofPerson ∈ zt := zt_at 1770 (by decide +kernel)
theorem zl_1139 : Cond.selects RX12 yX12_ofPerson yX12_ofPerson ∈ zt := zt_at 93 (by decide +kernel)
theorem dX12_ofState_0 : decode cX12_ofState 0 = .ok (.aload_n 0, 1) := by decide +kernel
theorem dX12_ofState_1 : decode cX12_ofState 1 = .ok (.invokevirtual 371, 3) := by decide +kernel
theorem dX12_ofState_4 : decode cX12_ofState 4 = .ok (.iload_n 1, 1) := by decide +kernel
theorem dX12_ofState_5 : decode cX12_ofState 5 = .ok (.bipush 10, 2) := by decide +kernel
theorem dX12_ofState_7 : decode cX12_ofState 7 = .ok (.bipush 49, 2) := by decide +kernel
theorem dX12_ofState_9 : decode cX12_ofState 9 = .ok (.invokestatic 101, 3) := by decide +kernel
theorem dX12_ofState_12 : decode cX12_ofState 12 = .ok (.ifCond .eq 32, 3) := by decide +kernel
theorem dX12_ofState_15 : decode cX12_ofState 15 = .ok (.iload_n 1, 1) := by decide +kernel
theorem dX12_ofState_16 : decode cX12_ofState 16 = .ok (.bipush 10, 2) := by decide +kernel
theorem dX12_ofState_18 : decode cX12_ofState 18 = .ok (.irem, 1) := by decide +kernel
theorem dX12_ofState_19 : decode cX12_ofState 19 = .ok (.aload_n 0, 1) := by decide +kernel
theorem dX12_ofState_20 : decode cX12_ofState 20 = .ok (.getfield 276, 3) := by decide +kernel
theorem dX12_ofState_23 : decode cX12_ofState 23 = .ok (.if_icmp .ge 18, 3) := by decide +kernel
theorem dX12_ofState_26 : decode cX12_ofState 26 = .ok (.aload_n 0, 1) := by decide +kernel
theorem dX12_ofState_27 : decode cX12_ofState 27 = .ok (.iload_n 1, 1) := by decide +kernel
theorem dX12_ofState_28 : decode cX12_ofState 28 = .ok (.bipush 10, 2) := by decide +kernel
theorem dX12_ofState_30 : decode cX12_ofState 30 = .ok (.irem, 1) := by decide +kernel
theorem dX12_ofState_31 : decode cX12_ofState 31 = .ok (.iload_n 1, 1) := by decide +kernel
theorem dX12_ofState_32 : decode cX12_ofState 32 = .ok (.bipush 10, 2) := by decide +kernel
theorem dX12_ofState_34 : decode cX12_ofState 34 = .ok (.idiv, 1) := by decide +kernel
theorem dX12_ofState_35 : decode cX12_ofState 35 = .ok (.invokevirtual 374, 3) := by decide +kernel
theorem dX12_ofState_38 : decode cX12_ofState 38 = .ok (.goto 5, 3) := by decide +kernel
theorem dX12_ofState_41 : decode cX12_ofState 41 = .ok (.bipush (-2), 2) := by decide +kernel
theorem dX12_ofState_43 : decode cX12_ofState 43 = .ok (.ireturn, 1) := by decide +kernel
theorem dX12_ofState_44 : decode cX12_ofState 44 = .ok (.iload_n 1, 1) := by decide +kernel
theorem dX12_ofState_45 : decode cX12_ofState 45 = .ok (.tableswitch 60 0 4 #[35, 40, 45, 50, 55], 35) := by decide +kernel
theorem dX12_ofState_80 : decode cX12_ofState 80 = .ok (.aload_n 0, 1) := by decide +kernel
theorem dX12_ofState_81 : decode cX12_ofState 81 = .ok (.getfield 332, 3) := by decide +kernel
theorem dX12_ofState_84 : decode cX12_ofState 84 = .ok (.ireturn, 1) := by decide +kernel
theorem dX12_ofState_85 : decode cX12_ofState 85 = .ok (.aload_n 0, 1) := by decide +kernel
theorem dX12_ofState_86 : decode cX12_ofState 86 = .ok (.getfield 329, 3) := by decide +kernel
theorem dX12_ofState_89 : decode cX12_ofState 89 = .ok (.ireturn, 1) := by decide +kernel
theorem dX12_ofState_90 : decode cX12_ofState 90 = .ok (.aload_n 0, 1) := by decide +kernel
theorem dX12_ofState_91 : decode cX12_ofState 91 = .ok (.getfield 359, 3) := by decide +kernel
theorem dX12_ofState_94 : decode cX12_ofState 94 = .ok (.ireturn, 1) := by decide +kernel
theorem dX12_ofState_95 : decode cX12_ofState 95 = .ok (.aload_n 0, 1) := by decide +kernel
theorem dX12_ofState_96 : decode cX12_ofState 96 = .ok (.getfield 362, 3) := by decide +kernel
theorem dX12_ofState_99 : decode cX12_ofState 99 = .ok (.ireturn, 1) := by decide +kernel
theorem dX12_ofState_100 : decode cX12_ofState 100 = .ok (.aload_n 0, 1) := by decide +kernel
theorem dX12_ofState_101 : decode cX12_ofState 101 = .ok (.getfield 365, 3) := by decide +kernel
theorem dX12_ofState_104 : decode cX12_ofState 104 = .ok (.ireturn, 1) := by decide +kernel
theorem dX12_ofState_105 : decode cX12_ofState 105 = .ok (.bipush (-2), 2) := by decide +kernel
theorem dX12_ofState_107 : decode cX12_ofState 107 = .ok (.ireturn, 1) := by decide +kernel
noncomputable def fX12_ofState (μ : zM) (x0 : Nat) (x1 : Int32) : Option (Int32 × zM) := zgd (zm_ck μ 12 x0) <|
  zb1 (fX12_findHeard μ x0) fun m2 =>
  zb1 (fX12_in m2 x1 10 49) fun v4 =>
  if v4 = 0 then (
  if x1 = 0 then (
  zb1 (zm_gI m2 12 x0 30) fun v5 =>
  some (v5, m2))
  else (
  if x1 = 1 then (
  zb1 (zm_gI m2 12 x0 29) fun v8 =>
  some (v8, m2))
  else (
  if x1 = 2 then (
  zb1 (zm_gI m2 12 x0 34) fun v11 =>
  some (v11, m2))
  else (
  if x1 = 3 then (
  zb1 (zm_gI m2 12 x0 35) fun v14 =>
  some (v14, m2))
  else (
  if x1 = 4 then (
  zb1 (zm_gI m2 12 x0 36) fun v17 =>
  some (v17, m2))
  else (
  some ((-2), m2)))))))
  else (
  zb1 (zm_gI m2 12 x0 25) fun v20 =>
  zb1 (if v20 ≤ (x1 - x1 / 10 * 10) then (
  some (-2))
  else (
  zb1 (fX12_ofPerson m2 x0 (x1 - x1 / 10 * 10) (x1 / 10)) fun v25 =>
  some v25) : Option (Int32)) fun (s22 : Int32) =>
  some (s22, m2))
theorem fX12_ofState_ck {μ : zM} {x0 : Nat} {x1 : Int32} {z : Int32 × zM} (h : fX12_ofState μ x0 x1 = some z) : zm_ck μ 12 x0 = true := (zgd_s h).1
set_option maxHeartbeats 4000000 in
set_option maxRecDepth 100000 in
theorem cX12_ofState_ok {μ : zM} {x0 : Nat} {x1 : Int32} {r : Int32} {mo : zM} (hf : fX12_ofState μ x0 x1 = some (r, mo)) : zC yX12_ofState cX12_ofState 2 (some .int) 6 0 0 [.ref x0, .int x1] μ (some (.int r)) mo := by
  replace hf := (zgd_s hf).2
  refine zC.of (by decide) (Nat.le_of_ble_eq_true rfl) (fun K hin => ?_)
  clear hin
  show zz K cX12_ofState (2, RX12, some .int, 6, 0, 0, some (.int r), mo) 0 0 0 [(0, .ref x0), (1, .int x1)] [] μ
  refine zr_aload_n 0 dX12_ofState_0 rfl ?_
  replace hf := zb1_s hf
  obtain ⟨m2, h1, hf⟩ := hf
  refine zr_callV (ci := 12) [] (cX12_findHeard_ok h1) zvs_X12_findHeard zl_1134 zl_1135 (fX12_findHeard_ck h1) rfl rfl zl_1133 rfl (Nat.le_of_ble_eq_true rfl) (Nat.le_of_ble_eq_true rfl) (Nat.le_of_ble_eq_true rfl) (Nat.le_of_ble_eq_true rfl) dX12_ofState_1 rfl ?_
  refine zr_iload_n 1 dX12_ofState_4 rfl ?_
  refine zr_bipush 10 dX12_ofState_5 (by decide) ?_
  refine zr_bipush 49 dX12_ofState_7 (by decide) ?_
  replace hf := zb1_s hf
  obtain ⟨v4, h3, hf⟩ := hf
  refine zr_callS [.int x1, .int 10, .int 49] (cX12_in_ok h3) zvs_X12_in zl_898 zl_897 rfl (Nat.le_of_ble_eq_true rfl) (Nat.le_of_ble_eq_true rfl) (Nat.le_of_ble_eq_true rfl) (Nat.le_of_ble_eq_true rfl) dX12_ofState_9 rfl ?_
  refine zr_if_eq 44 dX12_ofState_12 (by decide) (fun hc => ?_) (fun hc => ?_)
  · rw [if_pos hc] at hf
    refine zr_iload_n 1 dX12_ofState_44 rfl ?_
    rcases zdec (x1 = 0) with hs7 | hs7
    · rw [if_pos hs7] at hf
      refine zr_tableIn (off := 35) 80 dX12_ofState_45 (by rw [hs7]; decide) (by rw [hs7]; decide) (by rw [hs7]; rfl) (by decide) ?_
      refine zr_aload_n 0 dX12_ofState_80 rfl ?_
      replace hf := zb1_s hf
      obtain ⟨v5, h6, hf⟩ := hf
      refine zr_get (zm_gI_g h6) zk12 (by decide) zl_1092 dX12_ofState_81 ?_
      cases hf
      exact zr_iret dX12_ofState_84
    rw [if_neg hs7] at hf
    rcases zdec (x1 = 1) with hs10 | hs10
    · rw [if_pos hs10] at hf
      refine zr_tableIn (off := 40) 85 dX12_ofState_45 (by rw [hs10]; decide) (by rw [hs10]; decide) (by rw [hs10]; rfl) (by decide) ?_
      refine zr_aload_n 0 dX12_ofState_85 rfl ?_
      replace hf := zb1_s hf
      obtain ⟨v8, h9, hf⟩ := hf
      refine zr_get (zm_gI_g h9) zk12 (by decide) zl_1091 dX12_ofState_86 ?_
      cases hf
      exact zr_iret dX12_ofState_89
    rw [if_neg hs10] at hf
    rcases zdec (x1 = 2) with hs13 | hs13
    · rw [if_pos hs13] at hf
      refine zr_tableIn (off := 45) 90 dX12_ofState_45 (by rw [hs13]; decide) (by rw [hs13]; decide) (by rw [hs13]; rfl) (by decide) ?_
      refine zr_aload_n 0 dX12_ofState_90 rfl ?_
      replace hf := zb1_s hf
      obtain ⟨v11, h12, hf⟩ := hf
      refine zr_get (zm_gI_g h12) zk12 (by decide) zl_1125 dX12_ofState_91 ?_
      cases hf
      exact zr_iret dX12_ofState_94
    rw [if_neg hs13] at hf
    rcases zdec (x1 = 3) with hs16 | hs16
    · rw [if_pos hs16] at hf
      refine zr_tableIn (off := 50) 95 dX12_ofState_45 (by rw [hs16]; decide) (by rw [hs16]; decide) (by rw [hs16]; rfl) (by decide) ?_
      refine zr_aload_n 0 dX12_ofState_95 rfl ?_
      replace hf := zb1_s hf
      obtain ⟨v14, h15, hf⟩ := hf
      refine zr_get (zm_gI_g h15) zk12 (by decide) zl_1126 dX12_ofState_96 ?_
      cases hf
      exact zr_iret dX12_ofState_99
    rw [if_neg hs16] at hf
    rcases zdec (x1 = 4) with hs19 | hs19
    · rw [if_pos hs19] at hf
      refine zr_tableIn (off := 55) 100 dX12_ofState_45 (by rw [hs19]; decide) (by rw [hs19]; decide) (by rw [hs19]; rfl) (by decide) ?_
      refine zr_aload_n 0 dX12_ofState_100 rfl ?_
      replace hf := zb1_s hf
      obtain ⟨v17, h18, hf⟩ := hf
      refine zr_get (zm_gI_g h18) zk12 (by decide) zl_1127 dX12_ofState_101 ?_
      cases hf
      exact zr_iret dX12_ofState_104
    rw [if_neg hs19] at hf
    refine zr_tableOut 105 dX12_ofState_45 (by simp only [← Int32.toInt_inj] at hs7 hs10 hs13 hs16 hs19; simp at hs7 hs10 hs13 hs16 hs19; omega) (by decide) ?_
    refine zr_bipush (-2) dX12_ofState_105 (by decide) ?_
    cases hf
    exact zr_iret dX12_ofState_107
  · rw [if_neg hc] at hf
    refine zr_iload_n 1 dX12_ofState_15 rfl ?_
    refine zr_bipush 10 dX12_ofState_16 (by decide) ?_
    refine zr_irem dX12_ofState_18 (by decide) ?_
    refine zr_aload_n 0 dX12_ofState_19 rfl ?_
    replace hf := zb1_s hf
    obtain ⟨v20, h21, hf⟩ := hf
    refine zr_get (zm_gI_g h21) zk12 (by decide) zl_1032 dX12_ofState_20 ?_
    replace hf := zb1_s hf
    obtain ⟨s22, hg, hf⟩ := hf
    have hj23 : zz K cX12_ofState (2, RX12, some .int, 6, 0, 0, some (.int r), mo) 0 0 43 [] [.int s22] m2 := by
      cases hf
      exact zr_iret dX12_ofState_43
    clear hf
    have hf := hg
    clear hg
    refine zr_icmp_ge 41 dX12_ofState_23 (by decide) (fun hc => ?_) (fun hc => ?_)
    · rw [if_pos hc] at hf
      refine zr_bipush (-2) dX12_ofState_41 (by decide) ?_
      cases hf
      exact zr_lv [] rfl hj23
    · rw [if_neg hc] at hf
      refine zr_aload_n 0 dX12_ofState_26 rfl ?_
      refine zr_iload_n 1 dX12_ofState_27 rfl ?_
      refine zr_bipush 10 dX12_ofState_28 (by decide) ?_
      refine zr_irem dX12_ofState_30 (by decide) ?_
      refine zr_iload_n 1 dX12_ofState_31 rfl ?_
      refine zr_bipush 10 dX12_ofState_32 (by decide) ?_
      refine zr_idiv dX12_ofState_34 (by decide) ?_
      replace hf := zb1_s hf
      obtain ⟨v25, h24, hf⟩ := hf
      refine zr_callV (ci := 12) [.int (x1 - x1 / 10 * 10), .int (x1 / 10)] (cX12_ofPerson_ok h24) zvs_X12_ofPerson zl_1138 zl_1139 (fX12_ofPerson_ck h24) rfl rfl zl_1137 rfl (Nat.le_of_ble_eq_true rfl) (Nat.le_of_ble_eq_true rfl) (Nat.le_of_ble_eq_true rfl) (Nat.le_of_ble_eq_true rfl) dX12_ofState_35 rfl ?_
      refine zr_goto 43 dX12_ofState_38 (by decide) ?_
      cases hf
      exact zr_lv [] rfl hj23
theorem zl_1140 : Cond.code yX12_ofState cX12_ofState 2 (some .int) ∈ zt := zt_at 1759 (by decide +kernel)
theorem zvs_X12_ofState : zvS yX12_ofState cX12_ofState 2 (some .int) 1 := ⟨zl_1140, zl_893, ⟨by decide +kernel, by decide +kernel, by decide +kernel⟩, by decide⟩
theorem zl_1141 : Cond.methodLink RX12 377 yX12_ofState ∈ zt := zt_at 1756 (by decide +kernel)
theorem zl_1142 : Cond.instanceMethod yX12_ofState ∈ zt := zt_at 1758 (by decide +kernel)
theorem zl_1143 : Cond.selects RX12 yX12_ofState yX12_ofState ∈ zt := zt_at 90 (by decide +kernel)
theorem dX12_state_0 : decode cX12_state 0 = .ok (.aload_n 0, 1) := by decide +kernel
theorem dX12_state_1 : decode cX12_state 1 = .ok (.iconst 0, 1) := by decide +kernel
theorem dX12_state_2 : decode cX12_state 2 = .ok (.putfield 93, 3) := by decide +kernel
theorem dX12_state_5 : decode cX12_state 5 = .ok (.aload_n 0, 1) := by decide +kernel
theorem dX12_state_6 : decode cX12_state 6 = .ok (.iload_n 1, 1) := by decide +kernel
theorem dX12_state_7 : decode cX12_state 7 = .ok (.iload_n 2, 1) := by decide +kernel
theorem dX12_state_8 : decode cX12_state 8 = .ok (.invokevirtual 353, 3) := by decide +kernel
theorem dX12_state_11 : decode cX12_state 11 = .ok (.ifCond .eq 33, 3) := by decide +kernel
theorem dX12_state_14 : decode cX12_state 14 = .ok (.iload_n 3, 1) := by decide +kernel
theorem dX12_state_15 : decode cX12_state 15 = .ok (.iconst 0, 1) := by decide +kernel
theorem dX12_state_16 : decode cX12_state 16 = .ok (.aload_n 0, 1) := by decide +kernel
theorem dX12_state_17 : decode cX12_state 17 = .ok (.invokevirtual 323, 3) := by decide +kernel
theorem dX12_state_20 : decode cX12_state 20 = .ok (.invokestatic 101, 3) := by decide +kernel
theorem dX12_state_23 : decode cX12_state 23 = .ok (.ifCond .eq 21, 3) := by decide +kernel
theorem dX12_state_26 : decode cX12_state 26 = .ok (.aload_n 0, 1) := by decide +kernel
theorem dX12_state_27 : decode cX12_state 27 = .ok (.iload_n 3, 1) := by decide +kernel
theorem dX12_state_28 : decode cX12_state 28 = .ok (.invokevirtual 356, 3) := by decide +kernel
theorem dX12_state_31 : decode cX12_state 31 = .ok (.iload_n 3, 1) := by decide +kernel
theorem dX12_state_32 : decode cX12_state 32 = .ok (.if_icmp .ne 12, 3) := by decide +kernel
theorem dX12_state_35 : decode cX12_state 35 = .ok (.aload_n 0, 1) := by decide +kernel
theorem dX12_state_36 : decode cX12_state 36 = .ok (.iload 4, 2) := by decide +kernel
theorem dX12_state_38 : decode cX12_state 38 = .ok (.invokevirtual 377, 3) := by decide +kernel
theorem dX12_state_41 : decode cX12_state 41 = .ok (.goto 5, 3) := by decide +kernel
theorem dX12_state_44 : decode cX12_state 44 = .ok (.bipush (-2), 2) := by decide +kernel
theorem dX12_state_46 : decode cX12_state 46 = .ok (.ireturn, 1) := by decide +kernel
noncomputable def fX12_state (μ : zM) (x0 : Nat) (x1 : Int32) (x2 : Int32) (x3 : Int32) (x4 : Int32) : Option (Int32 × zM) := zgd (zm_ck μ 12 x0) <|
  zb1 (zm_p μ 12 x0 0 (.int 0)) fun m1 =>
  zb2 (fX12_layAll m1 x0 x1 x2) fun v5 m4 =>
  zc2 (if v5 = 0 then (
  some ((-2), m4))
  else (
  zb1 (fX12_deeds m4 x0) fun v10 =>
  zb1 (fX12_in m4 x3 0 v10) fun v12 =>
  if v12 = 0 then (
  some ((-2), m4))
  else (
  zb2 (fX12_play m4 x0 x3) fun v15 m14 =>
  if v15 = x3 then (
  zb2 (fX12_ofState m14 x0 x4) fun v18 m17 =>
  some (v18, m17))
  else (
  some ((-2), m14)))) : Option (Int32 × zM)) fun (s6 : Int32) (m7 : zM) =>
  some (s6, m7)
theorem fX12_state_ck {μ : zM} {x0 : Nat} {x1 : Int32} {x2 : Int32} {x3 : Int32} {x4 : Int32} {z : Int32 × zM} (h : fX12_state μ x0 x1 x2 x3 x4 = some z) : zm_ck μ 12 x0 = true := (zgd_s h).1
set_option maxHeartbeats 4000000 in
set_option maxRecDepth 100000 in
theorem cX12_state_ok {μ : zM} {x0 : Nat} {x1 : Int32} {x2 : Int32} {x3 : Int32} {x4 : Int32} {r : Int32} {mo : zM} (hf : fX12_state μ x0 x1 x2 x3 x4 = some (r, mo)) : zC yX12_state cX12_state 5 (some .int) 7 0 0 [.ref x0, .int x1, .int x2, .int x3, .int x4] μ (some (.int r)) mo := by
  replace hf := (zgd_s hf).2
  refine zC.of (by decide) (Nat.le_of_ble_eq_true rfl) (fun K hin => ?_)
  clear hin
  show zz K cX12_state (5, RX12, some .int, 7, 0, 0, some (.int r), mo) 0 0 0 [(0, .ref x0), (1, .int x1), (2, .int x2), (3, .int x3), (4, .int x4)] [] μ
  refine zr_aload_n 0 dX12_state_0 rfl ?_
  refine zr_iconst 0 dX12_state_1 (by decide) ?_
  replace hf := zb1_s hf
  obtain ⟨m1, h2, hf⟩ := hf
  refine zr_put h2 zk12 (by decide) zl_899 rfl rfl rfl dX12_state_2 ?_
  refine zr_aload_n 0 dX12_state_5 rfl ?_
  refine zr_iload_n 1 dX12_state_6 rfl ?_
  refine zr_iload_n 2 dX12_state_7 rfl ?_
  replace hf := zb2_s hf
  obtain ⟨v5, m4, h3, hf⟩ := hf
  refine zr_callV (ci := 12) [.int x1, .int x2] (cX12_layAll_ok h3) zvs_X12_layAll zl_1119 zl_1120 (fX12_layAll_ck h3) rfl rfl zl_1118 rfl (Nat.le_of_ble_eq_true rfl) (Nat.le_of_ble_eq_true rfl) (Nat.le_of_ble_eq_true rfl) (Nat.le_of_ble_eq_true rfl) dX12_state_8 rfl ?_
  replace hf := zc2_s hf
  obtain ⟨s6, m7, hg, hf⟩ := hf
  have hj8 : zz K cX12_state (5, RX12, some .int, 7, 0, 0, some (.int r), mo) 0 0 46 [] [.int s6] m7 := by
    cases hf
    exact zr_iret dX12_state_46
  clear hf
  have hf := hg
  clear hg
  refine zr_if_eq 44 dX12_state_11 (by decide) (fun hc => ?_) (fun hc => ?_)
  · rw [if_pos hc] at hf
    refine zr_bipush (-2) dX12_state_44 (by decide) ?_
    cases hf
    exact zr_lv [] rfl hj8
  · rw [if_neg hc] at hf
    refine zr_iload_n 3 dX12_state_14 rfl ?_
    refine zr_iconst 0 dX12_state_15 (by decide) ?_
    refine zr_aload_n 0 dX12_state_16 rfl ?_
    replace hf := zb1_s hf
    obtain ⟨v10, h9, hf⟩ := hf
    refine zr_callV (ci := 12) [] (cX12_deeds_ok h9) zvs_X12_deeds zl_1085 zl_1086 (fX12_deeds_ck h9) rfl rfl zl_1084 rfl (Nat.le_of_ble_eq_true rfl) (Nat.le_of_ble_eq_true rfl) (Nat.le_of_ble_eq_true rfl) (Nat.le_of_ble_eq_true rfl) dX12_state_17 rfl ?_
    replace hf := zb1_s hf
    obtain ⟨v12, h11, hf⟩ := hf
    refine zr_callS [.int x3, .int 0, .int v10] (cX12_in_ok h11) zvs_X12_in zl_898 zl_897 rfl (Nat.le_of_ble_eq_true rfl) (Nat.le_of_ble_eq_true rfl) (Nat.le_of_ble_eq_true rfl) (Nat.le_of_ble_eq_true rfl) dX12_state_20 rfl ?_
    refine zr_if_eq 44 dX12_state_23 (by decide) (fun hc => ?_) (fun hc => ?_)
    · rw [if_pos hc] at hf
      refine zr_bipush (-2) dX12_state_44 (by decide) ?_
      cases hf
      exact zr_lv [] rfl hj8
    · rw [if_neg hc] at hf
      refine zr_aload_n 0 dX12_state_26 rfl ?_
      refine zr_iload_n 3 dX12_state_27 rfl ?_
      replace hf := zb2_s hf
      obtain ⟨v15, m14, h13, hf⟩ := hf
      refine zr_callV (ci := 12) [.int x3] (cX12_play_ok h13) zvs_X12_play zl_1123 zl_1124 (fX12_play_ck h13) rfl rfl zl_1122 rfl (Nat.le_of_ble_eq_true rfl) (Nat.le_of_ble_eq_true rfl) (Nat.le_of_ble_eq_true rfl) (Nat.le_of_ble_eq_true rfl) dX12_state_28 rfl ?_
      refine zr_iload_n 3 dX12_state_31 rfl ?_
      refine zr_icmp_ne 44 dX12_state_32 (by decide) (fun hc => ?_) (fun hc => ?_)
      · rw [if_neg hc] at hf
        refine zr_bipush (-2) dX12_state_44 (by decide) ?_
        cases hf
        exact zr_lv [] rfl hj8
      · rw [if_pos hc] at hf
        refine zr_aload_n 0 dX12_state_35 rfl ?_
        refine zr_iload 4 dX12_state_36 rfl ?_
        replace hf := zb2_s hf
        obtain ⟨v18, m17, h16, hf⟩ := hf
        refine zr_callV (ci := 12) [.int x4] (cX12_ofState_ok h16) zvs_X12_ofState zl_1142 zl_1143 (fX12_ofState_ck h16) rfl rfl zl_1141 rfl (Nat.le_of_ble_eq_true rfl) (Nat.le_of_ble_eq_true rfl) (Nat.le_of_ble_eq_true rfl) (Nat.le_of_ble_eq_true rfl) dX12_state_38 rfl ?_
        refine zr_goto 46 dX12_state_41 (by decide) ?_
        cases hf
        exact zr_lv [] rfl hj8
theorem dX12_reaches_0 : decode cX12_reaches 0 = .ok (.aload_n 0, 1) := by decide +kernel
theorem dX12_reaches_1 : decode cX12_reaches 1 = .ok (.iload_n 1, 1) := by decide +kernel
theorem dX12_reaches_2 : decode cX12_reaches 2 = .ok (.iload 4, 2) := by decide +kernel
theorem dX12_reaches_4 : decode cX12_reaches 4 = .ok (.iload 5, 2) := by decide +kernel
theorem dX12_reaches_6 : decode cX12_reaches 6 = .ok (.invokevirtual 291, 3) := by decide +kernel
theorem dX12_reaches_9 : decode cX12_reaches 9 = .ok (.iload_n 2, 1) := by decide +kernel
theorem dX12_reaches_10 : decode cX12_reaches 10 = .ok (.invokestatic 295, 3) := by decide +kernel
theorem dX12_reaches_13 : decode cX12_reaches 13 = .ok (.if_icmp .gt 17, 3) := by decide +kernel
theorem dX12_reaches_16 : decode cX12_reaches 16 = .ok (.aload_n 0, 1) := by decide +kernel
theorem dX12_reaches_17 : decode cX12_reaches 17 = .ok (.iload 5, 2) := by decide +kernel
theorem dX12_reaches_19 : decode cX12_reaches 19 = .ok (.iload_n 3, 1) := by decide +kernel
theorem dX12_reaches_20 : decode cX12_reaches 20 = .ok (.invokevirtual 285, 3) := by decide +kernel
theorem dX12_reaches_23 : decode cX12_reaches 23 = .ok (.ifCond .ne 7, 3) := by decide +kernel
theorem dX12_reaches_26 : decode cX12_reaches 26 = .ok (.iconst 1, 1) := by decide +kernel
theorem dX12_reaches_27 : decode cX12_reaches 27 = .ok (.goto 4, 3) := by decide +kernel
theorem dX12_reaches_30 : decode cX12_reaches 30 = .ok (.iconst 0, 1) := by decide +kernel
theorem dX12_reaches_31 : decode cX12_reaches 31 = .ok (.ireturn, 1) := by decide +kernel
noncomputable def fX12_reaches (μ : zM) (x0 : Nat) (x1 : Int32) (x2 : Int32) (x3 : Int32) (x4 : Int32) (x5 : Int32) : Option (Int32) := zgd (zm_ck μ 12 x0) <|
  zb1 (fX12_wayOf μ x0 x1 x4 x5) fun v2 =>
  zb1 (fX12_range μ x2) fun v4 =>
  zb1 (if v4 < v2 then (
  some 0)
  else (
  zb1 (fX12_isStill μ x0 x5 x3) fun v10 =>
  if v10 = 0 then (
  some 1)
  else (
  some 0)) : Option (Int32)) fun (s5 : Int32) =>
  zb1 (zbz s5) fun v7 =>
  some v7
theorem fX12_reaches_ck {μ : zM} {x0 : Nat} {x1 : Int32} {x2 : Int32} {x3 : Int32} {x4 : Int32} {x5 : Int32} {z : Int32} (h : fX12_reaches μ x0 x1 x2 x3 x4 x5 = some z) : zm_ck μ 12 x0 = true := (zgd_s h).1
set_option maxHeartbeats 4000000 in
set_option maxRecDepth 100000 in
theorem cX12_reaches_ok {μ : zM} {x0 : Nat} {x1 : Int32} {x2 : Int32} {x3 : Int32} {x4 : Int32} {x5 : Int32} {r : Int32} (hf : fX12_reaches μ x0 x1 x2 x3 x4 x5 = some r) : zC yX12_reaches cX12_reaches 6 (some .boolean) 3 0 0 [.ref x0, .int x1, .int x2, .int x3, .int x4, .int x5] μ (some (.int r)) μ := by
  replace hf := (zgd_s hf).2
  refine zC.of (by decide) (Nat.le_of_ble_eq_true rfl) (fun K hin => ?_)
  clear hin
  show zz K cX12_reaches (6, RX12, some .boolean, 3, 0, 0, some (.int r), μ) 0 0 0 [(0, .ref x0), (1, .int x1), (2, .int x2), (3, .int x3), (4, .int x4), (5, .int x5)] [] μ
  refine zr_aload_n 0 dX12_reaches_0 rfl ?_
  refine zr_iload_n 1 dX12_reaches_1 rfl ?_
  refine zr_iload 4 dX12_reaches_2 rfl ?_
  refine zr_iload 5 dX12_reaches_4 rfl ?_
  replace hf := zb1_s hf
  obtain ⟨v2, h1, hf⟩ := hf
  refine zr_callV (ci := 12) [.int x1, .int x4, .int x5] (cX12_wayOf_ok h1) zvs_X12_wayOf zl_1050 zl_1051 (fX12_wayOf_ck h1) rfl rfl zl_1049 rfl (Nat.le_of_ble_eq_true rfl) (Nat.le_of_ble_eq_true rfl) (Nat.le_of_ble_eq_true rfl) (Nat.le_of_ble_eq_true rfl) dX12_reaches_6 rfl ?_
  refine zr_iload_n 2 dX12_reaches_9 rfl ?_
  replace hf := zb1_s hf
  obtain ⟨v4, h3, hf⟩ := hf
  refine zr_callS [.int x2] (cX12_range_ok h3) zvs_X12_range zl_1054 zl_1053 rfl (Nat.le_of_ble_eq_true rfl) (Nat.le_of_ble_eq_true rfl) (Nat.le_of_ble_eq_true rfl) (Nat.le_of_ble_eq_true rfl) dX12_reaches_10 rfl ?_
  replace hf := zb1_s hf
  obtain ⟨s5, hg, hf⟩ := hf
  have hj6 : zz K cX12_reaches (6, RX12, some .boolean, 3, 0, 0, some (.int r), μ) 0 0 31 [] [.int s5] μ := by
    replace hf := zb1_s hf
    obtain ⟨v7, hn8, hf⟩ := hf
    replace hn8 := zbz_s hn8
    obtain ⟨hn8, rfl⟩ := hn8
    cases hf
    exact zr_zret hn8 dX12_reaches_31
  clear hf
  have hf := hg
  clear hg
  refine zr_icmp_gt 30 dX12_reaches_13 (by decide) (fun hc => ?_) (fun hc => ?_)
  · rw [if_pos hc] at hf
    refine zr_iconst 0 dX12_reaches_30 (by decide) ?_
    cases hf
    exact zr_lv [] rfl hj6
  · rw [if_neg hc] at hf
    refine zr_aload_n 0 dX12_reaches_16 rfl ?_
    refine zr_iload 5 dX12_reaches_17 rfl ?_
    refine zr_iload_n 3 dX12_reaches_19 rfl ?_
    replace hf := zb1_s hf
    obtain ⟨v10, h9, hf⟩ := hf
    refine zr_callV (ci := 12) [.int x5, .int x3] (cX12_isStill_ok h9) zvs_X12_isStill zl_1042 zl_1043 (fX12_isStill_ck h9) rfl rfl zl_1041 rfl (Nat.le_of_ble_eq_true rfl) (Nat.le_of_ble_eq_true rfl) (Nat.le_of_ble_eq_true rfl) (Nat.le_of_ble_eq_true rfl) dX12_reaches_20 rfl ?_
    refine zr_if_ne 30 dX12_reaches_23 (by decide) (fun hc => ?_) (fun hc => ?_)
    · rw [if_neg hc] at hf
      refine zr_iconst 0 dX12_reaches_30 (by decide) ?_
      cases hf
      exact zr_lv [] rfl hj6
    · rw [if_pos hc] at hf
      refine zr_iconst 1 dX12_reaches_26 (by decide) ?_
      refine zr_goto 31 dX12_reaches_27 (by decide) ?_
      cases hf
      exact zr_lv [] rfl hj6
theorem zl_1144 : Cond.code yX12_has cX12_has 2 (some .boolean) ∈ zt := zt_at 1782 (by decide +kernel)
theorem zvs_X12_has : zvS yX12_has cX12_has 2 (some .boolean) 2 := ⟨zl_1144, zl_893, ⟨by decide +kernel, by decide +kernel, by decide +kernel⟩, by decide⟩
theorem zl_1145 : Cond.methodLink RX12 380 yX12_has ∈ zt := zt_at 1780 (by decide +kernel)
theorem zl_1146 : Cond.static yX12_has ∈ zt := zt_at 1781 (by decide +kernel)
theorem zl_1147 : Cond.code yX12_reaches cX12_reaches 6 (some .boolean) ∈ zt := zt_at 1786 (by decide +kernel)
theorem zvs_X12_reaches : zvS yX12_reaches cX12_reaches 6 (some .boolean) 5 := ⟨zl_1147, zl_893, ⟨by decide +kernel, by decide +kernel, by decide +kernel⟩, by decide⟩
theorem zl_1148 : Cond.methodLink RX12 383 yX12_reaches ∈ zt := zt_at 1783 (by decide +kernel)
theorem zl_1149 : Cond.instanceMethod yX12_reaches ∈ zt := zt_at 1785 (by decide +kernel)
theorem zl_1150 : Cond.selects RX12 yX12_reaches yX12_reaches ∈ zt := zt_at 95 (by decide +kernel)
theorem dX12_isHeardBy_0 : decode cX12_isHeardBy 0 = .ok (.iconst 0, 1) := by decide +kernel
theorem dX12_isHeardBy_1 : decode cX12_isHeardBy 1 = .ok (.istore 5, 2) := by decide +kernel
theorem dX12_isHeardBy_3 : decode cX12_isHeardBy 3 = .ok (.iload 5, 2) := by decide +kernel
theorem dX12_isHeardBy_5 : decode cX12_isHeardBy 5 = .ok (.aload_n 0, 1) := by decide +kernel
theorem dX12_isHeardBy_6 : decode cX12_isHeardBy 6 = .ok (.getfield 276, 3) := by decide +kernel
theorem dX12_isHeardBy_9 : decode cX12_isHeardBy 9 = .ok (.if_icmp .ge 57, 3) := by decide +kernel
theorem dX12_isHeardBy_12 : decode cX12_isHeardBy 12 = .ok (.iconst 0, 1) := by decide +kernel
theorem dX12_isHeardBy_13 : decode cX12_isHeardBy 13 = .ok (.istore 6, 2) := by decide +kernel
theorem dX12_isHeardBy_15 : decode cX12_isHeardBy 15 = .ok (.iload 6, 2) := by decide +kernel
theorem dX12_isHeardBy_17 : decode cX12_isHeardBy 17 = .ok (.iconst 2, 1) := by decide +kernel
theorem dX12_isHeardBy_18 : decode cX12_isHeardBy 18 = .ok (.if_icmp .gt 42, 3) := by decide +kernel
theorem dX12_isHeardBy_21 : decode cX12_isHeardBy 21 = .ok (.iload_n 2, 1) := by decide +kernel
theorem dX12_isHeardBy_22 : decode cX12_isHeardBy 22 = .ok (.iload 5, 2) := by decide +kernel
theorem dX12_isHeardBy_24 : decode cX12_isHeardBy 24 = .ok (.invokestatic 380, 3) := by decide +kernel
theorem dX12_isHeardBy_27 : decode cX12_isHeardBy 27 = .ok (.ifCond .eq 27, 3) := by decide +kernel
theorem dX12_isHeardBy_30 : decode cX12_isHeardBy 30 = .ok (.aload_n 0, 1) := by decide +kernel
theorem dX12_isHeardBy_31 : decode cX12_isHeardBy 31 = .ok (.iload_n 1, 1) := by decide +kernel
theorem dX12_isHeardBy_32 : decode cX12_isHeardBy 32 = .ok (.iload_n 3, 1) := by decide +kernel
theorem dX12_isHeardBy_33 : decode cX12_isHeardBy 33 = .ok (.iload 4, 2) := by decide +kernel
theorem dX12_isHeardBy_35 : decode cX12_isHeardBy 35 = .ok (.aload_n 0, 1) := by decide +kernel
theorem dX12_isHeardBy_36 : decode cX12_isHeardBy 36 = .ok (.bipush 33, 2) := by decide +kernel
theorem dX12_isHeardBy_38 : decode cX12_isHeardBy 38 = .ok (.iload 5, 2) := by decide +kernel
theorem dX12_isHeardBy_40 : decode cX12_isHeardBy 40 = .ok (.iadd, 1) := by decide +kernel
theorem dX12_isHeardBy_41 : decode cX12_isHeardBy 41 = .ok (.invokevirtual 269, 3) := by decide +kernel
theorem dX12_isHeardBy_44 : decode cX12_isHeardBy 44 = .ok (.iload 6, 2) := by decide +kernel
theorem dX12_isHeardBy_46 : decode cX12_isHeardBy 46 = .ok (.invokevirtual 383, 3) := by decide +kernel
theorem dX12_isHeardBy_49 : decode cX12_isHeardBy 49 = .ok (.ifCond .eq 5, 3) := by decide +kernel
theorem dX12_isHeardBy_52 : decode cX12_isHeardBy 52 = .ok (.iconst 1, 1) := by decide +kernel
theorem dX12_isHeardBy_53 : decode cX12_isHeardBy 53 = .ok (.ireturn, 1) := by decide +kernel
theorem dX12_isHeardBy_54 : decode cX12_isHeardBy 54 = .ok (.iinc 6 1, 3) := by decide +kernel
theorem dX12_isHeardBy_57 : decode cX12_isHeardBy 57 = .ok (.goto (-42), 3) := by decide +kernel
theorem dX12_isHeardBy_60 : decode cX12_isHeardBy 60 = .ok (.iinc 5 1, 3) := by decide +kernel
theorem dX12_isHeardBy_63 : decode cX12_isHeardBy 63 = .ok (.goto (-60), 3) := by decide +kernel
theorem dX12_isHeardBy_66 : decode cX12_isHeardBy 66 = .ok (.iconst 0, 1) := by decide +kernel
theorem dX12_isHeardBy_67 : decode cX12_isHeardBy 67 = .ok (.ireturn, 1) := by decide +kernel
noncomputable def fX12_isHeardBy_l15 (F2 : Int32 → Option (Int32)) (x5_1 : Int32) (μ : zM) (x2 : Int32) (x0 : Nat) (x1 : Int32) (x3 : Int32) (x4 : Int32) (F7 : Int32 → Option (Int32)) (x6_6 : Int32) : Option (Int32) :=
  if 2 < x6_6 then (
  F2 (x5_1 + 1))
  else (
  zb1 (fX12_has μ x2 x5_1) fun v10 =>
  if v10 = 0 then (
  F7 (x6_6 + 1))
  else (
  zb1 (fX12_of μ x0 (33 + x5_1)) fun v12 =>
  zb1 (fX12_reaches μ x0 x1 x3 x4 v12 x6_6) fun v14 =>
  if v14 = 0 then (
  F7 (x6_6 + 1))
  else (
  some 1)))
noncomputable def fX12_isHeardBy_l3 (μ : zM) (x0 : Nat) (x2 : Int32) (x1 : Int32) (x3 : Int32) (x4 : Int32) (F2 : Int32 → Option (Int32)) (x5_1 : Int32) : Option (Int32) :=
  zb1 (zm_gI μ 12 x0 25) fun v4 =>
  if v4 ≤ x5_1 then (
  some 0)
  else (
  zf1 (fX12_isHeardBy_l15 F2 x5_1 μ x2 x0 x1 x3 x4) zfu 0)
noncomputable def fX12_isHeardBy (μ : zM) (x0 : Nat) (x1 : Int32) (x2 : Int32) (x3 : Int32) (x4 : Int32) : Option (Int32) := zgd (zm_ck μ 12 x0) <|
  zf1 (fX12_isHeardBy_l3 μ x0 x2 x1 x3 x4) zfu 0
theorem fX12_isHeardBy_ck {μ : zM} {x0 : Nat} {x1 : Int32} {x2 : Int32} {x3 : Int32} {x4 : Int32} {z : Int32} (h : fX12_isHeardBy μ x0 x1 x2 x3 x4 = some z) : zm_ck μ 12 x0 = true := (zgd_s h).1
set_option maxHeartbeats 4000000 in
set_option maxRecDepth 100000 in
theorem cX12_isHeardBy_ok {μ : zM} {x0 : Nat} {x1 : Int32} {x2 : Int32} {x3 : Int32} {x4 : Int32} {r : Int32} (hf : fX12_isHeardBy μ x0 x1 x2 x3 x4 = some r) : zC yX12_isHeardBy cX12_isHeardBy 7 (some .boolean) 4 0 0 [.ref x0, .int x1, .int x2, .int x3, .int x4] μ (some (.int r)) μ := by
  replace hf := (zgd_s hf).2
  refine zC.of (by decide) (Nat.le_of_ble_eq_true rfl) (fun K hin => ?_)
  clear hin
  show zz K cX12_isHeardBy (7, RX12, some .boolean, 4, 0, 0, some (.int r), μ) 0 0 0 [(0, .ref x0), (1, .int x1), (2, .int x2), (3, .int x3), (4, .int x4)] [] μ
  refine zr_iconst 0 dX12_isHeardBy_0 (by decide) ?_
  refine zr_istore [(5, .int 0), (0, .ref x0), (1, .int x1), (2, .int x2), (3, .int x3), (4, .int x4)] dX12_isHeardBy_1 (Nat.le_of_ble_eq_true rfl) rfl ?_
  have hL16 : ∀ (n : Nat) (x5_1 : Int32), zf1 (fX12_isHeardBy_l3 μ x0 x2 x1 x3 x4) n x5_1 = some r → zz K cX12_isHeardBy (7, RX12, some .boolean, 4, 0, 0, some (.int r), μ) 0 0 3 [(0, .ref x0), (1, .int x1), (2, .int x2), (3, .int x3), (4, .int x4), (5, .int x5_1)] [] μ := by
    intro n
    induction n with
    | zero => intro x5_1 hf; cases hf
    | succ n ih3 =>
      intro x5_1 hf
      replace hf := zf1_s hf
      generalize zf1 (fX12_isHeardBy_l3 μ x0 x2 x1 x3 x4) n = F2 at hf ih3
      unfold fX12_isHeardBy_l3 at hf
      refine zr_iload 5 dX12_isHeardBy_3 rfl ?_
      refine zr_aload_n 0 dX12_isHeardBy_5 rfl ?_
      replace hf := zb1_s hf
      obtain ⟨v4, h5, hf⟩ := hf
      refine zr_get (zm_gI_g h5) zk12 (by decide) zl_1032 dX12_isHeardBy_6 ?_
      refine zr_icmp_ge 66 dX12_isHeardBy_9 (by decide) (fun hc => ?_) (fun hc => ?_)
      · rw [if_pos hc] at hf
        refine zr_iconst 0 dX12_isHeardBy_66 (by decide) ?_
        cases hf
        exact zr_zret rfl dX12_isHeardBy_67
      · rw [if_neg hc] at hf
        refine zr_iconst 0 dX12_isHeardBy_12 (by decide) ?_
        refine zr_istore [(6, .int 0), (0, .ref x0), (1, .int x1), (2, .int x2), (3, .int x3), (4, .int x4), (5, .int x5_1)] dX12_isHeardBy_13 (Nat.le_of_ble_eq_true rfl) rfl ?_
        have hL15 : ∀ (n : Nat) (x6_6 : Int32), zf1 (fX12_isHeardBy_l15 F2 x5_1 μ x2 x0 x1 x3 x4) n x6_6 = some r → zz K cX12_isHeardBy (7, RX12, some .boolean, 4, 0, 0, some (.int r), μ) 0 0 15 [(0, .ref x0), (1, .int x1), (2, .int x2), (3, .int x3), (4, .int x4), (5, .int x5_1), (6, .int x6_6)] [] μ := by
          intro n
          induction n with
          | zero => intro x6_6 hf; cases hf
          | succ n ih8 =>
            intro x6_6 hf
            replace hf := zf1_s hf
            generalize zf1 (fX12_isHeardBy_l15 F2 x5_1 μ x2 x0 x1 x3 x4) n = F7 at hf ih8
            unfold fX12_isHeardBy_l15 at hf
            refine zr_iload 6 dX12_isHeardBy_15 rfl ?_
            refine zr_iconst 2 dX12_isHeardBy_17 (by decide) ?_
            refine zr_icmp_gt 60 dX12_isHeardBy_18 (by decide) (fun hc => ?_) (fun hc => ?_)
            · rw [if_pos hc] at hf
              refine zr_iinc (j := 5) (x5_1 + 1) [(5, .int (x5_1 + 1)), (0, .ref x0), (1, .int x1), (2, .int x2), (3, .int x3), (4, .int x4), (6, .int x6_6)] dX12_isHeardBy_60 rfl rfl (Nat.le_of_ble_eq_true rfl) rfl ?_
              refine zr_goto 3 dX12_isHeardBy_63 (by decide) ?_
              exact zr_lv [1, 2, 3, 4, 5, 0] rfl (ih3 (x5_1 + 1) hf)
            · rw [if_neg hc] at hf
              refine zr_iload_n 2 dX12_isHeardBy_21 rfl ?_
              refine zr_iload 5 dX12_isHeardBy_22 rfl ?_
              replace hf := zb1_s hf
              obtain ⟨v10, h9, hf⟩ := hf
              refine zr_callS [.int x2, .int x5_1] (cX12_has_ok h9) zvs_X12_has zl_1146 zl_1145 rfl (Nat.le_of_ble_eq_true rfl) (Nat.le_of_ble_eq_true rfl) (Nat.le_of_ble_eq_true rfl) (Nat.le_of_ble_eq_true rfl) dX12_isHeardBy_24 rfl ?_
              refine zr_if_eq 54 dX12_isHeardBy_27 (by decide) (fun hc => ?_) (fun hc => ?_)
              · rw [if_pos hc] at hf
                refine zr_iinc (j := 6) (x6_6 + 1) [(6, .int (x6_6 + 1)), (0, .ref x0), (1, .int x1), (2, .int x2), (3, .int x3), (4, .int x4), (5, .int x5_1)] dX12_isHeardBy_54 rfl rfl (Nat.le_of_ble_eq_true rfl) rfl ?_
                refine zr_goto 15 dX12_isHeardBy_57 (by decide) ?_
                exact zr_lv [1, 2, 3, 4, 5, 6, 0] rfl (ih8 (x6_6 + 1) hf)
              · rw [if_neg hc] at hf
                refine zr_aload_n 0 dX12_isHeardBy_30 rfl ?_
                refine zr_iload_n 1 dX12_isHeardBy_31 rfl ?_
                refine zr_iload_n 3 dX12_isHeardBy_32 rfl ?_
                refine zr_iload 4 dX12_isHeardBy_33 rfl ?_
                refine zr_aload_n 0 dX12_isHeardBy_35 rfl ?_
                refine zr_bipush 33 dX12_isHeardBy_36 (by decide) ?_
                refine zr_iload 5 dX12_isHeardBy_38 rfl ?_
                refine zr_iadd dX12_isHeardBy_40 ?_
                replace hf := zb1_s hf
                obtain ⟨v12, h11, hf⟩ := hf
                refine zr_callV (ci := 12) [.int (33 + x5_1)] (cX12_of_ok h11) zvs_X12_of zl_1029 zl_1030 (fX12_of_ck h11) rfl rfl zl_1028 rfl (Nat.le_of_ble_eq_true rfl) (Nat.le_of_ble_eq_true rfl) (Nat.le_of_ble_eq_true rfl) (Nat.le_of_ble_eq_true rfl) dX12_isHeardBy_41 rfl ?_
                refine zr_iload 6 dX12_isHeardBy_44 rfl ?_
                replace hf := zb1_s hf
                obtain ⟨v14, h13, hf⟩ := hf
                refine zr_callV (ci := 12) [.int x1, .int x3, .int x4, .int v12, .int x6_6] (cX12_reaches_ok h13) zvs_X12_reaches zl_1149 zl_1150 (fX12_reaches_ck h13) rfl rfl zl_1148 rfl (Nat.le_of_ble_eq_true rfl) (Nat.le_of_ble_eq_true rfl) (Nat.le_of_ble_eq_true rfl) (Nat.le_of_ble_eq_true rfl) dX12_isHeardBy_46 rfl ?_
                refine zr_if_eq 54 dX12_isHeardBy_49 (by decide) (fun hc => ?_) (fun hc => ?_)
                · rw [if_pos hc] at hf
                  refine zr_iinc (j := 6) (x6_6 + 1) [(6, .int (x6_6 + 1)), (0, .ref x0), (1, .int x1), (2, .int x2), (3, .int x3), (4, .int x4), (5, .int x5_1)] dX12_isHeardBy_54 rfl rfl (Nat.le_of_ble_eq_true rfl) rfl ?_
                  refine zr_goto 15 dX12_isHeardBy_57 (by decide) ?_
                  exact zr_lv [1, 2, 3, 4, 5, 6, 0] rfl (ih8 (x6_6 + 1) hf)
                · rw [if_neg hc] at hf
                  refine zr_iconst 1 dX12_isHeardBy_52 (by decide) ?_
                  cases hf
                  exact zr_zret rfl dX12_isHeardBy_53
        exact zr_lv [1, 2, 3, 4, 5, 6, 0] rfl (hL15 _ 0 hf)
  exact zr_lv [1, 2, 3, 4, 5, 0] rfl (hL16 _ 0 hf)
theorem zl_1151 : Cond.code yX12_isHeardBy cX12_isHeardBy 7 (some .boolean) ∈ zt := zt_at 1779 (by decide +kernel)
theorem zvs_X12_isHeardBy : zvS yX12_isHeardBy cX12_isHeardBy 7 (some .boolean) 4 := ⟨zl_1151, zl_893, ⟨by decide +kernel, by decide +kernel, by decide +kernel⟩, by decide⟩
theorem zl_1152 : Cond.methodLink RX12 387 yX12_isHeardBy ∈ zt := zt_at 1776 (by decide +kernel)
theorem zl_1153 : Cond.instanceMethod yX12_isHeardBy ∈ zt := zt_at 1778 (by decide +kernel)
theorem zl_1154 : Cond.selects RX12 yX12_isHeardBy yX12_isHeardBy ∈ zt := zt_at 94 (by decide +kernel)
theorem dX12_hush_0 : decode cX12_hush 0 = .ok (.aload_n 0, 1) := by decide +kernel
theorem dX12_hush_1 : decode cX12_hush 1 = .ok (.iconst 0, 1) := by decide +kernel
theorem dX12_hush_2 : decode cX12_hush 2 = .ok (.putfield 93, 3) := by decide +kernel
theorem dX12_hush_5 : decode cX12_hush 5 = .ok (.aload_n 0, 1) := by decide +kernel
theorem dX12_hush_6 : decode cX12_hush 6 = .ok (.iload_n 1, 1) := by decide +kernel
theorem dX12_hush_7 : decode cX12_hush 7 = .ok (.invokevirtual 298, 3) := by decide +kernel
theorem dX12_hush_10 : decode cX12_hush 10 = .ok (.ifCond .eq 39, 3) := by decide +kernel
theorem dX12_hush_13 : decode cX12_hush 13 = .ok (.iload_n 2, 1) := by decide +kernel
theorem dX12_hush_14 : decode cX12_hush 14 = .ok (.iconst 0, 1) := by decide +kernel
theorem dX12_hush_15 : decode cX12_hush 15 = .ok (.iconst 1, 1) := by decide +kernel
theorem dX12_hush_16 : decode cX12_hush 16 = .ok (.aload_n 0, 1) := by decide +kernel
theorem dX12_hush_17 : decode cX12_hush 17 = .ok (.getfield 276, 3) := by decide +kernel
theorem dX12_hush_20 : decode cX12_hush 20 = .ok (.ishl, 1) := by decide +kernel
theorem dX12_hush_21 : decode cX12_hush 21 = .ok (.iconst 1, 1) := by decide +kernel
theorem dX12_hush_22 : decode cX12_hush 22 = .ok (.isub, 1) := by decide +kernel
theorem dX12_hush_23 : decode cX12_hush 23 = .ok (.invokestatic 101, 3) := by decide +kernel
theorem dX12_hush_26 : decode cX12_hush 26 = .ok (.ifCond .eq 23, 3) := by decide +kernel
theorem dX12_hush_29 : decode cX12_hush 29 = .ok (.iload_n 3, 1) := by decide +kernel
theorem dX12_hush_30 : decode cX12_hush 30 = .ok (.iconst 0, 1) := by decide +kernel
theorem dX12_hush_31 : decode cX12_hush 31 = .ok (.iconst 2, 1) := by decide +kernel
theorem dX12_hush_32 : decode cX12_hush 32 = .ok (.invokestatic 101, 3) := by decide +kernel
theorem dX12_hush_35 : decode cX12_hush 35 = .ok (.ifCond .eq 14, 3) := by decide +kernel
theorem dX12_hush_38 : decode cX12_hush 38 = .ok (.iload 4, 2) := by decide +kernel
theorem dX12_hush_40 : decode cX12_hush 40 = .ok (.iconst 0, 1) := by decide +kernel
theorem dX12_hush_41 : decode cX12_hush 41 = .ok (.bipush 99, 2) := by decide +kernel
theorem dX12_hush_43 : decode cX12_hush 43 = .ok (.invokestatic 101, 3) := by decide +kernel
theorem dX12_hush_46 : decode cX12_hush 46 = .ok (.ifCond .ne 6, 3) := by decide +kernel
theorem dX12_hush_49 : decode cX12_hush 49 = .ok (.bipush (-2), 2) := by decide +kernel
theorem dX12_hush_51 : decode cX12_hush 51 = .ok (.ireturn, 1) := by decide +kernel
theorem dX12_hush_52 : decode cX12_hush 52 = .ok (.iconst 0, 1) := by decide +kernel
theorem dX12_hush_53 : decode cX12_hush 53 = .ok (.istore 6, 2) := by decide +kernel
theorem dX12_hush_55 : decode cX12_hush 55 = .ok (.iconst (-1), 1) := by decide +kernel
theorem dX12_hush_56 : decode cX12_hush 56 = .ok (.istore 7, 2) := by decide +kernel
theorem dX12_hush_58 : decode cX12_hush 58 = .ok (.aload_n 0, 1) := by decide +kernel
theorem dX12_hush_59 : decode cX12_hush 59 = .ok (.getfield 273, 3) := by decide +kernel
theorem dX12_hush_62 : decode cX12_hush 62 = .ok (.istore 8, 2) := by decide +kernel
theorem dX12_hush_64 : decode cX12_hush 64 = .ok (.iload 8, 2) := by decide +kernel
theorem dX12_hush_66 : decode cX12_hush 66 = .ok (.ifCond .lt 58, 3) := by decide +kernel
theorem dX12_hush_69 : decode cX12_hush 69 = .ok (.aload_n 0, 1) := by decide +kernel
theorem dX12_hush_70 : decode cX12_hush 70 = .ok (.iload 8, 2) := by decide +kernel
theorem dX12_hush_72 : decode cX12_hush 72 = .ok (.iload_n 2, 1) := by decide +kernel
theorem dX12_hush_73 : decode cX12_hush 73 = .ok (.iload_n 3, 1) := by decide +kernel
theorem dX12_hush_74 : decode cX12_hush 74 = .ok (.iload 4, 2) := by decide +kernel
theorem dX12_hush_76 : decode cX12_hush 76 = .ok (.invokevirtual 387, 3) := by decide +kernel
theorem dX12_hush_79 : decode cX12_hush 79 = .ok (.ifCond .ne 7, 3) := by decide +kernel
theorem dX12_hush_82 : decode cX12_hush 82 = .ok (.iconst 1, 1) := by decide +kernel
theorem dX12_hush_83 : decode cX12_hush 83 = .ok (.goto 4, 3) := by decide +kernel
theorem dX12_hush_86 : decode cX12_hush 86 = .ok (.iconst 0, 1) := by decide +kernel
theorem dX12_hush_87 : decode cX12_hush 87 = .ok (.istore 9, 2) := by decide +kernel
theorem dX12_hush_89 : decode cX12_hush 89 = .ok (.iload 6, 2) := by decide +kernel
theorem dX12_hush_91 : decode cX12_hush 91 = .ok (.iload 9, 2) := by decide +kernel
theorem dX12_hush_93 : decode cX12_hush 93 = .ok (.ifCond .eq 7, 3) := by decide +kernel
theorem dX12_hush_96 : decode cX12_hush 96 = .ok (.iconst 1, 1) := by decide +kernel
theorem dX12_hush_97 : decode cX12_hush 97 = .ok (.goto 4, 3) := by decide +kernel
theorem dX12_hush_100 : decode cX12_hush 100 = .ok (.iconst 0, 1) := by decide +kernel
theorem dX12_hush_101 : decode cX12_hush 101 = .ok (.iadd, 1) := by decide +kernel
theorem dX12_hush_102 : decode cX12_hush 102 = .ok (.istore 6, 2) := by decide +kernel
theorem dX12_hush_104 : decode cX12_hush 104 = .ok (.iload 9, 2) := by decide +kernel
theorem dX12_hush_106 : decode cX12_hush 106 = .ok (.ifCond .eq 8, 3) := by decide +kernel
theorem dX12_hush_109 : decode cX12_hush 109 = .ok (.iload 8, 2) := by decide +kernel
theorem dX12_hush_111 : decode cX12_hush 111 = .ok (.goto 5, 3) := by decide +kernel
theorem dX12_hush_114 : decode cX12_hush 114 = .ok (.iload 7, 2) := by decide +kernel
theorem dX12_hush_116 : decode cX12_hush 116 = .ok (.istore 7, 2) := by decide +kernel
theorem dX12_hush_118 : decode cX12_hush 118 = .ok (.iinc 8 (-1), 3) := by decide +kernel
theorem dX12_hush_121 : decode cX12_hush 121 = .ok (.goto (-57), 3) := by decide +kernel
theorem dX12_hush_124 : decode cX12_hush 124 = .ok (.iload 5, 2) := by decide +kernel
theorem dX12_hush_126 : decode cX12_hush 126 = .ok (.ifCond .eq 8, 3) := by decide +kernel
theorem dX12_hush_129 : decode cX12_hush 129 = .ok (.iload 7, 2) := by decide +kernel
theorem dX12_hush_131 : decode cX12_hush 131 = .ok (.goto 5, 3) := by decide +kernel
theorem dX12_hush_134 : decode cX12_hush 134 = .ok (.iload 6, 2) := by decide +kernel
theorem dX12_hush_136 : decode cX12_hush 136 = .ok (.ireturn, 1) := by decide +kernel
noncomputable def fX12_hush_l64 (m4 : zM) (x0 : Nat) (x2 : Int32) (x3 : Int32) (x4 : Int32) (F19 : Int32 → Int32 → Int32 → Option (Int32 × Int32)) (x6_16 : Int32) (x7_17 : Int32) (x8_18 : Int32) : Option (Int32 × Int32) :=
  if x8_18 < 0 then (
  some (x6_16, x7_17))
  else (
  zb1 (fX12_isHeardBy m4 x0 x8_18 x2 x3 x4) fun v25 =>
  zb1 (if v25 = 0 then (
  some 1)
  else (
  some 0) : Option (Int32)) fun (s26 : Int32) =>
  zb1 (if s26 = 0 then (
  some 0)
  else (
  some 1) : Option (Int32)) fun (s28 : Int32) =>
  zb1 (if s26 = 0 then (
  some x7_17)
  else (
  some x8_18) : Option (Int32)) fun (s30 : Int32) =>
  F19 (x6_16 + s28) s30 (x8_18 + (-1)))
noncomputable def fX12_hush (μ : zM) (x0 : Nat) (x1 : Int32) (x2 : Int32) (x3 : Int32) (x4 : Int32) (x5 : Int32) : Option (Int32 × zM) := zgd (zm_ck μ 12 x0) <|
  zb1 (zm_p μ 12 x0 0 (.int 0)) fun m1 =>
  zb2 (fX12_hand m1 x0 x1) fun v5 m4 =>
  if v5 = 0 then (
  some ((-2), m4))
  else (
  zb1 (zm_gI m4 12 x0 25) fun v6 =>
  zb1 (fX12_in m4 x2 0 ((1 <<< (v6 &&& 31)) - 1)) fun v9 =>
  if v9 = 0 then (
  some ((-2), m4))
  else (
  zb1 (fX12_in m4 x3 0 2) fun v11 =>
  if v11 = 0 then (
  some ((-2), m4))
  else (
  zb1 (fX12_in m4 x4 0 99) fun v13 =>
  if v13 = 0 then (
  some ((-2), m4))
  else (
  zb1 (zm_gI m4 12 x0 24) fun v14 =>
  zb2 (zf3 (fX12_hush_l64 m4 x0 x2 x3 x4) zfu 0 (-1) v14 : Option (Int32 × Int32)) fun (x6_21 : Int32) (x7_22 : Int32) =>
  zb1 (if x5 = 0 then (
  some x6_21)
  else (
  some x7_22) : Option (Int32)) fun (s33 : Int32) =>
  some (s33, m4)))))
theorem fX12_hush_ck {μ : zM} {x0 : Nat} {x1 : Int32} {x2 : Int32} {x3 : Int32} {x4 : Int32} {x5 : Int32} {z : Int32 × zM} (h : fX12_hush μ x0 x1 x2 x3 x4 x5 = some z) : zm_ck μ 12 x0 = true := (zgd_s h).1
set_option maxHeartbeats 4000000 in
set_option maxRecDepth 100000 in
theorem cX12_hush_ok {μ : zM} {x0 : Nat} {x1 : Int32} {x2 : Int32} {x3 : Int32} {x4 : Int32} {x5 : Int32} {r : Int32} {mo : zM} (hf : fX12_hush μ x0 x1 x2 x3 x4 x5 = some (r, mo)) : zC yX12_hush cX12_hush 10 (some .int) 5 0 0 [.ref x0, .int x1, .int x2, .int x3, .int x4, .int x5] μ (some (.int r)) mo := by
  replace hf := (zgd_s hf).2
  refine zC.of (by decide) (Nat.le_of_ble_eq_true rfl) (fun K hin => ?_)
  clear hin
  show zz K cX12_hush (10, RX12, some .int, 5, 0, 0, some (.int r), mo) 0 0 0 [(0, .ref x0), (1, .int x1), (2, .int x2), (3, .int x3), (4, .int x4), (5, .int x5)] [] μ
  refine zr_aload_n 0 dX12_hush_0 rfl ?_
  refine zr_iconst 0 dX12_hush_1 (by decide) ?_
  replace hf := zb1_s hf
  obtain ⟨m1, h2, hf⟩ := hf
  refine zr_put h2 zk12 (by decide) zl_899 rfl rfl rfl dX12_hush_2 ?_
  refine zr_aload_n 0 dX12_hush_5 rfl ?_
  refine zr_iload_n 1 dX12_hush_6 rfl ?_
  replace hf := zb2_s hf
  obtain ⟨v5, m4, h3, hf⟩ := hf
  refine zr_callV (ci := 12) [.int x1] (cX12_hand_ok h3) zvs_X12_hand zl_1057 zl_1058 (fX12_hand_ck h3) rfl rfl zl_1056 rfl (Nat.le_of_ble_eq_true rfl) (Nat.le_of_ble_eq_true rfl) (Nat.le_of_ble_eq_true rfl) (Nat.le_of_ble_eq_true rfl) dX12_hush_7 rfl ?_
  refine zr_if_eq 49 dX12_hush_10 (by decide) (fun hc => ?_) (fun hc => ?_)
  · rw [if_pos hc] at hf
    refine zr_bipush (-2) dX12_hush_49 (by decide) ?_
    cases hf
    exact zr_iret dX12_hush_51
  · rw [if_neg hc] at hf
    refine zr_iload_n 2 dX12_hush_13 rfl ?_
    refine zr_iconst 0 dX12_hush_14 (by decide) ?_
    refine zr_iconst 1 dX12_hush_15 (by decide) ?_
    refine zr_aload_n 0 dX12_hush_16 rfl ?_
    replace hf := zb1_s hf
    obtain ⟨v6, h7, hf⟩ := hf
    refine zr_get (zm_gI_g h7) zk12 (by decide) zl_1032 dX12_hush_17 ?_
    refine zr_ishl dX12_hush_20 ?_
    refine zr_iconst 1 dX12_hush_21 (by decide) ?_
    refine zr_isub dX12_hush_22 ?_
    replace hf := zb1_s hf
    obtain ⟨v9, h8, hf⟩ := hf
    refine zr_callS [.int x2, .int 0, .int ((1 <<< (v6 &&& 31)) - 1)] (cX12_in_ok h8) zvs_X12_in zl_898 zl_897 rfl (Nat.le_of_ble_eq_true rfl) (Nat.le_of_ble_eq_true rfl) (Nat.le_of_ble_eq_true rfl) (Nat.le_of_ble_eq_true rfl) dX12_hush_23 rfl ?_
    refine zr_if_eq 49 dX12_hush_26 (by decide) (fun hc => ?_) (fun hc => ?_)
    · rw [if_pos hc] at hf
      refine zr_bipush (-2) dX12_hush_49 (by decide) ?_
      cases hf
      exact zr_iret dX12_hush_51
    · rw [if_neg hc] at hf
      refine zr_iload_n 3 dX12_hush_29 rfl ?_
      refine zr_iconst 0 dX12_hush_30 (by decide) ?_
      refine zr_iconst 2 dX12_hush_31 (by decide) ?_
      replace hf := zb1_s hf
      obtain ⟨v11, h10, hf⟩ := hf
      refine zr_callS [.int x3, .int 0, .int 2] (cX12_in_ok h10) zvs_X12_in zl_898 zl_897 rfl (Nat.le_of_ble_eq_true rfl) (Nat.le_of_ble_eq_true rfl) (Nat.le_of_ble_eq_true rfl) (Nat.le_of_ble_eq_true rfl) dX12_hush_32 rfl ?_
      refine zr_if_eq 49 dX12_hush_35 (by decide) (fun hc => ?_) (fun hc => ?_)
      · rw [if_pos hc] at hf
        refine zr_bipush (-2) dX12_hush_49 (by decide) ?_
        cases hf
        exact zr_iret dX12_hush_51
      · rw [if_neg hc] at hf
        refine zr_iload 4 dX12_hush_38 rfl ?_
        refine zr_iconst 0 dX12_hush_40 (by decide) ?_
        refine zr_bipush 99 dX12_hush_41 (by decide) ?_
        replace hf := zb1_s hf
        obtain ⟨v13, h12, hf⟩ := hf
        refine zr_callS [.int x4, .int 0, .int 99] (cX12_in_ok h12) zvs_X12_in zl_898 zl_897 rfl (Nat.le_of_ble_eq_true rfl) (Nat.le_of_ble_eq_true rfl) (Nat.le_of_ble_eq_true rfl) (Nat.le_of_ble_eq_true rfl) dX12_hush_43 rfl ?_
        refine zr_if_ne 52 dX12_hush_46 (by decide) (fun hc => ?_) (fun hc => ?_)
        · rw [if_neg hc] at hf
          refine zr_iconst 0 dX12_hush_52 (by decide) ?_
          refine zr_istore [(6, .int 0), (0, .ref x0), (1, .int x1), (2, .int x2), (3, .int x3), (4, .int x4), (5, .int x5)] dX12_hush_53 (Nat.le_of_ble_eq_true rfl) rfl ?_
          refine zr_iconst (-1) dX12_hush_55 (by decide) ?_
          refine zr_istore [(7, .int (-1)), (6, .int 0), (0, .ref x0), (1, .int x1), (2, .int x2), (3, .int x3), (4, .int x4), (5, .int x5)] dX12_hush_56 (Nat.le_of_ble_eq_true rfl) rfl ?_
          refine zr_aload_n 2 dX12_hush_58 rfl ?_
          replace hf := zb1_s hf
          obtain ⟨v14, h15, hf⟩ := hf
          refine zr_get (zm_gI_g h15) zk12 (by decide) zl_1031 dX12_hush_59 ?_
          refine zr_istore [(8, .int v14), (7, .int (-1)), (6, .int 0), (0, .ref x0), (1, .int x1), (2, .int x2), (3, .int x3), (4, .int x4), (5, .int x5)] dX12_hush_62 (Nat.le_of_ble_eq_true rfl) rfl ?_
          replace hf := zb2_s hf
          obtain ⟨x6_21, x7_22, hg, hf⟩ := hf
          have hj23 : zz K cX12_hush (10, RX12, some .int, 5, 0, 0, some (.int r), mo) 0 0 124 [(5, .int x5), (6, .int x6_21), (7, .int x7_22)] [] m4 := by
            refine zr_iload 0 dX12_hush_124 rfl ?_
            replace hf := zb1_s hf
            obtain ⟨s33, hg, hf⟩ := hf
            have hj34 : zz K cX12_hush (10, RX12, some .int, 5, 0, 0, some (.int r), mo) 0 0 136 [] [.int s33] m4 := by
              cases hf
              exact zr_iret dX12_hush_136
            clear hf
            have hf := hg
            clear hg
            refine zr_if_eq 134 dX12_hush_126 (by decide) (fun hc => ?_) (fun hc => ?_)
            · rw [if_pos hc] at hf
              refine zr_iload 1 dX12_hush_134 rfl ?_
              cases hf
              exact zr_lv [] rfl hj34
            · rw [if_neg hc] at hf
              refine zr_iload 2 dX12_hush_129 rfl ?_
              refine zr_goto 136 dX12_hush_131 (by decide) ?_
              cases hf
              exact zr_lv [] rfl hj34
          clear hf
          have hf := hg
          clear hg
          have hL32 : ∀ (n : Nat) (x6_16 : Int32) (x7_17 : Int32) (x8_18 : Int32), zf3 (fX12_hush_l64 m4 x0 x2 x3 x4) n x6_16 x7_17 x8_18 = some (x6_21, x7_22) → zz K cX12_hush (10, RX12, some .int, 5, 0, 0, some (.int r), mo) 0 0 64 [(0, .ref x0), (2, .int x2), (3, .int x3), (4, .int x4), (5, .int x5), (6, .int x6_16), (7, .int x7_17), (8, .int x8_18)] [] m4 := by
            intro n
            induction n with
            | zero => intro x6_16 x7_17 x8_18 hf; cases hf
            | succ n ih20 =>
              intro x6_16 x7_17 x8_18 hf
              replace hf := zf3_s hf
              generalize zf3 (fX12_hush_l64 m4 x0 x2 x3 x4) n = F19 at hf ih20
              unfold fX12_hush_l64 at hf
              refine zr_iload 7 dX12_hush_64 rfl ?_
              refine zr_if_lt 124 dX12_hush_66 (by decide) (fun hc => ?_) (fun hc => ?_)
              · rw [if_pos hc] at hf
                cases hf
                exact zr_lv [4, 5, 6] rfl hj23
              · rw [if_neg hc] at hf
                refine zr_aload_n 0 dX12_hush_69 rfl ?_
                refine zr_iload 7 dX12_hush_70 rfl ?_
                refine zr_iload_n 1 dX12_hush_72 rfl ?_
                refine zr_iload_n 2 dX12_hush_73 rfl ?_
                refine zr_iload 3 dX12_hush_74 rfl ?_
                replace hf := zb1_s hf
                obtain ⟨v25, h24, hf⟩ := hf
                refine zr_callV (ci := 12) [.int x8_18, .int x2, .int x3, .int x4] (cX12_isHeardBy_ok h24) zvs_X12_isHeardBy zl_1153 zl_1154 (fX12_isHeardBy_ck h24) rfl rfl zl_1152 rfl (Nat.le_of_ble_eq_true rfl) (Nat.le_of_ble_eq_true rfl) (Nat.le_of_ble_eq_true rfl) (Nat.le_of_ble_eq_true rfl) dX12_hush_76 rfl ?_
                replace hf := zb1_s hf
                obtain ⟨s26, hg, hf⟩ := hf
                have hj27 : zz K cX12_hush (10, RX12, some .int, 5, 0, 0, some (.int r), mo) 0 0 87 [(0, .ref x0), (2, .int x2), (3, .int x3), (4, .int x4), (5, .int x5), (6, .int x6_16), (7, .int x7_17), (8, .int x8_18)] [.int s26] m4 := by
                  refine zr_istore [(9, .int s26), (0, .ref x0), (2, .int x2), (3, .int x3), (4, .int x4), (5, .int x5), (6, .int x6_16), (7, .int x7_17), (8, .int x8_18)] dX12_hush_87 (Nat.le_of_ble_eq_true rfl) rfl ?_
                  refine zr_iload 6 dX12_hush_89 rfl ?_
                  refine zr_iload 0 dX12_hush_91 rfl ?_
                  replace hf := zb1_s hf
                  obtain ⟨s28, hg, hf⟩ := hf
                  have hj29 : zz K cX12_hush (10, RX12, some .int, 5, 0, 0, some (.int r), mo) 0 0 101 [(0, .ref x0), (2, .int x2), (3, .int x3), (4, .int x4), (5, .int x5), (7, .int x7_17), (8, .int x8_18), (9, .int s26)] [.int s28, .int x6_16] m4 := by
                    refine zr_iadd dX12_hush_101 ?_
                    refine zr_istore [(6, .int (x6_16 + s28)), (0, .ref x0), (2, .int x2), (3, .int x3), (4, .int x4), (5, .int x5), (7, .int x7_17), (8, .int x8_18), (9, .int s26)] dX12_hush_102 (Nat.le_of_ble_eq_true rfl) rfl ?_
                    refine zr_iload 8 dX12_hush_104 rfl ?_
                    replace hf := zb1_s hf
                    obtain ⟨s30, hg, hf⟩ := hf
                    have hj31 : zz K cX12_hush (10, RX12, some .int, 5, 0, 0, some (.int r), mo) 0 0 116 [(0, .ref x0), (2, .int x2), (3, .int x3), (4, .int x4), (5, .int x5), (6, .int (x6_16 + s28)), (8, .int x8_18)] [.int s30] m4 := by
                      refine zr_istore [(7, .int s30), (0, .ref x0), (2, .int x2), (3, .int x3), (4, .int x4), (5, .int x5), (6, .int (x6_16 + s28)), (8, .int x8_18)] dX12_hush_116 (Nat.le_of_ble_eq_true rfl) rfl ?_
                      refine zr_iinc (j := 7) (x8_18 + (-1)) [(8, .int (x8_18 + (-1))), (7, .int s30), (0, .ref x0), (2, .int x2), (3, .int x3), (4, .int x4), (5, .int x5), (6, .int (x6_16 + s28))] dX12_hush_118 rfl rfl (Nat.le_of_ble_eq_true rfl) rfl ?_
                      refine zr_goto 64 dX12_hush_121 (by decide) ?_
                      exact zr_lv [2, 3, 4, 5, 6, 7, 1, 0] rfl (ih20 (x6_16 + s28) s30 (x8_18 + (-1)) hf)
                    clear hf
                    have hf := hg
                    clear hg
                    refine zr_if_eq 114 dX12_hush_106 (by decide) (fun hc => ?_) (fun hc => ?_)
                    · rw [if_pos hc] at hf
                      refine zr_iload 6 dX12_hush_114 rfl ?_
                      cases hf
                      exact zr_lv [1, 2, 3, 4, 5, 0, 7] rfl hj31
                    · rw [if_neg hc] at hf
                      refine zr_iload 7 dX12_hush_109 rfl ?_
                      refine zr_goto 116 dX12_hush_111 (by decide) ?_
                      cases hf
                      exact zr_lv [1, 2, 3, 4, 5, 0, 7] rfl hj31
                  clear hf
                  have hf := hg
                  clear hg
                  refine zr_if_eq 100 dX12_hush_93 (by decide) (fun hc => ?_) (fun hc => ?_)
                  · rw [if_pos hc] at hf
                    refine zr_iconst 0 dX12_hush_100 (by decide) ?_
                    cases hf
                    exact zr_lv [1, 2, 3, 4, 5, 7, 8, 0] rfl hj29
                  · rw [if_neg hc] at hf
                    refine zr_iconst 1 dX12_hush_96 (by decide) ?_
                    refine zr_goto 101 dX12_hush_97 (by decide) ?_
                    cases hf
                    exact zr_lv [1, 2, 3, 4, 5, 7, 8, 0] rfl hj29
                clear hf
                have hf := hg
                clear hg
                refine zr_if_ne 86 dX12_hush_79 (by decide) (fun hc => ?_) (fun hc => ?_)
                · rw [if_neg hc] at hf
                  refine zr_iconst 0 dX12_hush_86 (by decide) ?_
                  cases hf
                  exact zr_lv [0, 1, 2, 3, 4, 5, 6, 7] rfl hj27
                · rw [if_pos hc] at hf
                  refine zr_iconst 1 dX12_hush_82 (by decide) ?_
                  refine zr_goto 87 dX12_hush_83 (by decide) ?_
                  cases hf
                  exact zr_lv [0, 1, 2, 3, 4, 5, 6, 7] rfl hj27
          exact zr_lv [3, 5, 6, 7, 8, 2, 1, 0] rfl (hL32 _ 0 (-1) v14 hf)
        · rw [if_pos hc] at hf
          refine zr_bipush (-2) dX12_hush_49 (by decide) ?_
          cases hf
          exact zr_iret dX12_hush_51
theorem dX12_crowd_0 : decode cX12_crowd 0 = .ok (.aload_n 0, 1) := by decide +kernel
theorem dX12_crowd_1 : decode cX12_crowd 1 = .ok (.iconst 0, 1) := by decide +kernel
theorem dX12_crowd_2 : decode cX12_crowd 2 = .ok (.putfield 93, 3) := by decide +kernel
theorem dX12_crowd_5 : decode cX12_crowd 5 = .ok (.aload_n 0, 1) := by decide +kernel
theorem dX12_crowd_6 : decode cX12_crowd 6 = .ok (.iload_n 1, 1) := by decide +kernel
theorem dX12_crowd_7 : decode cX12_crowd 7 = .ok (.invokevirtual 298, 3) := by decide +kernel
theorem dX12_crowd_10 : decode cX12_crowd 10 = .ok (.ifCond .eq 22, 3) := by decide +kernel
theorem dX12_crowd_13 : decode cX12_crowd 13 = .ok (.iload_n 2, 1) := by decide +kernel
theorem dX12_crowd_14 : decode cX12_crowd 14 = .ok (.iconst 0, 1) := by decide +kernel
theorem dX12_crowd_15 : decode cX12_crowd 15 = .ok (.iconst 2, 1) := by decide +kernel
theorem dX12_crowd_16 : decode cX12_crowd 16 = .ok (.invokestatic 101, 3) := by decide +kernel
theorem dX12_crowd_19 : decode cX12_crowd 19 = .ok (.ifCond .eq 13, 3) := by decide +kernel
theorem dX12_crowd_22 : decode cX12_crowd 22 = .ok (.iload_n 3, 1) := by decide +kernel
theorem dX12_crowd_23 : decode cX12_crowd 23 = .ok (.iconst 0, 1) := by decide +kernel
theorem dX12_crowd_24 : decode cX12_crowd 24 = .ok (.bipush 99, 2) := by decide +kernel
theorem dX12_crowd_26 : decode cX12_crowd 26 = .ok (.invokestatic 101, 3) := by decide +kernel
theorem dX12_crowd_29 : decode cX12_crowd 29 = .ok (.ifCond .ne 5, 3) := by decide +kernel
theorem dX12_crowd_32 : decode cX12_crowd 32 = .ok (.iconst (-1), 1) := by decide +kernel
theorem dX12_crowd_33 : decode cX12_crowd 33 = .ok (.ireturn, 1) := by decide +kernel
theorem dX12_crowd_34 : decode cX12_crowd 34 = .ok (.aload_n 0, 1) := by decide +kernel
theorem dX12_crowd_35 : decode cX12_crowd 35 = .ok (.iconst 1, 1) := by decide +kernel
theorem dX12_crowd_36 : decode cX12_crowd 36 = .ok (.iload_n 3, 1) := by decide +kernel
theorem dX12_crowd_37 : decode cX12_crowd 37 = .ok (.invokevirtual 288, 3) := by decide +kernel
theorem dX12_crowd_40 : decode cX12_crowd 40 = .ok (.ifCond .eq 7, 3) := by decide +kernel
theorem dX12_crowd_43 : decode cX12_crowd 43 = .ok (.iconst 1, 1) := by decide +kernel
theorem dX12_crowd_44 : decode cX12_crowd 44 = .ok (.goto 4, 3) := by decide +kernel
theorem dX12_crowd_47 : decode cX12_crowd 47 = .ok (.iconst 2, 1) := by decide +kernel
theorem dX12_crowd_48 : decode cX12_crowd 48 = .ok (.istore 5, 2) := by decide +kernel
theorem dX12_crowd_50 : decode cX12_crowd 50 = .ok (.iconst 0, 1) := by decide +kernel
theorem dX12_crowd_51 : decode cX12_crowd 51 = .ok (.istore 6, 2) := by decide +kernel
theorem dX12_crowd_53 : decode cX12_crowd 53 = .ok (.iconst (-1), 1) := by decide +kernel
theorem dX12_crowd_54 : decode cX12_crowd 54 = .ok (.istore 7, 2) := by decide +kernel
theorem dX12_crowd_56 : decode cX12_crowd 56 = .ok (.iconst 0, 1) := by decide +kernel
theorem dX12_crowd_57 : decode cX12_crowd 57 = .ok (.istore 8, 2) := by decide +kernel
theorem dX12_crowd_59 : decode cX12_crowd 59 = .ok (.iload 8, 2) := by decide +kernel
theorem dX12_crowd_61 : decode cX12_crowd 61 = .ok (.aload_n 0, 1) := by decide +kernel
theorem dX12_crowd_62 : decode cX12_crowd 62 = .ok (.getfield 273, 3) := by decide +kernel
theorem dX12_crowd_65 : decode cX12_crowd 65 = .ok (.if_icmp .gt 87, 3) := by decide +kernel
theorem dX12_crowd_68 : decode cX12_crowd 68 = .ok (.iconst 0, 1) := by decide +kernel
theorem dX12_crowd_69 : decode cX12_crowd 69 = .ok (.istore 9, 2) := by decide +kernel
theorem dX12_crowd_71 : decode cX12_crowd 71 = .ok (.iconst 0, 1) := by decide +kernel
theorem dX12_crowd_72 : decode cX12_crowd 72 = .ok (.istore 10, 2) := by decide +kernel
theorem dX12_crowd_74 : decode cX12_crowd 74 = .ok (.iload 10, 2) := by decide +kernel
theorem dX12_crowd_76 : decode cX12_crowd 76 = .ok (.aload_n 0, 1) := by decide +kernel
theorem dX12_crowd_77 : decode cX12_crowd 77 = .ok (.getfield 276, 3) := by decide +kernel
theorem dX12_crowd_80 : decode cX12_crowd 80 = .ok (.if_icmp .ge 41, 3) := by decide +kernel
theorem dX12_crowd_83 : decode cX12_crowd 83 = .ok (.iload 9, 2) := by decide +kernel
theorem dX12_crowd_85 : decode cX12_crowd 85 = .ok (.aload_n 0, 1) := by decide +kernel
theorem dX12_crowd_86 : decode cX12_crowd 86 = .ok (.iload 8, 2) := by decide +kernel
theorem dX12_crowd_88 : decode cX12_crowd 88 = .ok (.iload_n 2, 1) := by decide +kernel
theorem dX12_crowd_89 : decode cX12_crowd 89 = .ok (.iload_n 3, 1) := by decide +kernel
theorem dX12_crowd_90 : decode cX12_crowd 90 = .ok (.aload_n 0, 1) := by decide +kernel
theorem dX12_crowd_91 : decode cX12_crowd 91 = .ok (.bipush 33, 2) := by decide +kernel
theorem dX12_crowd_93 : decode cX12_crowd 93 = .ok (.iload 10, 2) := by decide +kernel
theorem dX12_crowd_95 : decode cX12_crowd 95 = .ok (.iadd, 1) := by decide +kernel
theorem dX12_crowd_96 : decode cX12_crowd 96 = .ok (.invokevirtual 269, 3) := by decide +kernel
theorem dX12_crowd_99 : decode cX12_crowd 99 = .ok (.iload 5, 2) := by decide +kernel
theorem dX12_crowd_101 : decode cX12_crowd 101 = .ok (.invokevirtual 383, 3) := by decide +kernel
theorem dX12_crowd_104 : decode cX12_crowd 104 = .ok (.ifCond .eq 7, 3) := by decide +kernel
theorem dX12_crowd_107 : decode cX12_crowd 107 = .ok (.iconst 1, 1) := by decide +kernel
theorem dX12_crowd_108 : decode cX12_crowd 108 = .ok (.goto 4, 3) := by decide +kernel
theorem dX12_crowd_111 : decode cX12_crowd 111 = .ok (.iconst 0, 1) := by decide +kernel
theorem dX12_crowd_112 : decode cX12_crowd 112 = .ok (.iadd, 1) := by decide +kernel
theorem dX12_crowd_113 : decode cX12_crowd 113 = .ok (.istore 9, 2) := by decide +kernel
theorem dX12_crowd_115 : decode cX12_crowd 115 = .ok (.iinc 10 1, 3) := by decide +kernel
theorem dX12_crowd_118 : decode cX12_crowd 118 = .ok (.goto (-44), 3) := by decide +kernel
theorem dX12_crowd_121 : decode cX12_crowd 121 = .ok (.iload 9, 2) := by decide +kernel
theorem dX12_crowd_123 : decode cX12_crowd 123 = .ok (.iload 7, 2) := by decide +kernel
theorem dX12_crowd_125 : decode cX12_crowd 125 = .ok (.if_icmp .le 8, 3) := by decide +kernel
theorem dX12_crowd_128 : decode cX12_crowd 128 = .ok (.iload 8, 2) := by decide +kernel
theorem dX12_crowd_130 : decode cX12_crowd 130 = .ok (.goto 5, 3) := by decide +kernel
theorem dX12_crowd_133 : decode cX12_crowd 133 = .ok (.iload 6, 2) := by decide +kernel
theorem dX12_crowd_135 : decode cX12_crowd 135 = .ok (.istore 6, 2) := by decide +kernel
theorem dX12_crowd_137 : decode cX12_crowd 137 = .ok (.iload 7, 2) := by decide +kernel
theorem dX12_crowd_139 : decode cX12_crowd 139 = .ok (.iload 9, 2) := by decide +kernel
theorem dX12_crowd_141 : decode cX12_crowd 141 = .ok (.invokestatic 168, 3) := by decide +kernel
theorem dX12_crowd_144 : decode cX12_crowd 144 = .ok (.istore 7, 2) := by decide +kernel
theorem dX12_crowd_146 : decode cX12_crowd 146 = .ok (.iinc 8 1, 3) := by decide +kernel
theorem dX12_crowd_149 : decode cX12_crowd 149 = .ok (.goto (-90), 3) := by decide +kernel
theorem dX12_crowd_152 : decode cX12_crowd 152 = .ok (.iload 4, 2) := by decide +kernel
theorem dX12_crowd_154 : decode cX12_crowd 154 = .ok (.ifCond .eq 8, 3) := by decide +kernel
theorem dX12_crowd_157 : decode cX12_crowd 157 = .ok (.iload 7, 2) := by decide +kernel
theorem dX12_crowd_159 : decode cX12_crowd 159 = .ok (.goto 5, 3) := by decide +kernel
theorem dX12_crowd_162 : decode cX12_crowd 162 = .ok (.iload 6, 2) := by decide +kernel
theorem dX12_crowd_164 : decode cX12_crowd 164 = .ok (.ireturn, 1) := by decide +kernel
noncomputable def fX12_crowd_l74 (m4 : zM) (x0 : Nat) (x8_16 : Int32) (x2 : Int32) (x3 : Int32) (s12 : Int32) (F26 : Int32 → Int32 → Option (Int32)) (x9_24 : Int32) (x10_25 : Int32) : Option (Int32) :=
  zb1 (zm_gI m4 12 x0 25) fun v30 =>
  if v30 ≤ x10_25 then (
  some x9_24)
  else (
  zb1 (fX12_of m4 x0 (33 + x10_25)) fun v33 =>
  zb1 (fX12_reaches m4 x0 x8_16 x2 x3 v33 s12) fun v35 =>
  zb1 (if v35 = 0 then (
  some 0)
  else (
  some 1) : Option (Int32)) fun (s36 : Int32) =>
  F26 (x9_24 + s36) (x10_25 + 1))
noncomputable def fX12_crowd_l59 (m4 : zM) (x0 : Nat) (x2 : Int32) (x3 : Int32) (s12 : Int32) (F17 : Int32 → Int32 → Int32 → Option (Int32 × Int32)) (x6_14 : Int32) (x7_15 : Int32) (x8_16 : Int32) : Option (Int32 × Int32) :=
  zb1 (zm_gI m4 12 x0 24) fun v22 =>
  if v22 < x8_16 then (
  some (x6_14, x7_15))
  else (
  zb1 (zf2 (fX12_crowd_l74 m4 x0 x8_16 x2 x3 s12) zfu 0 0 : Option (Int32)) fun (x9_28 : Int32) =>
  zb1 (if x9_28 ≤ x7_15 then (
  some x6_14)
  else (
  some x8_16) : Option (Int32)) fun (s39 : Int32) =>
  zb1 (fX12_greater m4 x7_15 x9_28) fun v42 =>
  F17 s39 v42 (x8_16 + 1))
noncomputable def fX12_crowd (μ : zM) (x0 : Nat) (x1 : Int32) (x2 : Int32) (x3 : Int32) (x4 : Int32) : Option (Int32 × zM) := zgd (zm_ck μ 12 x0) <|
  zb1 (zm_p μ 12 x0 0 (.int 0)) fun m1 =>
  zb2 (fX12_hand m1 x0 x1) fun v5 m4 =>
  if v5 = 0 then (
  some ((-1), m4))
  else (
  zb1 (fX12_in m4 x2 0 2) fun v7 =>
  if v7 = 0 then (
  some ((-1), m4))
  else (
  zb1 (fX12_in m4 x3 0 99) fun v9 =>
  if v9 = 0 then (
  some ((-1), m4))
  else (
  zb1 (fX12_judges m4 x0 1 x3) fun v11 =>
  zb1 (if v11 = 0 then (
  some 2)
  else (
  some 1) : Option (Int32)) fun (s12 : Int32) =>
  zb2 (zf3 (fX12_crowd_l59 m4 x0 x2 x3 s12) zfu 0 (-1) 0 : Option (Int32 × Int32)) fun (x6_19 : Int32) (x7_20 : Int32) =>
  zb1 (if x4 = 0 then (
  some x6_19)
  else (
  some x7_20) : Option (Int32)) fun (s44 : Int32) =>
  some (s44, m4))))
theorem fX12_crowd_ck {μ : zM} {x0 : Nat} {x1 : Int32} {x2 : Int32} {x3 : Int32} {x4 : Int32} {z : Int32 × zM} (h : fX12_crowd μ x0 x1 x2 x3 x4 = some z) : zm_ck μ 12 x0 = true := (zgd_s h).1
set_option maxHeartbeats 4000000 in
set_option maxRecDepth 100000 in
theorem cX12_crowd_ok {μ : zM} {x0 : Nat} {x1 : Int32} {x2 : Int32} {x3 : Int32} {x4 : Int32} {r : Int32} {mo : zM} (hf : fX12_crowd μ x0 x1 x2 x3 x4 = some (r, mo)) : zC yX12_crowd cX12_crowd 11 (some .int) 4 0 0 [.ref x0, .int x1, .int x2, .int x3, .int x4] μ (some (.int r)) mo := by
  replace hf := (zgd_s hf).2
  refine zC.of (by decide) (Nat.le_of_ble_eq_true rfl) (fun K hin => ?_)
  clear hin
  show zz K cX12_crowd (11, RX12, some .int, 4, 0, 0, some (.int r), mo) 0 0 0 [(0, .ref x0), (1, .int x1), (2, .int x2), (3, .int x3), (4, .int x4)] [] μ
  refine zr_aload_n 0 dX12_crowd_0 rfl ?_
  refine zr_iconst 0 dX12_crowd_1 (by decide) ?_
  replace hf := zb1_s hf
  obtain ⟨m1, h2, hf⟩ := hf
  refine zr_put h2 zk12 (by decide) zl_899 rfl rfl rfl dX12_crowd_2 ?_
  refine zr_aload_n 0 dX12_crowd_5 rfl ?_
  refine zr_iload_n 1 dX12_crowd_6 rfl ?_
  replace hf := zb2_s hf
  obtain ⟨v5, m4, h3, hf⟩ := hf
  refine zr_callV (ci := 12) [.int x1] (cX12_hand_ok h3) zvs_X12_hand zl_1057 zl_1058 (fX12_hand_ck h3) rfl rfl zl_1056 rfl (Nat.le_of_ble_eq_true rfl) (Nat.le_of_ble_eq_true rfl) (Nat.le_of_ble_eq_true rfl) (Nat.le_of_ble_eq_true rfl) dX12_crowd_7 rfl ?_
  refine zr_if_eq 32 dX12_crowd_10 (by decide) (fun hc => ?_) (fun hc => ?_)
  · rw [if_pos hc] at hf
    refine zr_iconst (-1) dX12_crowd_32 (by decide) ?_
    cases hf
    exact zr_iret dX12_crowd_33
  · rw [if_neg hc] at hf
    refine zr_iload_n 2 dX12_crowd_13 rfl ?_
    refine zr_iconst 0 dX12_crowd_14 (by decide) ?_
    refine zr_iconst 2 dX12_crowd_15 (by decide) ?_
    replace hf := zb1_s hf
    obtain ⟨v7, h6, hf⟩ := hf
    refine zr_callS [.int x2, .int 0, .int 2] (cX12_in_ok h6) zvs_X12_in zl_898 zl_897 rfl (Nat.le_of_ble_eq_true rfl) (Nat.le_of_ble_eq_true rfl) (Nat.le_of_ble_eq_true rfl) (Nat.le_of_ble_eq_true rfl) dX12_crowd_16 rfl ?_
    refine zr_if_eq 32 dX12_crowd_19 (by decide) (fun hc => ?_) (fun hc => ?_)
    · rw [if_pos hc] at hf
      refine zr_iconst (-1) dX12_crowd_32 (by decide) ?_
      cases hf
      exact zr_iret dX12_crowd_33
    · rw [if_neg hc] at hf
      refine zr_iload_n 3 dX12_crowd_22 rfl ?_
      refine zr_iconst 0 dX12_crowd_23 (by decide) ?_
      refine zr_bipush 99 dX12_crowd_24 (by decide) ?_
      replace hf := zb1_s hf
      obtain ⟨v9, h8, hf⟩ := hf
      refine zr_callS [.int x3, .int 0, .int 99] (cX12_in_ok h8) zvs_X12_in zl_898 zl_897 rfl (Nat.le_of_ble_eq_true rfl) (Nat.le_of_ble_eq_true rfl) (Nat.le_of_ble_eq_true rfl) (Nat.le_of_ble_eq_true rfl) dX12_crowd_26 rfl ?_
      refine zr_if_ne 34 dX12_crowd_29 (by decide) (fun hc => ?_) (fun hc => ?_)
      · rw [if_neg hc] at hf
        refine zr_aload_n 0 dX12_crowd_34 rfl ?_
        refine zr_iconst 1 dX12_crowd_35 (by decide) ?_
        refine zr_iload_n 3 dX12_crowd_36 rfl ?_
        replace hf := zb1_s hf
        obtain ⟨v11, h10, hf⟩ := hf
        refine zr_callV (ci := 12) [.int 1, .int x3] (cX12_judges_ok h10) zvs_X12_judges zl_1046 zl_1047 (fX12_judges_ck h10) rfl rfl zl_1045 rfl (Nat.le_of_ble_eq_true rfl) (Nat.le_of_ble_eq_true rfl) (Nat.le_of_ble_eq_true rfl) (Nat.le_of_ble_eq_true rfl) dX12_crowd_37 rfl ?_
        replace hf := zb1_s hf
        obtain ⟨s12, hg, hf⟩ := hf
        have hj13 : zz K cX12_crowd (11, RX12, some .int, 4, 0, 0, some (.int r), mo) 0 0 48 [(0, .ref x0), (2, .int x2), (3, .int x3), (4, .int x4)] [.int s12] m4 := by
          refine zr_istore [(5, .int s12), (0, .ref x0), (2, .int x2), (3, .int x3), (4, .int x4)] dX12_crowd_48 (Nat.le_of_ble_eq_true rfl) rfl ?_
          refine zr_iconst 0 dX12_crowd_50 (by decide) ?_
          refine zr_istore [(6, .int 0), (5, .int s12), (0, .ref x0), (2, .int x2), (3, .int x3), (4, .int x4)] dX12_crowd_51 (Nat.le_of_ble_eq_true rfl) rfl ?_
          refine zr_iconst (-1) dX12_crowd_53 (by decide) ?_
          refine zr_istore [(7, .int (-1)), (6, .int 0), (5, .int s12), (0, .ref x0), (2, .int x2), (3, .int x3), (4, .int x4)] dX12_crowd_54 (Nat.le_of_ble_eq_true rfl) rfl ?_
          refine zr_iconst 0 dX12_crowd_56 (by decide) ?_
          refine zr_istore [(8, .int 0), (7, .int (-1)), (6, .int 0), (5, .int s12), (0, .ref x0), (2, .int x2), (3, .int x3), (4, .int x4)] dX12_crowd_57 (Nat.le_of_ble_eq_true rfl) rfl ?_
          replace hf := zb2_s hf
          obtain ⟨x6_19, x7_20, hg, hf⟩ := hf
          have hj21 : zz K cX12_crowd (11, RX12, some .int, 4, 0, 0, some (.int r), mo) 0 0 152 [(4, .int x4), (6, .int x6_19), (7, .int x7_20)] [] m4 := by
            refine zr_iload 0 dX12_crowd_152 rfl ?_
            replace hf := zb1_s hf
            obtain ⟨s44, hg, hf⟩ := hf
            have hj45 : zz K cX12_crowd (11, RX12, some .int, 4, 0, 0, some (.int r), mo) 0 0 164 [] [.int s44] m4 := by
              cases hf
              exact zr_iret dX12_crowd_164
            clear hf
            have hf := hg
            clear hg
            refine zr_if_eq 162 dX12_crowd_154 (by decide) (fun hc => ?_) (fun hc => ?_)
            · rw [if_pos hc] at hf
              refine zr_iload 1 dX12_crowd_162 rfl ?_
              cases hf
              exact zr_lv [] rfl hj45
            · rw [if_neg hc] at hf
              refine zr_iload 2 dX12_crowd_157 rfl ?_
              refine zr_goto 164 dX12_crowd_159 (by decide) ?_
              cases hf
              exact zr_lv [] rfl hj45
          clear hf
          have hf := hg
          clear hg
          have hL43 : ∀ (n : Nat) (x6_14 : Int32) (x7_15 : Int32) (x8_16 : Int32), zf3 (fX12_crowd_l59 m4 x0 x2 x3 s12) n x6_14 x7_15 x8_16 = some (x6_19, x7_20) → zz K cX12_crowd (11, RX12, some .int, 4, 0, 0, some (.int r), mo) 0 0 59 [(0, .ref x0), (2, .int x2), (3, .int x3), (4, .int x4), (5, .int s12), (6, .int x6_14), (7, .int x7_15), (8, .int x8_16)] [] m4 := by
            intro n
            induction n with
            | zero => intro x6_14 x7_15 x8_16 hf; cases hf
            | succ n ih18 =>
              intro x6_14 x7_15 x8_16 hf
              replace hf := zf3_s hf
              generalize zf3 (fX12_crowd_l59 m4 x0 x2 x3 s12) n = F17 at hf ih18
              unfold fX12_crowd_l59 at hf
              refine zr_iload 7 dX12_crowd_59 rfl ?_
              refine zr_aload_n 0 dX12_crowd_61 rfl ?_
              replace hf := zb1_s hf
              obtain ⟨v22, h23, hf⟩ := hf
              refine zr_get (zm_gI_g h23) zk12 (by decide) zl_1031 dX12_crowd_62 ?_
              refine zr_icmp_gt 152 dX12_crowd_65 (by decide) (fun hc => ?_) (fun hc => ?_)
              · rw [if_pos hc] at hf
                cases hf
                exact zr_lv [3, 5, 6] rfl hj21
              · rw [if_neg hc] at hf
                refine zr_iconst 0 dX12_crowd_68 (by decide) ?_
                refine zr_istore [(9, .int 0), (0, .ref x0), (2, .int x2), (3, .int x3), (4, .int x4), (5, .int s12), (6, .int x6_14), (7, .int x7_15), (8, .int x8_16)] dX12_crowd_69 (Nat.le_of_ble_eq_true rfl) rfl ?_
                refine zr_iconst 0 dX12_crowd_71 (by decide) ?_
                refine zr_istore [(10, .int 0), (9, .int 0), (0, .ref x0), (2, .int x2), (3, .int x3), (4, .int x4), (5, .int s12), (6, .int x6_14), (7, .int x7_15), (8, .int x8_16)] dX12_crowd_72 (Nat.le_of_ble_eq_true rfl) rfl ?_
                replace hf := zb1_s hf
                obtain ⟨x9_28, hg, hf⟩ := hf
                have hj29 : zz K cX12_crowd (11, RX12, some .int, 4, 0, 0, some (.int r), mo) 0 0 121 [(0, .ref x0), (2, .int x2), (3, .int x3), (4, .int x4), (5, .int s12), (6, .int x6_14), (7, .int x7_15), (8, .int x8_16), (9, .int x9_28)] [] m4 := by
                  refine zr_iload 8 dX12_crowd_121 rfl ?_
                  refine zr_iload 6 dX12_crowd_123 rfl ?_
                  replace hf := zb1_s hf
                  obtain ⟨s39, hg, hf⟩ := hf
                  have hj40 : zz K cX12_crowd (11, RX12, some .int, 4, 0, 0, some (.int r), mo) 0 0 135 [(0, .ref x0), (2, .int x2), (3, .int x3), (4, .int x4), (5, .int s12), (7, .int x7_15), (8, .int x8_16), (9, .int x9_28)] [.int s39] m4 := by
                    refine zr_istore [(6, .int s39), (0, .ref x0), (2, .int x2), (3, .int x3), (4, .int x4), (5, .int s12), (7, .int x7_15), (8, .int x8_16), (9, .int x9_28)] dX12_crowd_135 (Nat.le_of_ble_eq_true rfl) rfl ?_
                    refine zr_iload 6 dX12_crowd_137 rfl ?_
                    refine zr_iload 8 dX12_crowd_139 rfl ?_
                    replace hf := zb1_s hf
                    obtain ⟨v42, h41, hf⟩ := hf
                    refine zr_callS [.int x7_15, .int x9_28] (cX12_greater_ok h41) zvs_X12_greater zl_940 zl_939 rfl (Nat.le_of_ble_eq_true rfl) (Nat.le_of_ble_eq_true rfl) (Nat.le_of_ble_eq_true rfl) (Nat.le_of_ble_eq_true rfl) dX12_crowd_141 rfl ?_
                    refine zr_istore [(7, .int v42), (6, .int s39), (0, .ref x0), (2, .int x2), (3, .int x3), (4, .int x4), (5, .int s12), (8, .int x8_16), (9, .int x9_28)] dX12_crowd_144 (Nat.le_of_ble_eq_true rfl) rfl ?_
                    refine zr_iinc (j := 7) (x8_16 + 1) [(8, .int (x8_16 + 1)), (7, .int v42), (6, .int s39), (0, .ref x0), (2, .int x2), (3, .int x3), (4, .int x4), (5, .int s12), (9, .int x9_28)] dX12_crowd_146 rfl rfl (Nat.le_of_ble_eq_true rfl) rfl ?_
                    refine zr_goto 59 dX12_crowd_149 (by decide) ?_
                    exact zr_lv [3, 4, 5, 6, 7, 2, 1, 0] rfl (ih18 s39 v42 (x8_16 + 1) hf)
                  clear hf
                  have hf := hg
                  clear hg
                  refine zr_icmp_le 133 dX12_crowd_125 (by decide) (fun hc => ?_) (fun hc => ?_)
                  · rw [if_pos hc] at hf
                    refine zr_iload 5 dX12_crowd_133 rfl ?_
                    cases hf
                    exact zr_lv [0, 1, 2, 3, 4, 6, 7, 8] rfl hj40
                  · rw [if_neg hc] at hf
                    refine zr_iload 7 dX12_crowd_128 rfl ?_
                    refine zr_goto 135 dX12_crowd_130 (by decide) ?_
                    cases hf
                    exact zr_lv [0, 1, 2, 3, 4, 6, 7, 8] rfl hj40
                clear hf
                have hf := hg
                clear hg
                have hL38 : ∀ (n : Nat) (x9_24 : Int32) (x10_25 : Int32), zf2 (fX12_crowd_l74 m4 x0 x8_16 x2 x3 s12) n x9_24 x10_25 = some x9_28 → zz K cX12_crowd (11, RX12, some .int, 4, 0, 0, some (.int r), mo) 0 0 74 [(0, .ref x0), (2, .int x2), (3, .int x3), (4, .int x4), (5, .int s12), (6, .int x6_14), (7, .int x7_15), (8, .int x8_16), (9, .int x9_24), (10, .int x10_25)] [] m4 := by
                  intro n
                  induction n with
                  | zero => intro x9_24 x10_25 hf; cases hf
                  | succ n ih27 =>
                    intro x9_24 x10_25 hf
                    replace hf := zf2_s hf
                    generalize zf2 (fX12_crowd_l74 m4 x0 x8_16 x2 x3 s12) n = F26 at hf ih27
                    unfold fX12_crowd_l74 at hf
                    refine zr_iload 9 dX12_crowd_74 rfl ?_
                    refine zr_aload_n 0 dX12_crowd_76 rfl ?_
                    replace hf := zb1_s hf
                    obtain ⟨v30, h31, hf⟩ := hf
                    refine zr_get (zm_gI_g h31) zk12 (by decide) zl_1032 dX12_crowd_77 ?_
                    refine zr_icmp_ge 121 dX12_crowd_80 (by decide) (fun hc => ?_) (fun hc => ?_)
                    · rw [if_pos hc] at hf
                      cases hf
                      exact zr_lv [0, 1, 2, 3, 4, 5, 6, 7, 8] rfl hj29
                    · rw [if_neg hc] at hf
                      refine zr_iload 8 dX12_crowd_83 rfl ?_
                      refine zr_aload_n 0 dX12_crowd_85 rfl ?_
                      refine zr_iload 7 dX12_crowd_86 rfl ?_
                      refine zr_iload_n 1 dX12_crowd_88 rfl ?_
                      refine zr_iload_n 2 dX12_crowd_89 rfl ?_
                      refine zr_aload_n 0 dX12_crowd_90 rfl ?_
                      refine zr_bipush 33 dX12_crowd_91 (by decide) ?_
                      refine zr_iload 9 dX12_crowd_93 rfl ?_
                      refine zr_iadd dX12_crowd_95 ?_
                      replace hf := zb1_s hf
                      obtain ⟨v33, h32, hf⟩ := hf
                      refine zr_callV (ci := 12) [.int (33 + x10_25)] (cX12_of_ok h32) zvs_X12_of zl_1029 zl_1030 (fX12_of_ck h32) rfl rfl zl_1028 rfl (Nat.le_of_ble_eq_true rfl) (Nat.le_of_ble_eq_true rfl) (Nat.le_of_ble_eq_true rfl) (Nat.le_of_ble_eq_true rfl) dX12_crowd_96 rfl ?_
                      refine zr_iload 4 dX12_crowd_99 rfl ?_
                      replace hf := zb1_s hf
                      obtain ⟨v35, h34, hf⟩ := hf
                      refine zr_callV (ci := 12) [.int x8_16, .int x2, .int x3, .int v33, .int s12] (cX12_reaches_ok h34) zvs_X12_reaches zl_1149 zl_1150 (fX12_reaches_ck h34) rfl rfl zl_1148 rfl (Nat.le_of_ble_eq_true rfl) (Nat.le_of_ble_eq_true rfl) (Nat.le_of_ble_eq_true rfl) (Nat.le_of_ble_eq_true rfl) dX12_crowd_101 rfl ?_
                      replace hf := zb1_s hf
                      obtain ⟨s36, hg, hf⟩ := hf
                      have hj37 : zz K cX12_crowd (11, RX12, some .int, 4, 0, 0, some (.int r), mo) 0 0 112 [(0, .ref x0), (2, .int x2), (3, .int x3), (4, .int x4), (5, .int s12), (6, .int x6_14), (7, .int x7_15), (8, .int x8_16), (10, .int x10_25)] [.int s36, .int x9_24] m4 := by
                        refine zr_iadd dX12_crowd_112 ?_
                        refine zr_istore [(9, .int (x9_24 + s36)), (0, .ref x0), (2, .int x2), (3, .int x3), (4, .int x4), (5, .int s12), (6, .int x6_14), (7, .int x7_15), (8, .int x8_16), (10, .int x10_25)] dX12_crowd_113 (Nat.le_of_ble_eq_true rfl) rfl ?_
                        refine zr_iinc (j := 9) (x10_25 + 1) [(10, .int (x10_25 + 1)), (9, .int (x9_24 + s36)), (0, .ref x0), (2, .int x2), (3, .int x3), (4, .int x4), (5, .int s12), (6, .int x6_14), (7, .int x7_15), (8, .int x8_16)] dX12_crowd_115 rfl rfl (Nat.le_of_ble_eq_true rfl) rfl ?_
                        refine zr_goto 74 dX12_crowd_118 (by decide) ?_
                        exact zr_lv [2, 3, 4, 5, 6, 7, 8, 9, 1, 0] rfl (ih27 (x9_24 + s36) (x10_25 + 1) hf)
                      clear hf
                      have hf := hg
                      clear hg
                      refine zr_if_eq 111 dX12_crowd_104 (by decide) (fun hc => ?_) (fun hc => ?_)
                      · rw [if_pos hc] at hf
                        refine zr_iconst 0 dX12_crowd_111 (by decide) ?_
                        cases hf
                        exact zr_lv [0, 1, 2, 3, 4, 5, 6, 7, 9] rfl hj37
                      · rw [if_neg hc] at hf
                        refine zr_iconst 1 dX12_crowd_107 (by decide) ?_
                        refine zr_goto 112 dX12_crowd_108 (by decide) ?_
                        cases hf
                        exact zr_lv [0, 1, 2, 3, 4, 5, 6, 7, 9] rfl hj37
                exact zr_lv [2, 3, 4, 5, 6, 7, 8, 9, 1, 0] rfl (hL38 _ 0 0 hf)
          exact zr_lv [4, 5, 6, 7, 3, 2, 1, 0] rfl (hL43 _ 0 (-1) 0 hf)
        clear hf
        have hf := hg
        clear hg
        refine zr_if_eq 47 dX12_crowd_40 (by decide) (fun hc => ?_) (fun hc => ?_)
        · rw [if_pos hc] at hf
          refine zr_iconst 2 dX12_crowd_47 (by decide) ?_
          cases hf
          exact zr_lv [0, 2, 3, 4] rfl hj13
        · rw [if_neg hc] at hf
          refine zr_iconst 1 dX12_crowd_43 (by decide) ?_
          refine zr_goto 48 dX12_crowd_44 (by decide) ?_
          cases hf
          exact zr_lv [0, 2, 3, 4] rfl hj13
      · rw [if_pos hc] at hf
        refine zr_iconst (-1) dX12_crowd_32 (by decide) ?_
        cases hf
        exact zr_iret dX12_crowd_33
theorem dX12_chain_0 : decode cX12_chain 0 = .ok (.aload_n 0, 1) := by decide +kernel
theorem dX12_chain_1 : decode cX12_chain 1 = .ok (.iconst 0, 1) := by decide +kernel
theorem dX12_chain_2 : decode cX12_chain 2 = .ok (.putfield 93, 3) := by decide +kernel
theorem dX12_chain_5 : decode cX12_chain 5 = .ok (.aload_n 0, 1) := by decide +kernel
theorem dX12_chain_6 : decode cX12_chain 6 = .ok (.iload_n 1, 1) := by decide +kernel
theorem dX12_chain_7 : decode cX12_chain 7 = .ok (.invokevirtual 298, 3) := by decide +kernel
theorem dX12_chain_10 : decode cX12_chain 10 = .ok (.ifCond .eq 17, 3) := by decide +kernel
theorem dX12_chain_13 : decode cX12_chain 13 = .ok (.iload_n 2, 1) := by decide +kernel
theorem dX12_chain_14 : decode cX12_chain 14 = .ok (.invokestatic 307, 3) := by decide +kernel
theorem dX12_chain_17 : decode cX12_chain 17 = .ok (.ifCond .eq 10, 3) := by decide +kernel
theorem dX12_chain_20 : decode cX12_chain 20 = .ok (.iload_n 3, 1) := by decide +kernel
theorem dX12_chain_21 : decode cX12_chain 21 = .ok (.invokestatic 307, 3) := by decide +kernel
theorem dX12_chain_24 : decode cX12_chain 24 = .ok (.ifCond .ne 5, 3) := by decide +kernel
theorem dX12_chain_27 : decode cX12_chain 27 = .ok (.iconst (-1), 1) := by decide +kernel
theorem dX12_chain_28 : decode cX12_chain 28 = .ok (.ireturn, 1) := by decide +kernel
theorem dX12_chain_29 : decode cX12_chain 29 = .ok (.iload_n 2, 1) := by decide +kernel
theorem dX12_chain_30 : decode cX12_chain 30 = .ok (.istore 4, 2) := by decide +kernel
theorem dX12_chain_32 : decode cX12_chain 32 = .ok (.iconst 1, 1) := by decide +kernel
theorem dX12_chain_33 : decode cX12_chain 33 = .ok (.istore 5, 2) := by decide +kernel
theorem dX12_chain_35 : decode cX12_chain 35 = .ok (.iload 5, 2) := by decide +kernel
theorem dX12_chain_37 : decode cX12_chain 37 = .ok (.bipush 8, 2) := by decide +kernel
theorem dX12_chain_39 : decode cX12_chain 39 = .ok (.if_icmp .gt 28, 3) := by decide +kernel
theorem dX12_chain_42 : decode cX12_chain 42 = .ok (.aload_n 0, 1) := by decide +kernel
theorem dX12_chain_43 : decode cX12_chain 43 = .ok (.iconst 3, 1) := by decide +kernel
theorem dX12_chain_44 : decode cX12_chain 44 = .ok (.iload 4, 2) := by decide +kernel
theorem dX12_chain_46 : decode cX12_chain 46 = .ok (.iadd, 1) := by decide +kernel
theorem dX12_chain_47 : decode cX12_chain 47 = .ok (.invokevirtual 269, 3) := by decide +kernel
theorem dX12_chain_50 : decode cX12_chain 50 = .ok (.istore 4, 2) := by decide +kernel
theorem dX12_chain_52 : decode cX12_chain 52 = .ok (.iload 4, 2) := by decide +kernel
theorem dX12_chain_54 : decode cX12_chain 54 = .ok (.iload_n 3, 1) := by decide +kernel
theorem dX12_chain_55 : decode cX12_chain 55 = .ok (.if_icmp .ne 6, 3) := by decide +kernel
theorem dX12_chain_58 : decode cX12_chain 58 = .ok (.iload 5, 2) := by decide +kernel
theorem dX12_chain_60 : decode cX12_chain 60 = .ok (.ireturn, 1) := by decide +kernel
theorem dX12_chain_61 : decode cX12_chain 61 = .ok (.iinc 5 1, 3) := by decide +kernel
theorem dX12_chain_64 : decode cX12_chain 64 = .ok (.goto (-29), 3) := by decide +kernel
theorem dX12_chain_67 : decode cX12_chain 67 = .ok (.iconst (-1), 1) := by decide +kernel
theorem dX12_chain_68 : decode cX12_chain 68 = .ok (.ireturn, 1) := by decide +kernel
noncomputable def fX12_chain_l35 (m4 : zM) (x0 : Nat) (x3 : Int32) (F12 : Int32 → Int32 → Option (Int32 × zM)) (x4_10 : Int32) (x5_11 : Int32) : Option (Int32 × zM) :=
  if 8 < x5_11 then (
  some ((-1), m4))
  else (
  zb1 (fX12_of m4 x0 (3 + x4_10)) fun v15 =>
  if v15 = x3 then (
  some (x5_11, m4))
  else (
  F12 v15 (x5_11 + 1)))
noncomputable def fX12_chain (μ : zM) (x0 : Nat) (x1 : Int32) (x2 : Int32) (x3 : Int32) : Option (Int32 × zM) := zgd (zm_ck μ 12 x0) <|
  zb1 (zm_p μ 12 x0 0 (.int 0)) fun m1 =>
  zb2 (fX12_hand m1 x0 x1) fun v5 m4 =>
  if v5 = 0 then (
  some ((-1), m4))
  else (
  zb1 (fX12_isWord m4 x2) fun v7 =>
  if v7 = 0 then (
  some ((-1), m4))
  else (
  zb1 (fX12_isWord m4 x3) fun v9 =>
  if v9 = 0 then (
  some ((-1), m4))
  else (
  zf2 (fX12_chain_l35 m4 x0 x3) zfu x2 1)))
theorem fX12_chain_ck {μ : zM} {x0 : Nat} {x1 : Int32} {x2 : Int32} {x3 : Int32} {z : Int32 × zM} (h : fX12_chain μ x0 x1 x2 x3 = some z) : zm_ck μ 12 x0 = true := (zgd_s h).1
set_option maxHeartbeats 4000000 in
set_option maxRecDepth 100000 in
theorem cX12_chain_ok {μ : zM} {x0 : Nat} {x1 : Int32} {x2 : Int32} {x3 : Int32} {r : Int32} {mo : zM} (hf : fX12_chain μ x0 x1 x2 x3 = some (r, mo)) : zC yX12_chain cX12_chain 6 (some .int) 3 0 0 [.ref x0, .int x1, .int x2, .int x3] μ (some (.int r)) mo := by
  replace hf := (zgd_s hf).2
  refine zC.of (by decide) (Nat.le_of_ble_eq_true rfl) (fun K hin => ?_)
  clear hin
  show zz K cX12_chain (6, RX12, some .int, 3, 0, 0, some (.int r), mo) 0 0 0 [(0, .ref x0), (1, .int x1), (2, .int x2), (3, .int x3)] [] μ
  refine zr_aload_n 0 dX12_chain_0 rfl ?_
  refine zr_iconst 0 dX12_chain_1 (by decide) ?_
  replace hf := zb1_s hf
  obtain ⟨m1, h2, hf⟩ := hf
  refine zr_put h2 zk12 (by decide) zl_899 rfl rfl rfl dX12_chain_2 ?_
  refine zr_aload_n 0 dX12_chain_5 rfl ?_
  refine zr_iload_n 1 dX12_chain_6 rfl ?_
  replace hf := zb2_s hf
  obtain ⟨v5, m4, h3, hf⟩ := hf
  refine zr_callV (ci := 12) [.int x1] (cX12_hand_ok h3) zvs_X12_hand zl_1057 zl_1058 (fX12_hand_ck h3) rfl rfl zl_1056 rfl (Nat.le_of_ble_eq_true rfl) (Nat.le_of_ble_eq_true rfl) (Nat.le_of_ble_eq_true rfl) (Nat.le_of_ble_eq_true rfl) dX12_chain_7 rfl ?_
  refine zr_if_eq 27 dX12_chain_10 (by decide) (fun hc => ?_) (fun hc => ?_)
  · rw [if_pos hc] at hf
    refine zr_iconst (-1) dX12_chain_27 (by decide) ?_
    cases hf
    exact zr_iret dX12_chain_28
  · rw [if_neg hc] at hf
    refine zr_iload_n 2 dX12_chain_13 rfl ?_
    replace hf := zb1_s hf
    obtain ⟨v7, h6, hf⟩ := hf
    refine zr_callS [.int x2] (cX12_isWord_ok h6) zvs_X12_isWord zl_1069 zl_1068 rfl (Nat.le_of_ble_eq_true rfl) (Nat.le_of_ble_eq_true rfl) (Nat.le_of_ble_eq_true rfl) (Nat.le_of_ble_eq_true rfl) dX12_chain_14 rfl ?_
    refine zr_if_eq 27 dX12_chain_17 (by decide) (fun hc => ?_) (fun hc => ?_)
    · rw [if_pos hc] at hf
      refine zr_iconst (-1) dX12_chain_27 (by decide) ?_
      cases hf
      exact zr_iret dX12_chain_28
    · rw [if_neg hc] at hf
      refine zr_iload_n 3 dX12_chain_20 rfl ?_
      replace hf := zb1_s hf
      obtain ⟨v9, h8, hf⟩ := hf
      refine zr_callS [.int x3] (cX12_isWord_ok h8) zvs_X12_isWord zl_1069 zl_1068 rfl (Nat.le_of_ble_eq_true rfl) (Nat.le_of_ble_eq_true rfl) (Nat.le_of_ble_eq_true rfl) (Nat.le_of_ble_eq_true rfl) dX12_chain_21 rfl ?_
      refine zr_if_ne 29 dX12_chain_24 (by decide) (fun hc => ?_) (fun hc => ?_)
      · rw [if_neg hc] at hf
        refine zr_iload_n 2 dX12_chain_29 rfl ?_
        refine zr_istore [(4, .int x2), (0, .ref x0), (1, .int x1), (2, .int x2), (3, .int x3)] dX12_chain_30 (Nat.le_of_ble_eq_true rfl) rfl ?_
        refine zr_iconst 1 dX12_chain_32 (by decide) ?_
        refine zr_istore [(5, .int 1), (4, .int x2), (0, .ref x0), (1, .int x1), (2, .int x2), (3, .int x3)] dX12_chain_33 (Nat.le_of_ble_eq_true rfl) rfl ?_
        have hL16 : ∀ (n : Nat) (x4_10 : Int32) (x5_11 : Int32), zf2 (fX12_chain_l35 m4 x0 x3) n x4_10 x5_11 = some (r, mo) → zz K cX12_chain (6, RX12, some .int, 3, 0, 0, some (.int r), mo) 0 0 35 [(0, .ref x0), (3, .int x3), (4, .int x4_10), (5, .int x5_11)] [] m4 := by
          intro n
          induction n with
          | zero => intro x4_10 x5_11 hf; cases hf
          | succ n ih13 =>
            intro x4_10 x5_11 hf
            replace hf := zf2_s hf
            generalize zf2 (fX12_chain_l35 m4 x0 x3) n = F12 at hf ih13
            unfold fX12_chain_l35 at hf
            refine zr_iload 3 dX12_chain_35 rfl ?_
            refine zr_bipush 8 dX12_chain_37 (by decide) ?_
            refine zr_icmp_gt 67 dX12_chain_39 (by decide) (fun hc => ?_) (fun hc => ?_)
            · rw [if_pos hc] at hf
              refine zr_iconst (-1) dX12_chain_67 (by decide) ?_
              cases hf
              exact zr_iret dX12_chain_68
            · rw [if_neg hc] at hf
              refine zr_aload_n 0 dX12_chain_42 rfl ?_
              refine zr_iconst 3 dX12_chain_43 (by decide) ?_
              refine zr_iload 2 dX12_chain_44 rfl ?_
              refine zr_iadd dX12_chain_46 ?_
              replace hf := zb1_s hf
              obtain ⟨v15, h14, hf⟩ := hf
              refine zr_callV (ci := 12) [.int (3 + x4_10)] (cX12_of_ok h14) zvs_X12_of zl_1029 zl_1030 (fX12_of_ck h14) rfl rfl zl_1028 rfl (Nat.le_of_ble_eq_true rfl) (Nat.le_of_ble_eq_true rfl) (Nat.le_of_ble_eq_true rfl) (Nat.le_of_ble_eq_true rfl) dX12_chain_47 rfl ?_
              refine zr_istore [(4, .int v15), (0, .ref x0), (3, .int x3), (5, .int x5_11)] dX12_chain_50 (Nat.le_of_ble_eq_true rfl) rfl ?_
              refine zr_iload 0 dX12_chain_52 rfl ?_
              refine zr_iload_n 2 dX12_chain_54 rfl ?_
              refine zr_icmp_ne 61 dX12_chain_55 (by decide) (fun hc => ?_) (fun hc => ?_)
              · rw [if_neg hc] at hf
                refine zr_iinc (j := 3) (x5_11 + 1) [(5, .int (x5_11 + 1)), (4, .int v15), (0, .ref x0), (3, .int x3)] dX12_chain_61 rfl rfl (Nat.le_of_ble_eq_true rfl) rfl ?_
                refine zr_goto 35 dX12_chain_64 (by decide) ?_
                exact zr_lv [2, 3, 1, 0] rfl (ih13 v15 (x5_11 + 1) hf)
              · rw [if_pos hc] at hf
                refine zr_iload 3 dX12_chain_58 rfl ?_
                cases hf
                exact zr_iret dX12_chain_60
        exact zr_lv [2, 5, 1, 0] rfl (hL16 _ x2 1 hf)
      · rw [if_pos hc] at hf
        refine zr_iconst (-1) dX12_chain_27 (by decide) ?_
        cases hf
        exact zr_iret dX12_chain_28
theorem dX12_late_0 : decode cX12_late 0 = .ok (.aload_n 0, 1) := by decide +kernel
theorem dX12_late_1 : decode cX12_late 1 = .ok (.iconst 0, 1) := by decide +kernel
theorem dX12_late_2 : decode cX12_late 2 = .ok (.putfield 93, 3) := by decide +kernel
theorem dX12_late_5 : decode cX12_late 5 = .ok (.aload_n 0, 1) := by decide +kernel
theorem dX12_late_6 : decode cX12_late 6 = .ok (.iload_n 1, 1) := by decide +kernel
theorem dX12_late_7 : decode cX12_late 7 = .ok (.invokevirtual 298, 3) := by decide +kernel
theorem dX12_late_10 : decode cX12_late 10 = .ok (.ifCond .eq 38, 3) := by decide +kernel
theorem dX12_late_13 : decode cX12_late 13 = .ok (.aload_n 0, 1) := by decide +kernel
theorem dX12_late_14 : decode cX12_late 14 = .ok (.iload_n 2, 1) := by decide +kernel
theorem dX12_late_15 : decode cX12_late 15 = .ok (.invokevirtual 304, 3) := by decide +kernel
theorem dX12_late_18 : decode cX12_late 18 = .ok (.ifCond .eq 30, 3) := by decide +kernel
theorem dX12_late_21 : decode cX12_late 21 = .ok (.iload_n 3, 1) := by decide +kernel
theorem dX12_late_22 : decode cX12_late 22 = .ok (.invokestatic 307, 3) := by decide +kernel
theorem dX12_late_25 : decode cX12_late 25 = .ok (.ifCond .eq 23, 3) := by decide +kernel
theorem dX12_late_28 : decode cX12_late 28 = .ok (.iconst 2, 1) := by decide +kernel
theorem dX12_late_29 : decode cX12_late 29 = .ok (.aload_n 0, 1) := by decide +kernel
theorem dX12_late_30 : decode cX12_late 30 = .ok (.getfield 273, 3) := by decide +kernel
theorem dX12_late_33 : decode cX12_late 33 = .ok (.iload_n 2, 1) := by decide +kernel
theorem dX12_late_34 : decode cX12_late 34 = .ok (.isub, 1) := by decide +kernel
theorem dX12_late_35 : decode cX12_late 35 = .ok (.imul, 1) := by decide +kernel
theorem dX12_late_36 : decode cX12_late 36 = .ok (.aload_n 0, 1) := by decide +kernel
theorem dX12_late_37 : decode cX12_late 37 = .ok (.bipush 11, 2) := by decide +kernel
theorem dX12_late_39 : decode cX12_late 39 = .ok (.iload_n 3, 1) := by decide +kernel
theorem dX12_late_40 : decode cX12_late 40 = .ok (.iadd, 1) := by decide +kernel
theorem dX12_late_41 : decode cX12_late 41 = .ok (.invokevirtual 269, 3) := by decide +kernel
theorem dX12_late_44 : decode cX12_late 44 = .ok (.iadd, 1) := by decide +kernel
theorem dX12_late_45 : decode cX12_late 45 = .ok (.goto 4, 3) := by decide +kernel
theorem dX12_late_48 : decode cX12_late 48 = .ok (.iconst (-1), 1) := by decide +kernel
theorem dX12_late_49 : decode cX12_late 49 = .ok (.ireturn, 1) := by decide +kernel
noncomputable def fX12_late (μ : zM) (x0 : Nat) (x1 : Int32) (x2 : Int32) (x3 : Int32) : Option (Int32 × zM) := zgd (zm_ck μ 12 x0) <|
  zb1 (zm_p μ 12 x0 0 (.int 0)) fun m1 =>
  zb2 (fX12_hand m1 x0 x1) fun v5 m4 =>
  zb1 (if v5 = 0 then (
  some (-1))
  else (
  zb1 (fX12_isPlace m4 x0 x2) fun v9 =>
  if v9 = 0 then (
  some (-1))
  else (
  zb1 (fX12_isWord m4 x3) fun v11 =>
  if v11 = 0 then (
  some (-1))
  else (
  zb1 (zm_gI m4 12 x0 24) fun v12 =>
  zb1 (fX12_of m4 x0 (11 + x3)) fun v15 =>
  some ((2 * (v12 - x2)) + v15)))) : Option (Int32)) fun (s6 : Int32) =>
  some (s6, m4)
theorem fX12_late_ck {μ : zM} {x0 : Nat} {x1 : Int32} {x2 : Int32} {x3 : Int32} {z : Int32 × zM} (h : fX12_late μ x0 x1 x2 x3 = some z) : zm_ck μ 12 x0 = true := (zgd_s h).1
set_option maxHeartbeats 4000000 in
set_option maxRecDepth 100000 in
theorem cX12_late_ok {μ : zM} {x0 : Nat} {x1 : Int32} {x2 : Int32} {x3 : Int32} {r : Int32} {mo : zM} (hf : fX12_late μ x0 x1 x2 x3 = some (r, mo)) : zC yX12_late cX12_late 4 (some .int) 3 0 0 [.ref x0, .int x1, .int x2, .int x3] μ (some (.int r)) mo := by
  replace hf := (zgd_s hf).2
  refine zC.of (by decide) (Nat.le_of_ble_eq_true rfl) (fun K hin => ?_)
  clear hin
  show zz K cX12_late (4, RX12, some .int, 3, 0, 0, some (.int r), mo) 0 0 0 [(0, .ref x0), (1, .int x1), (2, .int x2), (3, .int x3)] [] μ
  refine zr_aload_n 0 dX12_late_0 rfl ?_
  refine zr_iconst 0 dX12_late_1 (by decide) ?_
  replace hf := zb1_s hf
  obtain ⟨m1, h2, hf⟩ := hf
  refine zr_put h2 zk12 (by decide) zl_899 rfl rfl rfl dX12_late_2 ?_
  refine zr_aload_n 0 dX12_late_5 rfl ?_
  refine zr_iload_n 1 dX12_late_6 rfl ?_
  replace hf := zb2_s hf
  obtain ⟨v5, m4, h3, hf⟩ := hf
  refine zr_callV (ci := 12) [.int x1] (cX12_hand_ok h3) zvs_X12_hand zl_1057 zl_1058 (fX12_hand_ck h3) rfl rfl zl_1056 rfl (Nat.le_of_ble_eq_true rfl) (Nat.le_of_ble_eq_true rfl) (Nat.le_of_ble_eq_true rfl) (Nat.le_of_ble_eq_true rfl) dX12_late_7 rfl ?_
  replace hf := zb1_s hf
  obtain ⟨s6, hg, hf⟩ := hf
  have hj7 : zz K cX12_late (4, RX12, some .int, 3, 0, 0, some (.int r), mo) 0 0 49 [] [.int s6] m4 := by
    cases hf
    exact zr_iret dX12_late_49
  clear hf
  have hf := hg
  clear hg
  refine zr_if_eq 48 dX12_late_10 (by decide) (fun hc => ?_) (fun hc => ?_)
  · rw [if_pos hc] at hf
    refine zr_iconst (-1) dX12_late_48 (by decide) ?_
    cases hf
    exact zr_lv [] rfl hj7
  · rw [if_neg hc] at hf
    refine zr_aload_n 0 dX12_late_13 rfl ?_
    refine zr_iload_n 2 dX12_late_14 rfl ?_
    replace hf := zb1_s hf
    obtain ⟨v9, h8, hf⟩ := hf
    refine zr_callV (ci := 12) [.int x2] (cX12_isPlace_ok h8) zvs_X12_isPlace zl_1065 zl_1066 (fX12_isPlace_ck h8) rfl rfl zl_1064 rfl (Nat.le_of_ble_eq_true rfl) (Nat.le_of_ble_eq_true rfl) (Nat.le_of_ble_eq_true rfl) (Nat.le_of_ble_eq_true rfl) dX12_late_15 rfl ?_
    refine zr_if_eq 48 dX12_late_18 (by decide) (fun hc => ?_) (fun hc => ?_)
    · rw [if_pos hc] at hf
      refine zr_iconst (-1) dX12_late_48 (by decide) ?_
      cases hf
      exact zr_lv [] rfl hj7
    · rw [if_neg hc] at hf
      refine zr_iload_n 3 dX12_late_21 rfl ?_
      replace hf := zb1_s hf
      obtain ⟨v11, h10, hf⟩ := hf
      refine zr_callS [.int x3] (cX12_isWord_ok h10) zvs_X12_isWord zl_1069 zl_1068 rfl (Nat.le_of_ble_eq_true rfl) (Nat.le_of_ble_eq_true rfl) (Nat.le_of_ble_eq_true rfl) (Nat.le_of_ble_eq_true rfl) dX12_late_22 rfl ?_
      refine zr_if_eq 48 dX12_late_25 (by decide) (fun hc => ?_) (fun hc => ?_)
      · rw [if_pos hc] at hf
        refine zr_iconst (-1) dX12_late_48 (by decide) ?_
        cases hf
        exact zr_lv [] rfl hj7
      · rw [if_neg hc] at hf
        refine zr_iconst 2 dX12_late_28 (by decide) ?_
        refine zr_aload_n 0 dX12_late_29 rfl ?_
        replace hf := zb1_s hf
        obtain ⟨v12, h13, hf⟩ := hf
        refine zr_get (zm_gI_g h13) zk12 (by decide) zl_1031 dX12_late_30 ?_
        refine zr_iload_n 2 dX12_late_33 rfl ?_
        refine zr_isub dX12_late_34 ?_
        refine zr_imul dX12_late_35 ?_
        refine zr_aload_n 0 dX12_late_36 rfl ?_
        refine zr_bipush 11 dX12_late_37 (by decide) ?_
        refine zr_iload_n 3 dX12_late_39 rfl ?_
        refine zr_iadd dX12_late_40 ?_
        replace hf := zb1_s hf
        obtain ⟨v15, h14, hf⟩ := hf
        refine zr_callV (ci := 12) [.int (11 + x3)] (cX12_of_ok h14) zvs_X12_of zl_1029 zl_1030 (fX12_of_ck h14) rfl rfl zl_1028 rfl (Nat.le_of_ble_eq_true rfl) (Nat.le_of_ble_eq_true rfl) (Nat.le_of_ble_eq_true rfl) (Nat.le_of_ble_eq_true rfl) dX12_late_41 rfl ?_
        refine zr_iadd dX12_late_44 ?_
        refine zr_goto 49 dX12_late_45 (by decide) ?_
        cases hf
        exact zr_lv [] rfl hj7
theorem dX12_isKind_0 : decode cX12_isKind 0 = .ok (.aload_n 0, 1) := by decide +kernel
theorem dX12_isKind_1 : decode cX12_isKind 1 = .ok (.iload_n 1, 1) := by decide +kernel
theorem dX12_isKind_2 : decode cX12_isKind 2 = .ok (.invokevirtual 301, 3) := by decide +kernel
theorem dX12_isKind_5 : decode cX12_isKind 5 = .ok (.ifCond .eq 19, 3) := by decide +kernel
theorem dX12_isKind_8 : decode cX12_isKind 8 = .ok (.aload_n 0, 1) := by decide +kernel
theorem dX12_isKind_9 : decode cX12_isKind 9 = .ok (.bipush 27, 2) := by decide +kernel
theorem dX12_isKind_11 : decode cX12_isKind 11 = .ok (.iload_n 1, 1) := by decide +kernel
theorem dX12_isKind_12 : decode cX12_isKind 12 = .ok (.iadd, 1) := by decide +kernel
theorem dX12_isKind_13 : decode cX12_isKind 13 = .ok (.invokevirtual 269, 3) := by decide +kernel
theorem dX12_isKind_16 : decode cX12_isKind 16 = .ok (.iload_n 2, 1) := by decide +kernel
theorem dX12_isKind_17 : decode cX12_isKind 17 = .ok (.if_icmp .ne 7, 3) := by decide +kernel
theorem dX12_isKind_20 : decode cX12_isKind 20 = .ok (.iconst 1, 1) := by decide +kernel
theorem dX12_isKind_21 : decode cX12_isKind 21 = .ok (.goto 4, 3) := by decide +kernel
theorem dX12_isKind_24 : decode cX12_isKind 24 = .ok (.iconst 0, 1) := by decide +kernel
theorem dX12_isKind_25 : decode cX12_isKind 25 = .ok (.ireturn, 1) := by decide +kernel
noncomputable def fX12_isKind (μ : zM) (x0 : Nat) (x1 : Int32) (x2 : Int32) : Option (Int32) := zgd (zm_ck μ 12 x0) <|
  zb1 (fX12_isPerson μ x0 x1) fun v2 =>
  zb1 (if v2 = 0 then (
  some 0)
  else (
  zb1 (fX12_of μ x0 (27 + x1)) fun v8 =>
  if v8 = x2 then (
  some 1)
  else (
  some 0)) : Option (Int32)) fun (s3 : Int32) =>
  zb1 (zbz s3) fun v5 =>
  some v5
theorem fX12_isKind_ck {μ : zM} {x0 : Nat} {x1 : Int32} {x2 : Int32} {z : Int32} (h : fX12_isKind μ x0 x1 x2 = some z) : zm_ck μ 12 x0 = true := (zgd_s h).1
set_option maxHeartbeats 4000000 in
set_option maxRecDepth 100000 in
theorem cX12_isKind_ok {μ : zM} {x0 : Nat} {x1 : Int32} {x2 : Int32} {r : Int32} (hf : fX12_isKind μ x0 x1 x2 = some r) : zC yX12_isKind cX12_isKind 3 (some .boolean) 2 0 0 [.ref x0, .int x1, .int x2] μ (some (.int r)) μ := by
  replace hf := (zgd_s hf).2
  refine zC.of (by decide) (Nat.le_of_ble_eq_true rfl) (fun K hin => ?_)
  clear hin
  show zz K cX12_isKind (3, RX12, some .boolean, 2, 0, 0, some (.int r), μ) 0 0 0 [(0, .ref x0), (1, .int x1), (2, .int x2)] [] μ
  refine zr_aload_n 0 dX12_isKind_0 rfl ?_
  refine zr_iload_n 1 dX12_isKind_1 rfl ?_
  replace hf := zb1_s hf
  obtain ⟨v2, h1, hf⟩ := hf
  refine zr_callV (ci := 12) [.int x1] (cX12_isPerson_ok h1) zvs_X12_isPerson zl_1061 zl_1062 (fX12_isPerson_ck h1) rfl rfl zl_1060 rfl (Nat.le_of_ble_eq_true rfl) (Nat.le_of_ble_eq_true rfl) (Nat.le_of_ble_eq_true rfl) (Nat.le_of_ble_eq_true rfl) dX12_isKind_2 rfl ?_
  replace hf := zb1_s hf
  obtain ⟨s3, hg, hf⟩ := hf
  have hj4 : zz K cX12_isKind (3, RX12, some .boolean, 2, 0, 0, some (.int r), μ) 0 0 25 [] [.int s3] μ := by
    replace hf := zb1_s hf
    obtain ⟨v5, hn6, hf⟩ := hf
    replace hn6 := zbz_s hn6
    obtain ⟨hn6, rfl⟩ := hn6
    cases hf
    exact zr_zret hn6 dX12_isKind_25
  clear hf
  have hf := hg
  clear hg
  refine zr_if_eq 24 dX12_isKind_5 (by decide) (fun hc => ?_) (fun hc => ?_)
  · rw [if_pos hc] at hf
    refine zr_iconst 0 dX12_isKind_24 (by decide) ?_
    cases hf
    exact zr_lv [] rfl hj4
  · rw [if_neg hc] at hf
    refine zr_aload_n 0 dX12_isKind_8 rfl ?_
    refine zr_bipush 27 dX12_isKind_9 (by decide) ?_
    refine zr_iload_n 1 dX12_isKind_11 rfl ?_
    refine zr_iadd dX12_isKind_12 ?_
    replace hf := zb1_s hf
    obtain ⟨v8, h7, hf⟩ := hf
    refine zr_callV (ci := 12) [.int (27 + x1)] (cX12_of_ok h7) zvs_X12_of zl_1029 zl_1030 (fX12_of_ck h7) rfl rfl zl_1028 rfl (Nat.le_of_ble_eq_true rfl) (Nat.le_of_ble_eq_true rfl) (Nat.le_of_ble_eq_true rfl) (Nat.le_of_ble_eq_true rfl) dX12_isKind_13 rfl ?_
    refine zr_iload_n 2 dX12_isKind_16 rfl ?_
    refine zr_icmp_ne 24 dX12_isKind_17 (by decide) (fun hc => ?_) (fun hc => ?_)
    · rw [if_neg hc] at hf
      refine zr_iconst 0 dX12_isKind_24 (by decide) ?_
      cases hf
      exact zr_lv [] rfl hj4
    · rw [if_pos hc] at hf
      refine zr_iconst 1 dX12_isKind_20 (by decide) ?_
      refine zr_goto 25 dX12_isKind_21 (by decide) ?_
      cases hf
      exact zr_lv [] rfl hj4
theorem zl_1155 : Cond.code yX12_isKind cX12_isKind 3 (some .boolean) ∈ zt := zt_at 1810 (by decide +kernel)
theorem zvs_X12_isKind : zvS yX12_isKind cX12_isKind 3 (some .boolean) 2 := ⟨zl_1155, zl_893, ⟨by decide +kernel, by decide +kernel, by decide +kernel⟩, by decide⟩
theorem zl_1156 : Cond.methodLink RX12 391 yX12_isKind ∈ zt := zt_at 1807 (by decide +kernel)
theorem zl_1157 : Cond.instanceMethod yX12_isKind ∈ zt := zt_at 1809 (by decide +kernel)
theorem zl_1158 : Cond.selects RX12 yX12_isKind yX12_isKind ∈ zt := zt_at 97 (by decide +kernel)
theorem dX12_rankOf_0 : decode cX12_rankOf 0 = .ok (.iconst 0, 1) := by decide +kernel
theorem dX12_rankOf_1 : decode cX12_rankOf 1 = .ok (.istore_n 3, 1) := by decide +kernel
theorem dX12_rankOf_2 : decode cX12_rankOf 2 = .ok (.iconst 0, 1) := by decide +kernel
theorem dX12_rankOf_3 : decode cX12_rankOf 3 = .ok (.istore 4, 2) := by decide +kernel
theorem dX12_rankOf_5 : decode cX12_rankOf 5 = .ok (.iload 4, 2) := by decide +kernel
theorem dX12_rankOf_7 : decode cX12_rankOf 7 = .ok (.aload_n 0, 1) := by decide +kernel
theorem dX12_rankOf_8 : decode cX12_rankOf 8 = .ok (.getfield 276, 3) := by decide +kernel
theorem dX12_rankOf_11 : decode cX12_rankOf 11 = .ok (.if_icmp .ge 95, 3) := by decide +kernel
theorem dX12_rankOf_14 : decode cX12_rankOf 14 = .ok (.iload_n 2, 1) := by decide +kernel
theorem dX12_rankOf_15 : decode cX12_rankOf 15 = .ok (.ifCond .eq 24, 3) := by decide +kernel
theorem dX12_rankOf_18 : decode cX12_rankOf 18 = .ok (.aload_n 0, 1) := by decide +kernel
theorem dX12_rankOf_19 : decode cX12_rankOf 19 = .ok (.bipush 39, 2) := by decide +kernel
theorem dX12_rankOf_21 : decode cX12_rankOf 21 = .ok (.iload_n 1, 1) := by decide +kernel
theorem dX12_rankOf_22 : decode cX12_rankOf 22 = .ok (.iadd, 1) := by decide +kernel
theorem dX12_rankOf_23 : decode cX12_rankOf 23 = .ok (.invokevirtual 269, 3) := by decide +kernel
theorem dX12_rankOf_26 : decode cX12_rankOf 26 = .ok (.aload_n 0, 1) := by decide +kernel
theorem dX12_rankOf_27 : decode cX12_rankOf 27 = .ok (.bipush 39, 2) := by decide +kernel
theorem dX12_rankOf_29 : decode cX12_rankOf 29 = .ok (.iload 4, 2) := by decide +kernel
theorem dX12_rankOf_31 : decode cX12_rankOf 31 = .ok (.iadd, 1) := by decide +kernel
theorem dX12_rankOf_32 : decode cX12_rankOf 32 = .ok (.invokevirtual 269, 3) := by decide +kernel
theorem dX12_rankOf_35 : decode cX12_rankOf 35 = .ok (.isub, 1) := by decide +kernel
theorem dX12_rankOf_36 : decode cX12_rankOf 36 = .ok (.goto 21, 3) := by decide +kernel
theorem dX12_rankOf_39 : decode cX12_rankOf 39 = .ok (.aload_n 0, 1) := by decide +kernel
theorem dX12_rankOf_40 : decode cX12_rankOf 40 = .ok (.bipush 39, 2) := by decide +kernel
theorem dX12_rankOf_42 : decode cX12_rankOf 42 = .ok (.iload 4, 2) := by decide +kernel
theorem dX12_rankOf_44 : decode cX12_rankOf 44 = .ok (.iadd, 1) := by decide +kernel
theorem dX12_rankOf_45 : decode cX12_rankOf 45 = .ok (.invokevirtual 269, 3) := by decide +kernel
theorem dX12_rankOf_48 : decode cX12_rankOf 48 = .ok (.aload_n 0, 1) := by decide +kernel
theorem dX12_rankOf_49 : decode cX12_rankOf 49 = .ok (.bipush 39, 2) := by decide +kernel
theorem dX12_rankOf_51 : decode cX12_rankOf 51 = .ok (.iload_n 1, 1) := by decide +kernel
theorem dX12_rankOf_52 : decode cX12_rankOf 52 = .ok (.iadd, 1) := by decide +kernel
theorem dX12_rankOf_53 : decode cX12_rankOf 53 = .ok (.invokevirtual 269, 3) := by decide +kernel
theorem dX12_rankOf_56 : decode cX12_rankOf 56 = .ok (.isub, 1) := by decide +kernel
theorem dX12_rankOf_57 : decode cX12_rankOf 57 = .ok (.istore 5, 2) := by decide +kernel
theorem dX12_rankOf_59 : decode cX12_rankOf 59 = .ok (.iload_n 3, 1) := by decide +kernel
theorem dX12_rankOf_60 : decode cX12_rankOf 60 = .ok (.aload_n 0, 1) := by decide +kernel
theorem dX12_rankOf_61 : decode cX12_rankOf 61 = .ok (.iload 4, 2) := by decide +kernel
theorem dX12_rankOf_63 : decode cX12_rankOf 63 = .ok (.aload_n 0, 1) := by decide +kernel
theorem dX12_rankOf_64 : decode cX12_rankOf 64 = .ok (.bipush 27, 2) := by decide +kernel
theorem dX12_rankOf_66 : decode cX12_rankOf 66 = .ok (.iload_n 1, 1) := by decide +kernel
theorem dX12_rankOf_67 : decode cX12_rankOf 67 = .ok (.iadd, 1) := by decide +kernel
theorem dX12_rankOf_68 : decode cX12_rankOf 68 = .ok (.invokevirtual 269, 3) := by decide +kernel
theorem dX12_rankOf_71 : decode cX12_rankOf 71 = .ok (.invokevirtual 391, 3) := by decide +kernel
theorem dX12_rankOf_74 : decode cX12_rankOf 74 = .ok (.ifCond .eq 23, 3) := by decide +kernel
theorem dX12_rankOf_77 : decode cX12_rankOf 77 = .ok (.iload 5, 2) := by decide +kernel
theorem dX12_rankOf_79 : decode cX12_rankOf 79 = .ok (.ifCond .gt 14, 3) := by decide +kernel
theorem dX12_rankOf_82 : decode cX12_rankOf 82 = .ok (.iload 5, 2) := by decide +kernel
theorem dX12_rankOf_84 : decode cX12_rankOf 84 = .ok (.ifCond .ne 13, 3) := by decide +kernel
theorem dX12_rankOf_87 : decode cX12_rankOf 87 = .ok (.iload 4, 2) := by decide +kernel
theorem dX12_rankOf_89 : decode cX12_rankOf 89 = .ok (.iload_n 1, 1) := by decide +kernel
theorem dX12_rankOf_90 : decode cX12_rankOf 90 = .ok (.if_icmp .ge 7, 3) := by decide +kernel
theorem dX12_rankOf_93 : decode cX12_rankOf 93 = .ok (.iconst 1, 1) := by decide +kernel
theorem dX12_rankOf_94 : decode cX12_rankOf 94 = .ok (.goto 4, 3) := by decide +kernel
theorem dX12_rankOf_97 : decode cX12_rankOf 97 = .ok (.iconst 0, 1) := by decide +kernel
theorem dX12_rankOf_98 : decode cX12_rankOf 98 = .ok (.iadd, 1) := by decide +kernel
theorem dX12_rankOf_99 : decode cX12_rankOf 99 = .ok (.istore_n 3, 1) := by decide +kernel
theorem dX12_rankOf_100 : decode cX12_rankOf 100 = .ok (.iinc 4 1, 3) := by decide +kernel
theorem dX12_rankOf_103 : decode cX12_rankOf 103 = .ok (.goto (-98), 3) := by decide +kernel
theorem dX12_rankOf_106 : decode cX12_rankOf 106 = .ok (.iload_n 3, 1) := by decide +kernel
theorem dX12_rankOf_107 : decode cX12_rankOf 107 = .ok (.ireturn, 1) := by decide +kernel
noncomputable def fX12_rankOf_l5 (μ : zM) (x0 : Nat) (x2 : Int32) (x1 : Int32) (F3 : Int32 → Int32 → Option (Int32)) (x3_1 : Int32) (x4_2 : Int32) : Option (Int32) :=
  zb1 (zm_gI μ 12 x0 25) fun v7 =>
  if v7 ≤ x4_2 then (
  some x3_1)
  else (
  zb1 (if x2 = 0 then (
  zb1 (fX12_of μ x0 (39 + x4_2)) fun v18 =>
  zb1 (fX12_of μ x0 (39 + x1)) fun v20 =>
  some (v18 - v20))
  else (
  zb1 (fX12_of μ x0 (39 + x1)) fun v22 =>
  zb1 (fX12_of μ x0 (39 + x4_2)) fun v24 =>
  some (v22 - v24)) : Option (Int32)) fun (s9 : Int32) =>
  zb1 (fX12_of μ x0 (27 + x1)) fun v12 =>
  zb1 (fX12_isKind μ x0 x4_2 v12) fun v14 =>
  zb1 (if v14 = 0 then (
  some 0)
  else (
  if 0 < s9 then (
  some 1)
  else (
  if s9 = 0 then (
  if x1 ≤ x4_2 then (
  some 0)
  else (
  some 1))
  else (
  some 0))) : Option (Int32)) fun (s15 : Int32) =>
  F3 (x3_1 + s15) (x4_2 + 1))
noncomputable def fX12_rankOf (μ : zM) (x0 : Nat) (x1 : Int32) (x2 : Int32) : Option (Int32) := zgd (zm_ck μ 12 x0) <|
  zb1 (zf2 (fX12_rankOf_l5 μ x0 x2 x1) zfu 0 0 : Option (Int32)) fun (x3_5 : Int32) =>
  some x3_5
theorem fX12_rankOf_ck {μ : zM} {x0 : Nat} {x1 : Int32} {x2 : Int32} {z : Int32} (h : fX12_rankOf μ x0 x1 x2 = some z) : zm_ck μ 12 x0 = true := (zgd_s h).1
set_option maxHeartbeats 4000000 in
set_option maxRecDepth 100000 in
theorem cX12_rankOf_ok {μ : zM} {x0 : Nat} {x1 : Int32} {x2 : Int32} {r : Int32} (hf : fX12_rankOf μ x0 x1 x2 = some r) : zC yX12_rankOf cX12_rankOf 6 (some .int) 3 0 0 [.ref x0, .int x1, .int x2] μ (some (.int r)) μ := by
  replace hf := (zgd_s hf).2
  refine zC.of (by decide) (Nat.le_of_ble_eq_true rfl) (fun K hin => ?_)
  clear hin
  show zz K cX12_rankOf (6, RX12, some .int, 3, 0, 0, some (.int r), μ) 0 0 0 [(0, .ref x0), (1, .int x1), (2, .int x2)] [] μ
  refine zr_iconst 0 dX12_rankOf_0 (by decide) ?_
  refine zr_istore_n [(3, .int 0), (0, .ref x0), (1, .int x1), (2, .int x2)] dX12_rankOf_1 (Nat.le_of_ble_eq_true rfl) rfl ?_
  refine zr_iconst 0 dX12_rankOf_2 (by decide) ?_
  refine zr_istore [(4, .int 0), (3, .int 0), (0, .ref x0), (1, .int x1), (2, .int x2)] dX12_rankOf_3 (Nat.le_of_ble_eq_true rfl) rfl ?_
  replace hf := zb1_s hf
  obtain ⟨x3_5, hg, hf⟩ := hf
  have hj6 : zz K cX12_rankOf (6, RX12, some .int, 3, 0, 0, some (.int r), μ) 0 0 106 [(3, .int x3_5)] [] μ := by
    refine zr_iload_n 0 dX12_rankOf_106 rfl ?_
    cases hf
    exact zr_iret dX12_rankOf_107
  clear hf
  have hf := hg
  clear hg
  have hL25 : ∀ (n : Nat) (x3_1 : Int32) (x4_2 : Int32), zf2 (fX12_rankOf_l5 μ x0 x2 x1) n x3_1 x4_2 = some x3_5 → zz K cX12_rankOf (6, RX12, some .int, 3, 0, 0, some (.int r), μ) 0 0 5 [(0, .ref x0), (1, .int x1), (2, .int x2), (3, .int x3_1), (4, .int x4_2)] [] μ := by
    intro n
    induction n with
    | zero => intro x3_1 x4_2 hf; cases hf
    | succ n ih4 =>
      intro x3_1 x4_2 hf
      replace hf := zf2_s hf
      generalize zf2 (fX12_rankOf_l5 μ x0 x2 x1) n = F3 at hf ih4
      unfold fX12_rankOf_l5 at hf
      refine zr_iload 4 dX12_rankOf_5 rfl ?_
      refine zr_aload_n 0 dX12_rankOf_7 rfl ?_
      replace hf := zb1_s hf
      obtain ⟨v7, h8, hf⟩ := hf
      refine zr_get (zm_gI_g h8) zk12 (by decide) zl_1032 dX12_rankOf_8 ?_
      refine zr_icmp_ge 106 dX12_rankOf_11 (by decide) (fun hc => ?_) (fun hc => ?_)
      · rw [if_pos hc] at hf
        cases hf
        exact zr_lv [3] rfl hj6
      · rw [if_neg hc] at hf
        refine zr_iload_n 2 dX12_rankOf_14 rfl ?_
        replace hf := zb1_s hf
        obtain ⟨s9, hg, hf⟩ := hf
        have hj10 : zz K cX12_rankOf (6, RX12, some .int, 3, 0, 0, some (.int r), μ) 0 0 57 [(0, .ref x0), (1, .int x1), (2, .int x2), (3, .int x3_1), (4, .int x4_2)] [.int s9] μ := by
          refine zr_istore [(5, .int s9), (0, .ref x0), (1, .int x1), (2, .int x2), (3, .int x3_1), (4, .int x4_2)] dX12_rankOf_57 (Nat.le_of_ble_eq_true rfl) rfl ?_
          refine zr_iload_n 4 dX12_rankOf_59 rfl ?_
          refine zr_aload_n 1 dX12_rankOf_60 rfl ?_
          refine zr_iload 5 dX12_rankOf_61 rfl ?_
          refine zr_aload_n 1 dX12_rankOf_63 rfl ?_
          refine zr_bipush 27 dX12_rankOf_64 (by decide) ?_
          refine zr_iload_n 2 dX12_rankOf_66 rfl ?_
          refine zr_iadd dX12_rankOf_67 ?_
          replace hf := zb1_s hf
          obtain ⟨v12, h11, hf⟩ := hf
          refine zr_callV (ci := 12) [.int (27 + x1)] (cX12_of_ok h11) zvs_X12_of zl_1029 zl_1030 (fX12_of_ck h11) rfl rfl zl_1028 rfl (Nat.le_of_ble_eq_true rfl) (Nat.le_of_ble_eq_true rfl) (Nat.le_of_ble_eq_true rfl) (Nat.le_of_ble_eq_true rfl) dX12_rankOf_68 rfl ?_
          replace hf := zb1_s hf
          obtain ⟨v14, h13, hf⟩ := hf
          refine zr_callV (ci := 12) [.int x4_2, .int v12] (cX12_isKind_ok h13) zvs_X12_isKind zl_1157 zl_1158 (fX12_isKind_ck h13) rfl rfl zl_1156 rfl (Nat.le_of_ble_eq_true rfl) (Nat.le_of_ble_eq_true rfl) (Nat.le_of_ble_eq_true rfl) (Nat.le_of_ble_eq_true rfl) dX12_rankOf_71 rfl ?_
          replace hf := zb1_s hf
          obtain ⟨s15, hg, hf⟩ := hf
          have hj16 : zz K cX12_rankOf (6, RX12, some .int, 3, 0, 0, some (.int r), μ) 0 0 98 [(0, .ref x0), (1, .int x1), (2, .int x2), (4, .int x4_2)] [.int s15, .int x3_1] μ := by
            refine zr_iadd dX12_rankOf_98 ?_
            refine zr_istore_n [(3, .int (x3_1 + s15)), (0, .ref x0), (1, .int x1), (2, .int x2), (4, .int x4_2)] dX12_rankOf_99 (Nat.le_of_ble_eq_true rfl) rfl ?_
            refine zr_iinc (j := 4) (x4_2 + 1) [(4, .int (x4_2 + 1)), (3, .int (x3_1 + s15)), (0, .ref x0), (1, .int x1), (2, .int x2)] dX12_rankOf_100 rfl rfl (Nat.le_of_ble_eq_true rfl) rfl ?_
            refine zr_goto 5 dX12_rankOf_103 (by decide) ?_
            exact zr_lv [2, 3, 4, 1, 0] rfl (ih4 (x3_1 + s15) (x4_2 + 1) hf)
          clear hf
          have hf := hg
          clear hg
          refine zr_if_eq 97 dX12_rankOf_74 (by decide) (fun hc => ?_) (fun hc => ?_)
          · rw [if_pos hc] at hf
            refine zr_iconst 0 dX12_rankOf_97 (by decide) ?_
            cases hf
            exact zr_lv [1, 2, 3, 5] rfl hj16
          · rw [if_neg hc] at hf
            refine zr_iload 0 dX12_rankOf_77 rfl ?_
            refine zr_if_gt 93 dX12_rankOf_79 (by decide) (fun hc => ?_) (fun hc => ?_)
            · rw [if_pos hc] at hf
              refine zr_iconst 1 dX12_rankOf_93 (by decide) ?_
              refine zr_goto 98 dX12_rankOf_94 (by decide) ?_
              cases hf
              exact zr_lv [1, 2, 3, 5] rfl hj16
            · rw [if_neg hc] at hf
              refine zr_iload 0 dX12_rankOf_82 rfl ?_
              refine zr_if_ne 97 dX12_rankOf_84 (by decide) (fun hc => ?_) (fun hc => ?_)
              · rw [if_neg hc] at hf
                refine zr_iconst 0 dX12_rankOf_97 (by decide) ?_
                cases hf
                exact zr_lv [1, 2, 3, 5] rfl hj16
              · rw [if_pos hc] at hf
                refine zr_iload 5 dX12_rankOf_87 rfl ?_
                refine zr_iload_n 2 dX12_rankOf_89 rfl ?_
                refine zr_icmp_ge 97 dX12_rankOf_90 (by decide) (fun hc => ?_) (fun hc => ?_)
                · rw [if_pos hc] at hf
                  refine zr_iconst 0 dX12_rankOf_97 (by decide) ?_
                  cases hf
                  exact zr_lv [1, 2, 3, 5] rfl hj16
                · rw [if_neg hc] at hf
                  refine zr_iconst 1 dX12_rankOf_93 (by decide) ?_
                  refine zr_goto 98 dX12_rankOf_94 (by decide) ?_
                  cases hf
                  exact zr_lv [1, 2, 3, 5] rfl hj16
        clear hf
        have hf := hg
        clear hg
        refine zr_if_eq 39 dX12_rankOf_15 (by decide) (fun hc => ?_) (fun hc => ?_)
        · rw [if_pos hc] at hf
          refine zr_aload_n 0 dX12_rankOf_39 rfl ?_
          refine zr_bipush 39 dX12_rankOf_40 (by decide) ?_
          refine zr_iload 4 dX12_rankOf_42 rfl ?_
          refine zr_iadd dX12_rankOf_44 ?_
          replace hf := zb1_s hf
          obtain ⟨v18, h17, hf⟩ := hf
          refine zr_callV (ci := 12) [.int (39 + x4_2)] (cX12_of_ok h17) zvs_X12_of zl_1029 zl_1030 (fX12_of_ck h17) rfl rfl zl_1028 rfl (Nat.le_of_ble_eq_true rfl) (Nat.le_of_ble_eq_true rfl) (Nat.le_of_ble_eq_true rfl) (Nat.le_of_ble_eq_true rfl) dX12_rankOf_45 rfl ?_
          refine zr_aload_n 0 dX12_rankOf_48 rfl ?_
          refine zr_bipush 39 dX12_rankOf_49 (by decide) ?_
          refine zr_iload_n 1 dX12_rankOf_51 rfl ?_
          refine zr_iadd dX12_rankOf_52 ?_
          replace hf := zb1_s hf
          obtain ⟨v20, h19, hf⟩ := hf
          refine zr_callV (ci := 12) [.int (39 + x1)] (cX12_of_ok h19) zvs_X12_of zl_1029 zl_1030 (fX12_of_ck h19) rfl rfl zl_1028 rfl (Nat.le_of_ble_eq_true rfl) (Nat.le_of_ble_eq_true rfl) (Nat.le_of_ble_eq_true rfl) (Nat.le_of_ble_eq_true rfl) dX12_rankOf_53 rfl ?_
          refine zr_isub dX12_rankOf_56 ?_
          cases hf
          exact zr_lv [0, 1, 2, 3, 4] rfl hj10
        · rw [if_neg hc] at hf
          refine zr_aload_n 0 dX12_rankOf_18 rfl ?_
          refine zr_bipush 39 dX12_rankOf_19 (by decide) ?_
          refine zr_iload_n 1 dX12_rankOf_21 rfl ?_
          refine zr_iadd dX12_rankOf_22 ?_
          replace hf := zb1_s hf
          obtain ⟨v22, h21, hf⟩ := hf
          refine zr_callV (ci := 12) [.int (39 + x1)] (cX12_of_ok h21) zvs_X12_of zl_1029 zl_1030 (fX12_of_ck h21) rfl rfl zl_1028 rfl (Nat.le_of_ble_eq_true rfl) (Nat.le_of_ble_eq_true rfl) (Nat.le_of_ble_eq_true rfl) (Nat.le_of_ble_eq_true rfl) dX12_rankOf_23 rfl ?_
          refine zr_aload_n 0 dX12_rankOf_26 rfl ?_
          refine zr_bipush 39 dX12_rankOf_27 (by decide) ?_
          refine zr_iload 4 dX12_rankOf_29 rfl ?_
          refine zr_iadd dX12_rankOf_31 ?_
          replace hf := zb1_s hf
          obtain ⟨v24, h23, hf⟩ := hf
          refine zr_callV (ci := 12) [.int (39 + x4_2)] (cX12_of_ok h23) zvs_X12_of zl_1029 zl_1030 (fX12_of_ck h23) rfl rfl zl_1028 rfl (Nat.le_of_ble_eq_true rfl) (Nat.le_of_ble_eq_true rfl) (Nat.le_of_ble_eq_true rfl) (Nat.le_of_ble_eq_true rfl) dX12_rankOf_32 rfl ?_
          refine zr_isub dX12_rankOf_35 ?_
          refine zr_goto 57 dX12_rankOf_36 (by decide) ?_
          cases hf
          exact zr_lv [0, 1, 2, 3, 4] rfl hj10
  exact zr_lv [2, 3, 4, 1, 0] rfl (hL25 _ 0 0 hf)
