theorem zl_793 : Cond.fieldLink RX12 109 "TwoEchoesModel" "reached" "I" ∈ zt := zt_at 1351 (by decide +kernel)
theorem zl_794 : Cond.fieldLink RX12 112 "TwoEchoesModel" "length" "I" ∈ zt := zt_at 1352 (by decide +kernel)
theorem dX12_see_0 : decode cX12_see 0 = .ok (.aload_n 0, 1) := by decide +kernel
theorem dX12_see_1 : decode cX12_see 1 = .ok (.getfield 109, 3) := by decide +kernel
theorem dX12_see_4 : decode cX12_see 4 = .ok (.aload_n 0, 1) := by decide +kernel
theorem dX12_see_5 : decode cX12_see 5 = .ok (.getfield 112, 3) := by decide +kernel
theorem dX12_see_8 : decode cX12_see 8 = .ok (.if_icmp .ge 19, 3) := by decide +kernel
theorem dX12_see_11 : decode cX12_see 11 = .ok (.aload_n 0, 1) := by decide +kernel
theorem dX12_see_12 : decode cX12_see 12 = .ok (.getfield 7, 3) := by decide +kernel
theorem dX12_see_15 : decode cX12_see 15 = .ok (.aload_n 0, 1) := by decide +kernel
theorem dX12_see_16 : decode cX12_see 16 = .ok (.getfield 109, 3) := by decide +kernel
theorem dX12_see_19 : decode cX12_see 19 = .ok (.baload, 1) := by decide +kernel
theorem dX12_see_20 : decode cX12_see 20 = .ok (.sipush 255, 3) := by decide +kernel
theorem dX12_see_23 : decode cX12_see 23 = .ok (.iand, 1) := by decide +kernel
theorem dX12_see_24 : decode cX12_see 24 = .ok (.goto 4, 3) := by decide +kernel
theorem dX12_see_27 : decode cX12_see 27 = .ok (.iconst (-1), 1) := by decide +kernel
theorem dX12_see_28 : decode cX12_see 28 = .ok (.ireturn, 1) := by decide +kernel
def fX12_see (μ : zM) (x0 : Nat) : Option (Int32) := zgd (zm_ck μ 12 x0) <|
  zb1 (zm_gI μ 12 x0 10) fun v1 =>
  zb1 (zm_gI μ 12 x0 11) fun v3 =>
  zb1 (if v3 ≤ v1 then (
  some (-1))
  else (
  zb1 (zm_gR μ 12 x0 1) fun v7 =>
  zb1 (zm_gI μ 12 x0 10) fun v9 =>
  zb1 (zm_aI μ 1 v7 v9) fun v11 =>
  some (v11 &&& 255))) fun s5 =>
  some s5
theorem fX12_see_ck {μ : zM} {x0 : Nat} {z : Int32} (h : fX12_see μ x0 = some z) : zm_ck μ 12 x0 = true := (zgd_s h).1
set_option maxHeartbeats 4000000 in
set_option maxRecDepth 100000 in
theorem cX12_see_ok {μ : zM} {x0 : Nat} {r : Int32} (hf : fX12_see μ x0 = some r) : zC yX12_see cX12_see 1 (some .int) 0 0 0 [.ref x0] μ (some (.int r)) μ := by
  replace hf := (zgd_s hf).2
  refine zC.of (by decide) (Nat.le_of_ble_eq_true rfl) (fun K hin => ?_)
  clear hin
  show zz K cX12_see (1, RX12, some .int, 0, 0, 0, some (.int r), μ) 0 0 0 [(0, .ref x0)] [] μ
  refine zr_aload_n 0 dX12_see_0 rfl ?_
  replace hf := zb1_s hf
  obtain ⟨v1, h2, hf⟩ := hf
  refine zr_get (zm_gI_g h2) zk12 (by decide) zl_793 dX12_see_1 ?_
  refine zr_aload_n 0 dX12_see_4 rfl ?_
  replace hf := zb1_s hf
  obtain ⟨v3, h4, hf⟩ := hf
  refine zr_get (zm_gI_g h4) zk12 (by decide) zl_794 dX12_see_5 ?_
  replace hf := zb1_s hf
  obtain ⟨s5, hg, hf⟩ := hf
  have hj6 : zz K cX12_see (1, RX12, some .int, 0, 0, 0, some (.int r), μ) 0 0 28 [] [.int s5] μ := by
    cases hf
    exact zr_iret dX12_see_28
  clear hf
  have hf := hg
  clear hg
  refine zr_icmp_ge 27 dX12_see_8 (by decide) (fun hc => ?_) (fun hc => ?_)
  · rw [if_pos hc] at hf
    refine zr_iconst (-1) dX12_see_27 (by decide) ?_
    cases hf
    exact zr_lv [] rfl hj6
  · rw [if_neg hc] at hf
    refine zr_aload_n 0 dX12_see_11 rfl ?_
    replace hf := zb1_s hf
    obtain ⟨v7, h8, hf⟩ := hf
    refine zr_get (zm_gR_g h8) zk12 (by decide) zl_753 dX12_see_12 ?_
    refine zr_aload_n 0 dX12_see_15 rfl ?_
    replace hf := zb1_s hf
    obtain ⟨v9, h10, hf⟩ := hf
    refine zr_get (zm_gI_g h10) zk12 (by decide) zl_793 dX12_see_16 ?_
    replace hf := zb1_s hf
    obtain ⟨v11, h12, hf⟩ := hf
    refine zr_bald h12 dX12_see_19 ?_
    refine zr_sipush 255 dX12_see_20 (by decide) ?_
    refine zr_iand dX12_see_23 ?_
    refine zr_goto 28 dX12_see_24 (by decide) ?_
    cases hf
    exact zr_lv [] rfl hj6
theorem zl_795 : Cond.code yX12_see cX12_see 1 (some .int) ∈ zt := zt_at 1543 (by decide +kernel)
theorem zvs_X12_see : zvS yX12_see cX12_see 1 (some .int) 0 := ⟨zl_795, zl_782, ⟨by decide +kernel, by decide +kernel, by decide +kernel⟩, by decide⟩
theorem zl_796 : Cond.methodLink RX12 115 yX12_see ∈ zt := zt_at 1540 (by decide +kernel)
theorem zl_797 : Cond.instanceMethod yX12_see ∈ zt := zt_at 1542 (by decide +kernel)
theorem zl_798 : Cond.selects RX12 yX12_see yX12_see ∈ zt := zt_at 52 (by decide +kernel)
theorem zl_799 : Cond.fieldLink RX12 119 "TwoEchoesModel" "begins" "I" ∈ zt := zt_at 1353 (by decide +kernel)
theorem zl_800 : Cond.fieldLink RX12 122 "TwoEchoesModel" "word" "J" ∈ zt := zt_at 1356 (by decide +kernel)
theorem zl_801 : Cond.fieldLink RX12 126 "TwoEchoesModel" "sort" "I" ∈ zt := zt_at 1354 (by decide +kernel)
theorem zl_802 : Cond.fieldLink RX12 129 "TwoEchoesModel" "value" "I" ∈ zt := zt_at 1355 (by decide +kernel)
theorem dX12_token_0 : decode cX12_token 0 = .ok (.aload_n 0, 1) := by decide +kernel
theorem dX12_token_1 : decode cX12_token 1 = .ok (.invokevirtual 115, 3) := by decide +kernel
theorem dX12_token_4 : decode cX12_token 4 = .ok (.bipush 10, 2) := by decide +kernel
theorem dX12_token_6 : decode cX12_token 6 = .ok (.if_icmp .eq 12, 3) := by decide +kernel
theorem dX12_token_9 : decode cX12_token 9 = .ok (.aload_n 0, 1) := by decide +kernel
theorem dX12_token_10 : decode cX12_token 10 = .ok (.invokevirtual 115, 3) := by decide +kernel
theorem dX12_token_13 : decode cX12_token 13 = .ok (.bipush 32, 2) := by decide +kernel
theorem dX12_token_15 : decode cX12_token 15 = .ok (.if_icmp .ne 16, 3) := by decide +kernel
theorem dX12_token_18 : decode cX12_token 18 = .ok (.aload_n 0, 1) := by decide +kernel
theorem dX12_token_19 : decode cX12_token 19 = .ok (.dup, 1) := by decide +kernel
theorem dX12_token_20 : decode cX12_token 20 = .ok (.getfield 109, 3) := by decide +kernel
theorem dX12_token_23 : decode cX12_token 23 = .ok (.iconst 1, 1) := by decide +kernel
theorem dX12_token_24 : decode cX12_token 24 = .ok (.iadd, 1) := by decide +kernel
theorem dX12_token_25 : decode cX12_token 25 = .ok (.putfield 109, 3) := by decide +kernel
theorem dX12_token_28 : decode cX12_token 28 = .ok (.goto (-28), 3) := by decide +kernel
theorem dX12_token_31 : decode cX12_token 31 = .ok (.aload_n 0, 1) := by decide +kernel
theorem dX12_token_32 : decode cX12_token 32 = .ok (.aload_n 0, 1) := by decide +kernel
theorem dX12_token_33 : decode cX12_token 33 = .ok (.getfield 109, 3) := by decide +kernel
theorem dX12_token_36 : decode cX12_token 36 = .ok (.putfield 119, 3) := by decide +kernel
theorem dX12_token_39 : decode cX12_token 39 = .ok (.aload_n 0, 1) := by decide +kernel
theorem dX12_token_40 : decode cX12_token 40 = .ok (.invokevirtual 115, 3) := by decide +kernel
theorem dX12_token_43 : decode cX12_token 43 = .ok (.istore_n 1, 1) := by decide +kernel
theorem dX12_token_44 : decode cX12_token 44 = .ok (.aload_n 0, 1) := by decide +kernel
theorem dX12_token_45 : decode cX12_token 45 = .ok (.lconst 0, 1) := by decide +kernel
theorem dX12_token_46 : decode cX12_token 46 = .ok (.putfield 122, 3) := by decide +kernel
theorem dX12_token_49 : decode cX12_token 49 = .ok (.iconst 0, 1) := by decide +kernel
theorem dX12_token_50 : decode cX12_token 50 = .ok (.istore_n 2, 1) := by decide +kernel
theorem dX12_token_51 : decode cX12_token 51 = .ok (.iload_n 1, 1) := by decide +kernel
theorem dX12_token_52 : decode cX12_token 52 = .ok (.ifCond .ge 11, 3) := by decide +kernel
theorem dX12_token_55 : decode cX12_token 55 = .ok (.aload_n 0, 1) := by decide +kernel
theorem dX12_token_56 : decode cX12_token 56 = .ok (.iconst 0, 1) := by decide +kernel
theorem dX12_token_57 : decode cX12_token 57 = .ok (.putfield 126, 3) := by decide +kernel
theorem dX12_token_60 : decode cX12_token 60 = .ok (.goto 206, 3) := by decide +kernel
theorem dX12_token_63 : decode cX12_token 63 = .ok (.iload_n 1, 1) := by decide +kernel
theorem dX12_token_64 : decode cX12_token 64 = .ok (.bipush 97, 2) := by decide +kernel
theorem dX12_token_66 : decode cX12_token 66 = .ok (.bipush 122, 2) := by decide +kernel
theorem dX12_token_68 : decode cX12_token 68 = .ok (.invokestatic 101, 3) := by decide +kernel
theorem dX12_token_71 : decode cX12_token 71 = .ok (.ifCond .eq 76, 3) := by decide +kernel
theorem dX12_token_74 : decode cX12_token 74 = .ok (.aload_n 0, 1) := by decide +kernel
theorem dX12_token_75 : decode cX12_token 75 = .ok (.invokevirtual 115, 3) := by decide +kernel
theorem dX12_token_78 : decode cX12_token 78 = .ok (.bipush 97, 2) := by decide +kernel
theorem dX12_token_80 : decode cX12_token 80 = .ok (.bipush 122, 2) := by decide +kernel
theorem dX12_token_82 : decode cX12_token 82 = .ok (.invokestatic 101, 3) := by decide +kernel
theorem dX12_token_85 : decode cX12_token 85 = .ok (.ifCond .eq 36, 3) := by decide +kernel
theorem dX12_token_88 : decode cX12_token 88 = .ok (.aload_n 0, 1) := by decide +kernel
theorem dX12_token_89 : decode cX12_token 89 = .ok (.aload_n 0, 1) := by decide +kernel
theorem dX12_token_90 : decode cX12_token 90 = .ok (.getfield 122, 3) := by decide +kernel
theorem dX12_token_93 : decode cX12_token 93 = .ok (.bipush 8, 2) := by decide +kernel
theorem dX12_token_95 : decode cX12_token 95 = .ok (.lshl, 1) := by decide +kernel
theorem dX12_token_96 : decode cX12_token 96 = .ok (.aload_n 0, 1) := by decide +kernel
theorem dX12_token_97 : decode cX12_token 97 = .ok (.invokevirtual 115, 3) := by decide +kernel
theorem dX12_token_100 : decode cX12_token 100 = .ok (.i2l, 1) := by decide +kernel
theorem dX12_token_101 : decode cX12_token 101 = .ok (.lor, 1) := by decide +kernel
theorem dX12_token_102 : decode cX12_token 102 = .ok (.putfield 122, 3) := by decide +kernel
theorem dX12_token_105 : decode cX12_token 105 = .ok (.aload_n 0, 1) := by decide +kernel
theorem dX12_token_106 : decode cX12_token 106 = .ok (.dup, 1) := by decide +kernel
theorem dX12_token_107 : decode cX12_token 107 = .ok (.getfield 109, 3) := by decide +kernel
theorem dX12_token_110 : decode cX12_token 110 = .ok (.iconst 1, 1) := by decide +kernel
theorem dX12_token_111 : decode cX12_token 111 = .ok (.iadd, 1) := by decide +kernel
theorem dX12_token_112 : decode cX12_token 112 = .ok (.putfield 109, 3) := by decide +kernel
theorem dX12_token_115 : decode cX12_token 115 = .ok (.iinc 2 1, 3) := by decide +kernel
theorem dX12_token_118 : decode cX12_token 118 = .ok (.goto (-44), 3) := by decide +kernel
theorem dX12_token_121 : decode cX12_token 121 = .ok (.aload_n 0, 1) := by decide +kernel
theorem dX12_token_122 : decode cX12_token 122 = .ok (.iload_n 2, 1) := by decide +kernel
theorem dX12_token_123 : decode cX12_token 123 = .ok (.bipush 8, 2) := by decide +kernel
theorem dX12_token_125 : decode cX12_token 125 = .ok (.if_icmp .le 7, 3) := by decide +kernel
theorem dX12_token_128 : decode cX12_token 128 = .ok (.lconst 0, 1) := by decide +kernel
theorem dX12_token_129 : decode cX12_token 129 = .ok (.goto 7, 3) := by decide +kernel
theorem dX12_token_132 : decode cX12_token 132 = .ok (.aload_n 0, 1) := by decide +kernel
theorem dX12_token_133 : decode cX12_token 133 = .ok (.getfield 122, 3) := by decide +kernel
theorem dX12_token_136 : decode cX12_token 136 = .ok (.putfield 122, 3) := by decide +kernel
theorem dX12_token_139 : decode cX12_token 139 = .ok (.aload_n 0, 1) := by decide +kernel
theorem dX12_token_140 : decode cX12_token 140 = .ok (.iconst 2, 1) := by decide +kernel
theorem dX12_token_141 : decode cX12_token 141 = .ok (.putfield 126, 3) := by decide +kernel
theorem dX12_token_144 : decode cX12_token 144 = .ok (.goto 122, 3) := by decide +kernel
theorem dX12_token_147 : decode cX12_token 147 = .ok (.iload_n 1, 1) := by decide +kernel
theorem dX12_token_148 : decode cX12_token 148 = .ok (.bipush 48, 2) := by decide +kernel
theorem dX12_token_150 : decode cX12_token 150 = .ok (.bipush 57, 2) := by decide +kernel
theorem dX12_token_152 : decode cX12_token 152 = .ok (.invokestatic 101, 3) := by decide +kernel
theorem dX12_token_155 : decode cX12_token 155 = .ok (.ifCond .eq 86, 3) := by decide +kernel
theorem dX12_token_158 : decode cX12_token 158 = .ok (.aload_n 0, 1) := by decide +kernel
theorem dX12_token_159 : decode cX12_token 159 = .ok (.iconst 0, 1) := by decide +kernel
theorem dX12_token_160 : decode cX12_token 160 = .ok (.putfield 129, 3) := by decide +kernel
theorem dX12_token_163 : decode cX12_token 163 = .ok (.aload_n 0, 1) := by decide +kernel
theorem dX12_token_164 : decode cX12_token 164 = .ok (.invokevirtual 115, 3) := by decide +kernel
theorem dX12_token_167 : decode cX12_token 167 = .ok (.bipush 48, 2) := by decide +kernel
theorem dX12_token_169 : decode cX12_token 169 = .ok (.bipush 57, 2) := by decide +kernel
theorem dX12_token_171 : decode cX12_token 171 = .ok (.invokestatic 101, 3) := by decide +kernel
theorem dX12_token_174 : decode cX12_token 174 = .ok (.ifCond .eq 50, 3) := by decide +kernel
theorem dX12_token_177 : decode cX12_token 177 = .ok (.aload_n 0, 1) := by decide +kernel
theorem dX12_token_178 : decode cX12_token 178 = .ok (.iload_n 2, 1) := by decide +kernel
theorem dX12_token_179 : decode cX12_token 179 = .ok (.iconst 2, 1) := by decide +kernel
theorem dX12_token_180 : decode cX12_token 180 = .ok (.if_icmp .ge 21, 3) := by decide +kernel
theorem dX12_token_183 : decode cX12_token 183 = .ok (.bipush 10, 2) := by decide +kernel
theorem dX12_token_185 : decode cX12_token 185 = .ok (.aload_n 0, 1) := by decide +kernel
theorem dX12_token_186 : decode cX12_token 186 = .ok (.getfield 129, 3) := by decide +kernel
theorem dX12_token_189 : decode cX12_token 189 = .ok (.imul, 1) := by decide +kernel
theorem dX12_token_190 : decode cX12_token 190 = .ok (.aload_n 0, 1) := by decide +kernel
theorem dX12_token_191 : decode cX12_token 191 = .ok (.invokevirtual 115, 3) := by decide +kernel
theorem dX12_token_194 : decode cX12_token 194 = .ok (.iadd, 1) := by decide +kernel
theorem dX12_token_195 : decode cX12_token 195 = .ok (.bipush 48, 2) := by decide +kernel
theorem dX12_token_197 : decode cX12_token 197 = .ok (.isub, 1) := by decide +kernel
theorem dX12_token_198 : decode cX12_token 198 = .ok (.goto 7, 3) := by decide +kernel
theorem dX12_token_201 : decode cX12_token 201 = .ok (.aload_n 0, 1) := by decide +kernel
theorem dX12_token_202 : decode cX12_token 202 = .ok (.getfield 129, 3) := by decide +kernel
theorem dX12_token_205 : decode cX12_token 205 = .ok (.putfield 129, 3) := by decide +kernel
theorem dX12_token_208 : decode cX12_token 208 = .ok (.aload_n 0, 1) := by decide +kernel
theorem dX12_token_209 : decode cX12_token 209 = .ok (.dup, 1) := by decide +kernel
theorem dX12_token_210 : decode cX12_token 210 = .ok (.getfield 109, 3) := by decide +kernel
theorem dX12_token_213 : decode cX12_token 213 = .ok (.iconst 1, 1) := by decide +kernel
theorem dX12_token_214 : decode cX12_token 214 = .ok (.iadd, 1) := by decide +kernel
theorem dX12_token_215 : decode cX12_token 215 = .ok (.putfield 109, 3) := by decide +kernel
theorem dX12_token_218 : decode cX12_token 218 = .ok (.iinc 2 1, 3) := by decide +kernel
theorem dX12_token_221 : decode cX12_token 221 = .ok (.goto (-58), 3) := by decide +kernel
theorem dX12_token_224 : decode cX12_token 224 = .ok (.aload_n 0, 1) := by decide +kernel
theorem dX12_token_225 : decode cX12_token 225 = .ok (.iload_n 2, 1) := by decide +kernel
theorem dX12_token_226 : decode cX12_token 226 = .ok (.iconst 2, 1) := by decide +kernel
theorem dX12_token_227 : decode cX12_token 227 = .ok (.if_icmp .le 7, 3) := by decide +kernel
theorem dX12_token_230 : decode cX12_token 230 = .ok (.iconst 1, 1) := by decide +kernel
theorem dX12_token_231 : decode cX12_token 231 = .ok (.goto 4, 3) := by decide +kernel
theorem dX12_token_234 : decode cX12_token 234 = .ok (.iconst 3, 1) := by decide +kernel
theorem dX12_token_235 : decode cX12_token 235 = .ok (.putfield 126, 3) := by decide +kernel
theorem dX12_token_238 : decode cX12_token 238 = .ok (.goto 28, 3) := by decide +kernel
theorem dX12_token_241 : decode cX12_token 241 = .ok (.aload_n 0, 1) := by decide +kernel
theorem dX12_token_242 : decode cX12_token 242 = .ok (.dup, 1) := by decide +kernel
theorem dX12_token_243 : decode cX12_token 243 = .ok (.getfield 109, 3) := by decide +kernel
theorem dX12_token_246 : decode cX12_token 246 = .ok (.iconst 1, 1) := by decide +kernel
theorem dX12_token_247 : decode cX12_token 247 = .ok (.iadd, 1) := by decide +kernel
theorem dX12_token_248 : decode cX12_token 248 = .ok (.putfield 109, 3) := by decide +kernel
theorem dX12_token_251 : decode cX12_token 251 = .ok (.aload_n 0, 1) := by decide +kernel
theorem dX12_token_252 : decode cX12_token 252 = .ok (.iload_n 1, 1) := by decide +kernel
theorem dX12_token_253 : decode cX12_token 253 = .ok (.bipush 59, 2) := by decide +kernel
theorem dX12_token_255 : decode cX12_token 255 = .ok (.if_icmp .ne 7, 3) := by decide +kernel
theorem dX12_token_258 : decode cX12_token 258 = .ok (.iconst 4, 1) := by decide +kernel
theorem dX12_token_259 : decode cX12_token 259 = .ok (.goto 4, 3) := by decide +kernel
theorem dX12_token_262 : decode cX12_token 262 = .ok (.iconst 1, 1) := by decide +kernel
theorem dX12_token_263 : decode cX12_token 263 = .ok (.putfield 126, 3) := by decide +kernel
theorem dX12_token_266 : decode cX12_token 266 = .ok (.return_, 1) := by decide +kernel
def fX12_token_b18x (m1 : zM) (x0 : Nat) (F2 : zM → Option (zM)) : Option (zM) :=
  zb1 (zm_gI m1 12 x0 10) fun v8 =>
  zb1 (zm_p m1 12 x0 10 (.int (v8 + 1))) fun m10 =>
  F2 m10
def fX12_token_l0 (x0 : Nat) (F2 : zM → Option (zM)) (m1 : zM) : Option (zM) :=
  zb1 (fX12_see m1 x0) fun v7 =>
  if v7 = 10 then (
  fX12_token_b18x m1 x0 F2)
  else (
  zb1 (fX12_see m1 x0) fun v14 =>
  if v14 = 32 then (
  fX12_token_b18x m1 x0 F2)
  else (
  some m1))
def fX12_token_l163x (x0 : Nat) (F42 : Int32 → zM → Option (Int32 × zM)) (x2_40 : Int32) (m41 : zM) : Option (Int32 × zM) :=
  zb1 (fX12_see m41 x0) fun v48 =>
  zb1 (fX12_in m41 v48 48 57) fun v50 =>
  if v50 = 0 then (
  some (x2_40, m41))
  else (
  zb1 (if 2 ≤ x2_40 then (
  zb1 (zm_gI m41 12 x0 14) fun v59 =>
  some v59)
  else (
  zb1 (zm_gI m41 12 x0 14) fun v61 =>
  zb1 (fX12_see m41 x0) fun v64 =>
  some (((10 * v61) + v64) - 48))) fun s51 =>
  zb1 (zm_p m41 12 x0 14 (.int s51)) fun m53 =>
  zb1 (zm_gI m53 12 x0 10) fun v55 =>
  zb1 (zm_p m53 12 x0 10 (.int (v55 + 1))) fun m57 =>
  F42 (x2_40 + 1) m57)
def fX12_token_l74x (x0 : Nat) (F72 : Int32 → zM → Option (Int32 × zM)) (x2_70 : Int32) (m71 : zM) : Option (Int32 × zM) :=
  zb1 (fX12_see m71 x0) fun v78 =>
  zb1 (fX12_in m71 v78 97 122) fun v80 =>
  if v80 = 0 then (
  some (x2_70, m71))
  else (
  zb1 (zm_gL m71 12 x0 15) fun v81 =>
  zb1 (fX12_see m71 x0) fun v84 =>
  zb1 (zm_p m71 12 x0 15 (.long ((v81 <<< ((8 : Int32).toInt64 &&& 63)) ||| ((v84 : Int32).toInt64)))) fun m85 =>
  zb1 (zm_gI m85 12 x0 10) fun v87 =>
  zb1 (zm_p m85 12 x0 10 (.int (v87 + 1))) fun m89 =>
  F72 (x2_70 + 1) m89)
def fX12_token (μ : zM) (x0 : Nat) : Option (zM) := zgd (zm_ck μ 12 x0) <|
  zb1 (zf1 (fX12_token_l0 x0) zfu μ) fun m4 =>
  zb1 (zm_gI m4 12 x0 10) fun v16 =>
  zb1 (zm_p m4 12 x0 12 (.int v16)) fun m18 =>
  zb1 (fX12_see m18 x0) fun v21 =>
  zb1 (zm_p m18 12 x0 15 (.long 0)) fun m22 =>
  zb1 (if 0 ≤ v21 then (
  zb1 (fX12_in m22 v21 97 122) fun v27 =>
  if v27 = 0 then (
  zb1 (fX12_in m22 v21 48 57) fun v29 =>
  if v29 = 0 then (
  zb1 (zm_gI m22 12 x0 10) fun v30 =>
  zb1 (zm_p m22 12 x0 10 (.int (v30 + 1))) fun m32 =>
  zb1 (if v21 = 59 then (
  some 4)
  else (
  some 1)) fun s34 =>
  zb1 (zm_p m32 12 x0 13 (.int s34)) fun m36 =>
  some m36)
  else (
  zb1 (zm_p m22 12 x0 14 (.int 0)) fun m38 =>
  zb2 (zf2 (fX12_token_l163x x0) zfu 0 m38) fun x2_44 m45 =>
  zb1 (if x2_44 ≤ 2 then (
  some 3)
  else (
  some 1)) fun s66 =>
  zb1 (zm_p m45 12 x0 13 (.int s66)) fun m68 =>
  some m68))
  else (
  zb2 (zf2 (fX12_token_l74x x0) zfu 0 m22) fun x2_74 m75 =>
  zb1 (if x2_74 ≤ 8 then (
  zb1 (zm_gL m75 12 x0 15) fun v98 =>
  some v98)
  else (
  some 0)) fun s92 =>
  zb1 (zm_p m75 12 x0 15 (.long s92)) fun m94 =>
  zb1 (zm_p m94 12 x0 13 (.int 2)) fun m96 =>
  some m96))
  else (
  zb1 (zm_p m22 12 x0 13 (.int 0)) fun m100 =>
  some m100)) fun m24 =>
  some m24
theorem fX12_token_ck {μ : zM} {x0 : Nat} {z : zM} (h : fX12_token μ x0 = some z) : zm_ck μ 12 x0 = true := (zgd_s h).1
set_option maxHeartbeats 4000000 in
set_option maxRecDepth 100000 in
theorem cX12_token_ok {μ : zM} {x0 : Nat} {mo : zM} (hf : fX12_token μ x0 = some mo) : zC yX12_token cX12_token 3 (none) 1 0 0 [.ref x0] μ (none) mo := by
  replace hf := (zgd_s hf).2
  refine zC.of (by decide) (Nat.le_of_ble_eq_true rfl) (fun K hin => ?_)
  clear hin
  show zz K cX12_token (3, RX12, none, 1, 0, 0, none, mo) 0 0 0 [(0, .ref x0)] [] μ
  replace hf := zb1_s hf
  obtain ⟨m4, hg, hf⟩ := hf
  have hj5 : zz K cX12_token (3, RX12, none, 1, 0, 0, none, mo) 0 0 31 [(0, .ref x0)] [] m4 := by
    refine zr_aload_n 0 dX12_token_31 rfl ?_
    refine zr_aload_n 0 dX12_token_32 rfl ?_
    replace hf := zb1_s hf
    obtain ⟨v16, h17, hf⟩ := hf
    refine zr_get (zm_gI_g h17) zk12 (by decide) zl_793 dX12_token_33 ?_
    replace hf := zb1_s hf
    obtain ⟨m18, h19, hf⟩ := hf
    refine zr_put h19 zk12 (by decide) zl_799 rfl rfl rfl dX12_token_36 ?_
    refine zr_aload_n 0 dX12_token_39 rfl ?_
    replace hf := zb1_s hf
    obtain ⟨v21, h20, hf⟩ := hf
    refine zr_callV (ci := 12) [] (cX12_see_ok h20) zvs_X12_see zl_797 zl_798 (fX12_see_ck h20) rfl rfl zl_796 rfl (Nat.le_of_ble_eq_true rfl) (Nat.le_of_ble_eq_true rfl) (Nat.le_of_ble_eq_true rfl) (Nat.le_of_ble_eq_true rfl) dX12_token_40 rfl ?_
    refine zr_istore_n [(1, .int v21), (0, .ref x0)] dX12_token_43 (Nat.le_of_ble_eq_true rfl) rfl ?_
    refine zr_aload_n 1 dX12_token_44 rfl ?_
    refine zr_lconst 0 dX12_token_45 (by decide) ?_
    replace hf := zb1_s hf
    obtain ⟨m22, h23, hf⟩ := hf
    refine zr_put h23 zk12 (by decide) zl_800 rfl rfl rfl dX12_token_46 ?_
    refine zr_iconst 0 dX12_token_49 (by decide) ?_
    refine zr_istore_n [(2, .int 0), (1, .int v21), (0, .ref x0)] dX12_token_50 (Nat.le_of_ble_eq_true rfl) rfl ?_
    refine zr_iload_n 1 dX12_token_51 rfl ?_
    replace hf := zb1_s hf
    obtain ⟨m24, hg, hf⟩ := hf
    have hj25 : zz K cX12_token (3, RX12, none, 1, 0, 0, none, mo) 0 0 266 [] [] m24 := by
      cases hf
      exact zr_vret dX12_token_266
    clear hf
    have hf := hg
    clear hg
    refine zr_if_ge 63 dX12_token_52 (by decide) (fun hc => ?_) (fun hc => ?_)
    · rw [if_pos hc] at hf
      refine zr_iload_n 1 dX12_token_63 rfl ?_
      refine zr_bipush 97 dX12_token_64 (by decide) ?_
      refine zr_bipush 122 dX12_token_66 (by decide) ?_
      replace hf := zb1_s hf
      obtain ⟨v27, h26, hf⟩ := hf
      refine zr_callS [.int v21, .int 97, .int 122] (cX12_in_ok h26) zvs_X12_in zl_787 zl_786 rfl (Nat.le_of_ble_eq_true rfl) (Nat.le_of_ble_eq_true rfl) (Nat.le_of_ble_eq_true rfl) (Nat.le_of_ble_eq_true rfl) dX12_token_68 rfl ?_
      refine zr_if_eq 147 dX12_token_71 (by decide) (fun hc => ?_) (fun hc => ?_)
      · rw [if_pos hc] at hf
        refine zr_iload_n 1 dX12_token_147 rfl ?_
        refine zr_bipush 48 dX12_token_148 (by decide) ?_
        refine zr_bipush 57 dX12_token_150 (by decide) ?_
        replace hf := zb1_s hf
        obtain ⟨v29, h28, hf⟩ := hf
        refine zr_callS [.int v21, .int 48, .int 57] (cX12_in_ok h28) zvs_X12_in zl_787 zl_786 rfl (Nat.le_of_ble_eq_true rfl) (Nat.le_of_ble_eq_true rfl) (Nat.le_of_ble_eq_true rfl) (Nat.le_of_ble_eq_true rfl) dX12_token_152 rfl ?_
        refine zr_if_eq 241 dX12_token_155 (by decide) (fun hc => ?_) (fun hc => ?_)
        · rw [if_pos hc] at hf
          refine zr_aload_n 2 dX12_token_241 rfl ?_
          refine zr_dup dX12_token_242 rfl ?_
          replace hf := zb1_s hf
          obtain ⟨v30, h31, hf⟩ := hf
          refine zr_get (zm_gI_g h31) zk12 (by decide) zl_793 dX12_token_243 ?_
          refine zr_iconst 1 dX12_token_246 (by decide) ?_
          refine zr_iadd dX12_token_247 ?_
          replace hf := zb1_s hf
          obtain ⟨m32, h33, hf⟩ := hf
          refine zr_put h33 zk12 (by decide) zl_793 rfl rfl rfl dX12_token_248 ?_
          refine zr_aload_n 2 dX12_token_251 rfl ?_
          refine zr_iload_n 1 dX12_token_252 rfl ?_
          refine zr_bipush 59 dX12_token_253 (by decide) ?_
          replace hf := zb1_s hf
          obtain ⟨s34, hg, hf⟩ := hf
          have hj35 : zz K cX12_token (3, RX12, none, 1, 0, 0, none, mo) 0 0 263 [] [.int s34, .ref x0] m32 := by
            replace hf := zb1_s hf
            obtain ⟨m36, h37, hf⟩ := hf
            refine zr_put h37 zk12 (by decide) zl_801 rfl rfl rfl dX12_token_263 ?_
            cases hf
            exact zr_lv [] rfl hj25
          clear hf
          have hf := hg
          clear hg
          refine zr_icmp_ne 262 dX12_token_255 (by decide) (fun hc => ?_) (fun hc => ?_)
          · rw [if_neg hc] at hf
            refine zr_iconst 1 dX12_token_262 (by decide) ?_
            cases hf
            exact zr_lv [] rfl hj35
          · rw [if_pos hc] at hf
            refine zr_iconst 4 dX12_token_258 (by decide) ?_
            refine zr_goto 263 dX12_token_259 (by decide) ?_
            cases hf
            exact zr_lv [] rfl hj35
        · rw [if_neg hc] at hf
          refine zr_aload_n 2 dX12_token_158 rfl ?_
          refine zr_iconst 0 dX12_token_159 (by decide) ?_
          replace hf := zb1_s hf
          obtain ⟨m38, h39, hf⟩ := hf
          refine zr_put h39 zk12 (by decide) zl_802 rfl rfl rfl dX12_token_160 ?_
          replace hf := zb2_s hf
          obtain ⟨x2_44, m45, hg, hf⟩ := hf
          have hj46 : zz K cX12_token (3, RX12, none, 1, 0, 0, none, mo) 0 0 224 [(0, .ref x0), (2, .int x2_44)] [] m45 := by
            refine zr_aload_n 0 dX12_token_224 rfl ?_
            refine zr_iload_n 1 dX12_token_225 rfl ?_
            refine zr_iconst 2 dX12_token_226 (by decide) ?_
            replace hf := zb1_s hf
            obtain ⟨s66, hg, hf⟩ := hf
            have hj67 : zz K cX12_token (3, RX12, none, 1, 0, 0, none, mo) 0 0 235 [] [.int s66, .ref x0] m45 := by
              replace hf := zb1_s hf
              obtain ⟨m68, h69, hf⟩ := hf
              refine zr_put h69 zk12 (by decide) zl_801 rfl rfl rfl dX12_token_235 ?_
              refine zr_goto 266 dX12_token_238 (by decide) ?_
              cases hf
              exact zr_lv [] rfl hj25
            clear hf
            have hf := hg
            clear hg
            refine zr_icmp_le 234 dX12_token_227 (by decide) (fun hc => ?_) (fun hc => ?_)
            · rw [if_pos hc] at hf
              refine zr_iconst 3 dX12_token_234 (by decide) ?_
              cases hf
              exact zr_lv [] rfl hj67
            · rw [if_neg hc] at hf
              refine zr_iconst 1 dX12_token_230 (by decide) ?_
              refine zr_goto 235 dX12_token_231 (by decide) ?_
              cases hf
              exact zr_lv [] rfl hj67
          clear hf
          have hf := hg
          clear hg
          have hL65 : ∀ (n : Nat) (x2_40 : Int32) (m41 : zM), zf2 (fX12_token_l163x x0) n x2_40 m41 = some (x2_44, m45) → zz K cX12_token (3, RX12, none, 1, 0, 0, none, mo) 0 0 163 [(0, .ref x0), (2, .int x2_40)] [] m41 := by
            intro n
            induction n with
            | zero => intro x2_40 m41 hf; cases hf
            | succ n ih43 =>
              intro x2_40 m41 hf
              replace hf := zf2_s hf
              generalize zf2 (fX12_token_l163x x0) n = F42 at hf ih43
              unfold fX12_token_l163x at hf
              refine zr_aload_n 0 dX12_token_163 rfl ?_
              replace hf := zb1_s hf
              obtain ⟨v48, h47, hf⟩ := hf
              refine zr_callV (ci := 12) [] (cX12_see_ok h47) zvs_X12_see zl_797 zl_798 (fX12_see_ck h47) rfl rfl zl_796 rfl (Nat.le_of_ble_eq_true rfl) (Nat.le_of_ble_eq_true rfl) (Nat.le_of_ble_eq_true rfl) (Nat.le_of_ble_eq_true rfl) dX12_token_164 rfl ?_
              refine zr_bipush 48 dX12_token_167 (by decide) ?_
              refine zr_bipush 57 dX12_token_169 (by decide) ?_
              replace hf := zb1_s hf
              obtain ⟨v50, h49, hf⟩ := hf
              refine zr_callS [.int v48, .int 48, .int 57] (cX12_in_ok h49) zvs_X12_in zl_787 zl_786 rfl (Nat.le_of_ble_eq_true rfl) (Nat.le_of_ble_eq_true rfl) (Nat.le_of_ble_eq_true rfl) (Nat.le_of_ble_eq_true rfl) dX12_token_171 rfl ?_
              refine zr_if_eq 224 dX12_token_174 (by decide) (fun hc => ?_) (fun hc => ?_)
              · rw [if_pos hc] at hf
                cases hf
                exact zr_lv [0, 1] rfl hj46
              · rw [if_neg hc] at hf
                refine zr_aload_n 0 dX12_token_177 rfl ?_
                refine zr_iload_n 1 dX12_token_178 rfl ?_
                refine zr_iconst 2 dX12_token_179 (by decide) ?_
                replace hf := zb1_s hf
                obtain ⟨s51, hg, hf⟩ := hf
                have hj52 : zz K cX12_token (3, RX12, none, 1, 0, 0, none, mo) 0 0 205 [(0, .ref x0), (2, .int x2_40)] [.int s51, .ref x0] m41 := by
                  replace hf := zb1_s hf
                  obtain ⟨m53, h54, hf⟩ := hf
                  refine zr_put h54 zk12 (by decide) zl_802 rfl rfl rfl dX12_token_205 ?_
                  refine zr_aload_n 0 dX12_token_208 rfl ?_
                  refine zr_dup dX12_token_209 rfl ?_
                  replace hf := zb1_s hf
                  obtain ⟨v55, h56, hf⟩ := hf
                  refine zr_get (zm_gI_g h56) zk12 (by decide) zl_793 dX12_token_210 ?_
                  refine zr_iconst 1 dX12_token_213 (by decide) ?_
                  refine zr_iadd dX12_token_214 ?_
                  replace hf := zb1_s hf
                  obtain ⟨m57, h58, hf⟩ := hf
                  refine zr_put h58 zk12 (by decide) zl_793 rfl rfl rfl dX12_token_215 ?_
                  refine zr_iinc (j := 1) (x2_40 + 1) [(2, .int (x2_40 + 1)), (0, .ref x0)] dX12_token_218 rfl rfl (Nat.le_of_ble_eq_true rfl) rfl ?_
                  refine zr_goto 163 dX12_token_221 (by decide) ?_
                  exact zr_lv [1, 0] rfl (ih43 (x2_40 + 1) m57 hf)
                clear hf
                have hf := hg
                clear hg
                refine zr_icmp_ge 201 dX12_token_180 (by decide) (fun hc => ?_) (fun hc => ?_)
                · rw [if_pos hc] at hf
                  refine zr_aload_n 0 dX12_token_201 rfl ?_
                  replace hf := zb1_s hf
                  obtain ⟨v59, h60, hf⟩ := hf
                  refine zr_get (zm_gI_g h60) zk12 (by decide) zl_802 dX12_token_202 ?_
                  cases hf
                  exact zr_lv [0, 1] rfl hj52
                · rw [if_neg hc] at hf
                  refine zr_bipush 10 dX12_token_183 (by decide) ?_
                  refine zr_aload_n 0 dX12_token_185 rfl ?_
                  replace hf := zb1_s hf
                  obtain ⟨v61, h62, hf⟩ := hf
                  refine zr_get (zm_gI_g h62) zk12 (by decide) zl_802 dX12_token_186 ?_
                  refine zr_imul dX12_token_189 ?_
                  refine zr_aload_n 0 dX12_token_190 rfl ?_
                  replace hf := zb1_s hf
                  obtain ⟨v64, h63, hf⟩ := hf
                  refine zr_callV (ci := 12) [] (cX12_see_ok h63) zvs_X12_see zl_797 zl_798 (fX12_see_ck h63) rfl rfl zl_796 rfl (Nat.le_of_ble_eq_true rfl) (Nat.le_of_ble_eq_true rfl) (Nat.le_of_ble_eq_true rfl) (Nat.le_of_ble_eq_true rfl) dX12_token_191 rfl ?_
                  refine zr_iadd dX12_token_194 ?_
                  refine zr_bipush 48 dX12_token_195 (by decide) ?_
                  refine zr_isub dX12_token_197 ?_
                  refine zr_goto 205 dX12_token_198 (by decide) ?_
                  cases hf
                  exact zr_lv [0, 1] rfl hj52
          exact zr_lv [2, 0] rfl (hL65 _ 0 m38 hf)
      · rw [if_neg hc] at hf
        replace hf := zb2_s hf
        obtain ⟨x2_74, m75, hg, hf⟩ := hf
        have hj76 : zz K cX12_token (3, RX12, none, 1, 0, 0, none, mo) 0 0 121 [(0, .ref x0), (2, .int x2_74)] [] m75 := by
          refine zr_aload_n 0 dX12_token_121 rfl ?_
          refine zr_iload_n 1 dX12_token_122 rfl ?_
          refine zr_bipush 8 dX12_token_123 (by decide) ?_
          replace hf := zb1_s hf
          obtain ⟨s92, hg, hf⟩ := hf
          have hj93 : zz K cX12_token (3, RX12, none, 1, 0, 0, none, mo) 0 0 136 [(0, .ref x0)] [.long s92, .ref x0] m75 := by
            replace hf := zb1_s hf
            obtain ⟨m94, h95, hf⟩ := hf
            refine zr_put h95 zk12 (by decide) zl_800 rfl rfl rfl dX12_token_136 ?_
            refine zr_aload_n 0 dX12_token_139 rfl ?_
            refine zr_iconst 2 dX12_token_140 (by decide) ?_
            replace hf := zb1_s hf
            obtain ⟨m96, h97, hf⟩ := hf
            refine zr_put h97 zk12 (by decide) zl_801 rfl rfl rfl dX12_token_141 ?_
            refine zr_goto 266 dX12_token_144 (by decide) ?_
            cases hf
            exact zr_lv [] rfl hj25
          clear hf
          have hf := hg
          clear hg
          refine zr_icmp_le 132 dX12_token_125 (by decide) (fun hc => ?_) (fun hc => ?_)
          · rw [if_pos hc] at hf
            refine zr_aload_n 0 dX12_token_132 rfl ?_
            replace hf := zb1_s hf
            obtain ⟨v98, h99, hf⟩ := hf
            refine zr_get (zm_gL_g h99) zk12 (by decide) zl_800 dX12_token_133 ?_
            cases hf
            exact zr_lv [0] rfl hj93
          · rw [if_neg hc] at hf
            refine zr_lconst 0 dX12_token_128 (by decide) ?_
            refine zr_goto 136 dX12_token_129 (by decide) ?_
            cases hf
            exact zr_lv [0] rfl hj93
        clear hf
        have hf := hg
        clear hg
        have hL91 : ∀ (n : Nat) (x2_70 : Int32) (m71 : zM), zf2 (fX12_token_l74x x0) n x2_70 m71 = some (x2_74, m75) → zz K cX12_token (3, RX12, none, 1, 0, 0, none, mo) 0 0 74 [(0, .ref x0), (2, .int x2_70)] [] m71 := by
          intro n
          induction n with
          | zero => intro x2_70 m71 hf; cases hf
          | succ n ih73 =>
            intro x2_70 m71 hf
            replace hf := zf2_s hf
            generalize zf2 (fX12_token_l74x x0) n = F72 at hf ih73
            unfold fX12_token_l74x at hf
            refine zr_aload_n 0 dX12_token_74 rfl ?_
            replace hf := zb1_s hf
            obtain ⟨v78, h77, hf⟩ := hf
            refine zr_callV (ci := 12) [] (cX12_see_ok h77) zvs_X12_see zl_797 zl_798 (fX12_see_ck h77) rfl rfl zl_796 rfl (Nat.le_of_ble_eq_true rfl) (Nat.le_of_ble_eq_true rfl) (Nat.le_of_ble_eq_true rfl) (Nat.le_of_ble_eq_true rfl) dX12_token_75 rfl ?_
            refine zr_bipush 97 dX12_token_78 (by decide) ?_
            refine zr_bipush 122 dX12_token_80 (by decide) ?_
            replace hf := zb1_s hf
            obtain ⟨v80, h79, hf⟩ := hf
            refine zr_callS [.int v78, .int 97, .int 122] (cX12_in_ok h79) zvs_X12_in zl_787 zl_786 rfl (Nat.le_of_ble_eq_true rfl) (Nat.le_of_ble_eq_true rfl) (Nat.le_of_ble_eq_true rfl) (Nat.le_of_ble_eq_true rfl) dX12_token_82 rfl ?_
            refine zr_if_eq 121 dX12_token_85 (by decide) (fun hc => ?_) (fun hc => ?_)
            · rw [if_pos hc] at hf
              cases hf
              exact zr_lv [0, 1] rfl hj76
            · rw [if_neg hc] at hf
              refine zr_aload_n 0 dX12_token_88 rfl ?_
              refine zr_aload_n 0 dX12_token_89 rfl ?_
              replace hf := zb1_s hf
              obtain ⟨v81, h82, hf⟩ := hf
              refine zr_get (zm_gL_g h82) zk12 (by decide) zl_800 dX12_token_90 ?_
              refine zr_bipush 8 dX12_token_93 (by decide) ?_
              refine zr_lshl dX12_token_95 ?_
              refine zr_aload_n 0 dX12_token_96 rfl ?_
              replace hf := zb1_s hf
              obtain ⟨v84, h83, hf⟩ := hf
              refine zr_callV (ci := 12) [] (cX12_see_ok h83) zvs_X12_see zl_797 zl_798 (fX12_see_ck h83) rfl rfl zl_796 rfl (Nat.le_of_ble_eq_true rfl) (Nat.le_of_ble_eq_true rfl) (Nat.le_of_ble_eq_true rfl) (Nat.le_of_ble_eq_true rfl) dX12_token_97 rfl ?_
              refine zr_i2l dX12_token_100 ?_
              refine zr_lor dX12_token_101 ?_
              replace hf := zb1_s hf
              obtain ⟨m85, h86, hf⟩ := hf
              refine zr_put h86 zk12 (by decide) zl_800 rfl rfl rfl dX12_token_102 ?_
              refine zr_aload_n 0 dX12_token_105 rfl ?_
              refine zr_dup dX12_token_106 rfl ?_
              replace hf := zb1_s hf
              obtain ⟨v87, h88, hf⟩ := hf
              refine zr_get (zm_gI_g h88) zk12 (by decide) zl_793 dX12_token_107 ?_
              refine zr_iconst 1 dX12_token_110 (by decide) ?_
              refine zr_iadd dX12_token_111 ?_
              replace hf := zb1_s hf
              obtain ⟨m89, h90, hf⟩ := hf
              refine zr_put h90 zk12 (by decide) zl_793 rfl rfl rfl dX12_token_112 ?_
              refine zr_iinc (j := 1) (x2_70 + 1) [(2, .int (x2_70 + 1)), (0, .ref x0)] dX12_token_115 rfl rfl (Nat.le_of_ble_eq_true rfl) rfl ?_
              refine zr_goto 74 dX12_token_118 (by decide) ?_
              exact zr_lv [1, 0] rfl (ih73 (x2_70 + 1) m89 hf)
        exact zr_lv [2, 0] rfl (hL91 _ 0 m22 hf)
    · rw [if_neg hc] at hf
      refine zr_aload_n 2 dX12_token_55 rfl ?_
      refine zr_iconst 0 dX12_token_56 (by decide) ?_
      replace hf := zb1_s hf
      obtain ⟨m100, h101, hf⟩ := hf
      refine zr_put h101 zk12 (by decide) zl_801 rfl rfl rfl dX12_token_57 ?_
      refine zr_goto 266 dX12_token_60 (by decide) ?_
      cases hf
      exact zr_lv [] rfl hj25
  clear hf
  have hf := hg
  clear hg
  have hL15 : ∀ (n : Nat) (m1 : zM), zf1 (fX12_token_l0 x0) n m1 = some m4 → zz K cX12_token (3, RX12, none, 1, 0, 0, none, mo) 0 0 0 [(0, .ref x0)] [] m1 := by
    intro n
    induction n with
    | zero => intro m1 hf; cases hf
    | succ n ih3 =>
      intro m1 hf
      replace hf := zf1_s hf
      generalize zf1 (fX12_token_l0 x0) n = F2 at hf ih3
      unfold fX12_token_l0 at hf
      refine zr_aload_n 0 dX12_token_0 rfl ?_
      replace hf := zb1_s hf
      obtain ⟨v7, h6, hf⟩ := hf
      refine zr_callV (ci := 12) [] (cX12_see_ok h6) zvs_X12_see zl_797 zl_798 (fX12_see_ck h6) rfl rfl zl_796 rfl (Nat.le_of_ble_eq_true rfl) (Nat.le_of_ble_eq_true rfl) (Nat.le_of_ble_eq_true rfl) (Nat.le_of_ble_eq_true rfl) dX12_token_1 rfl ?_
      refine zr_bipush 10 dX12_token_4 (by decide) ?_
      have hb12 : ∀ (_ : Unit), fX12_token_b18x m1 x0 F2 = some m4 → zz K cX12_token (3, RX12, none, 1, 0, 0, none, mo) 0 0 18 [(0, .ref x0)] [] m1 := by
        intro _ hf
        unfold fX12_token_b18x at hf
        refine zr_aload_n 0 dX12_token_18 rfl ?_
        refine zr_dup dX12_token_19 rfl ?_
        replace hf := zb1_s hf
        obtain ⟨v8, h9, hf⟩ := hf
        refine zr_get (zm_gI_g h9) zk12 (by decide) zl_793 dX12_token_20 ?_
        refine zr_iconst 1 dX12_token_23 (by decide) ?_
        refine zr_iadd dX12_token_24 ?_
        replace hf := zb1_s hf
        obtain ⟨m10, h11, hf⟩ := hf
        refine zr_put h11 zk12 (by decide) zl_793 rfl rfl rfl dX12_token_25 ?_
        refine zr_goto 0 dX12_token_28 (by decide) ?_
        exact zr_lv [0] rfl (ih3 m10 hf)
      refine zr_icmp_eq 18 dX12_token_6 (by decide) (fun hc => ?_) (fun hc => ?_)
      · rw [if_pos hc] at hf
        exact zr_lv [0] rfl (hb12 () hf)
      · rw [if_neg hc] at hf
        refine zr_aload_n 0 dX12_token_9 rfl ?_
        replace hf := zb1_s hf
        obtain ⟨v14, h13, hf⟩ := hf
        refine zr_callV (ci := 12) [] (cX12_see_ok h13) zvs_X12_see zl_797 zl_798 (fX12_see_ck h13) rfl rfl zl_796 rfl (Nat.le_of_ble_eq_true rfl) (Nat.le_of_ble_eq_true rfl) (Nat.le_of_ble_eq_true rfl) (Nat.le_of_ble_eq_true rfl) dX12_token_10 rfl ?_
        refine zr_bipush 32 dX12_token_13 (by decide) ?_
        refine zr_icmp_ne 31 dX12_token_15 (by decide) (fun hc => ?_) (fun hc => ?_)
        · rw [if_neg hc] at hf
          cases hf
          exact zr_lv [0] rfl hj5
        · rw [if_pos hc] at hf
          exact zr_lv [0] rfl (hb12 () hf)
  exact zr_lv [0] rfl (hL15 _ μ hf)
theorem zl_803 : Cond.fieldLink RX12 132 "TwoEchoesModel" "wrongAt" "I" ∈ zt := zt_at 1357 (by decide +kernel)
theorem dX12_fails_0 : decode cX12_fails 0 = .ok (.aload_n 0, 1) := by decide +kernel
theorem dX12_fails_1 : decode cX12_fails 1 = .ok (.aload_n 0, 1) := by decide +kernel
theorem dX12_fails_2 : decode cX12_fails 2 = .ok (.getfield 119, 3) := by decide +kernel
theorem dX12_fails_5 : decode cX12_fails 5 = .ok (.putfield 132, 3) := by decide +kernel
theorem dX12_fails_8 : decode cX12_fails 8 = .ok (.iconst 0, 1) := by decide +kernel
theorem dX12_fails_9 : decode cX12_fails 9 = .ok (.ireturn, 1) := by decide +kernel
def fX12_fails (μ : zM) (x0 : Nat) : Option (Int32 × zM) := zgd (zm_ck μ 12 x0) <|
  zb1 (zm_gI μ 12 x0 12) fun v1 =>
  zb1 (zm_p μ 12 x0 16 (.int v1)) fun m3 =>
  some (0, m3)
theorem fX12_fails_ck {μ : zM} {x0 : Nat} {z : Int32 × zM} (h : fX12_fails μ x0 = some z) : zm_ck μ 12 x0 = true := (zgd_s h).1
set_option maxHeartbeats 4000000 in
set_option maxRecDepth 100000 in
theorem cX12_fails_ok {μ : zM} {x0 : Nat} {r : Int32} {mo : zM} (hf : fX12_fails μ x0 = some (r, mo)) : zC yX12_fails cX12_fails 1 (some .boolean) 0 0 0 [.ref x0] μ (some (.int r)) mo := by
  replace hf := (zgd_s hf).2
  refine zC.of (by decide) (Nat.le_of_ble_eq_true rfl) (fun K hin => ?_)
  clear hin
  show zz K cX12_fails (1, RX12, some .boolean, 0, 0, 0, some (.int r), mo) 0 0 0 [(0, .ref x0)] [] μ
  refine zr_aload_n 0 dX12_fails_0 rfl ?_
  refine zr_aload_n 0 dX12_fails_1 rfl ?_
  replace hf := zb1_s hf
  obtain ⟨v1, h2, hf⟩ := hf
  refine zr_get (zm_gI_g h2) zk12 (by decide) zl_799 dX12_fails_2 ?_
  replace hf := zb1_s hf
  obtain ⟨m3, h4, hf⟩ := hf
  refine zr_put h4 zk12 (by decide) zl_803 rfl rfl rfl dX12_fails_5 ?_
  refine zr_iconst 0 dX12_fails_8 (by decide) ?_
  cases hf
  exact zr_zret rfl dX12_fails_9
theorem zl_804 : Cond.fieldLink RX12 135 "TwoEchoesModel" "laterFault" "I" ∈ zt := zt_at 1358 (by decide +kernel)
theorem zl_805 : Cond.fieldLink RX12 138 "TwoEchoesModel" "laterPlace" "I" ∈ zt := zt_at 1359 (by decide +kernel)
theorem dX12_later_0 : decode cX12_later 0 = .ok (.aload_n 0, 1) := by decide +kernel
theorem dX12_later_1 : decode cX12_later 1 = .ok (.getfield 135, 3) := by decide +kernel
theorem dX12_later_4 : decode cX12_later 4 = .ok (.ifCond .eq 27, 3) := by decide +kernel
theorem dX12_later_7 : decode cX12_later 7 = .ok (.iload_n 2, 1) := by decide +kernel
theorem dX12_later_8 : decode cX12_later 8 = .ok (.aload_n 0, 1) := by decide +kernel
theorem dX12_later_9 : decode cX12_later 9 = .ok (.getfield 138, 3) := by decide +kernel
theorem dX12_later_12 : decode cX12_later 12 = .ok (.if_icmp .lt 19, 3) := by decide +kernel
theorem dX12_later_15 : decode cX12_later 15 = .ok (.iload_n 2, 1) := by decide +kernel
theorem dX12_later_16 : decode cX12_later 16 = .ok (.aload_n 0, 1) := by decide +kernel
theorem dX12_later_17 : decode cX12_later 17 = .ok (.getfield 138, 3) := by decide +kernel
theorem dX12_later_20 : decode cX12_later 20 = .ok (.if_icmp .ne 21, 3) := by decide +kernel
theorem dX12_later_23 : decode cX12_later 23 = .ok (.iload_n 1, 1) := by decide +kernel
theorem dX12_later_24 : decode cX12_later 24 = .ok (.aload_n 0, 1) := by decide +kernel
theorem dX12_later_25 : decode cX12_later 25 = .ok (.getfield 135, 3) := by decide +kernel
theorem dX12_later_28 : decode cX12_later 28 = .ok (.if_icmp .ge 13, 3) := by decide +kernel
theorem dX12_later_31 : decode cX12_later 31 = .ok (.aload_n 0, 1) := by decide +kernel
theorem dX12_later_32 : decode cX12_later 32 = .ok (.iload_n 1, 1) := by decide +kernel
theorem dX12_later_33 : decode cX12_later 33 = .ok (.putfield 135, 3) := by decide +kernel
theorem dX12_later_36 : decode cX12_later 36 = .ok (.aload_n 0, 1) := by decide +kernel
theorem dX12_later_37 : decode cX12_later 37 = .ok (.iload_n 2, 1) := by decide +kernel
theorem dX12_later_38 : decode cX12_later 38 = .ok (.putfield 138, 3) := by decide +kernel
theorem dX12_later_41 : decode cX12_later 41 = .ok (.return_, 1) := by decide +kernel
def fX12_later (μ : zM) (x0 : Nat) (x1 : Int32) (x2 : Int32) : Option (zM) := zgd (zm_ck μ 12 x0) <|
  zb1 (zm_gI μ 12 x0 17) fun v1 =>
  zb1 (if v1 = 0 then (
  zb1 (zm_p μ 12 x0 17 (.int x1)) fun m5 =>
  zb1 (zm_p m5 12 x0 18 (.int x2)) fun m7 =>
  some m7)
  else (
  zb1 (zm_gI μ 12 x0 18) fun v9 =>
  if x2 < v9 then (
  zb1 (zm_p μ 12 x0 17 (.int x1)) fun m11 =>
  zb1 (zm_p m11 12 x0 18 (.int x2)) fun m13 =>
  some m13)
  else (
  zb1 (zm_gI μ 12 x0 18) fun v15 =>
  if x2 = v15 then (
  zb1 (zm_gI μ 12 x0 17) fun v17 =>
  if v17 ≤ x1 then (
  some μ)
  else (
  zb1 (zm_p μ 12 x0 17 (.int x1)) fun m19 =>
  zb1 (zm_p m19 12 x0 18 (.int x2)) fun m21 =>
  some m21))
  else (
  some μ)))) fun m3 =>
  some m3
theorem fX12_later_ck {μ : zM} {x0 : Nat} {x1 : Int32} {x2 : Int32} {z : zM} (h : fX12_later μ x0 x1 x2 = some z) : zm_ck μ 12 x0 = true := (zgd_s h).1
set_option maxHeartbeats 4000000 in
set_option maxRecDepth 100000 in
theorem cX12_later_ok {μ : zM} {x0 : Nat} {x1 : Int32} {x2 : Int32} {mo : zM} (hf : fX12_later μ x0 x1 x2 = some mo) : zC yX12_later cX12_later 3 (none) 0 0 0 [.ref x0, .int x1, .int x2] μ (none) mo := by
  replace hf := (zgd_s hf).2
  refine zC.of (by decide) (Nat.le_of_ble_eq_true rfl) (fun K hin => ?_)
  clear hin
  show zz K cX12_later (3, RX12, none, 0, 0, 0, none, mo) 0 0 0 [(0, .ref x0), (1, .int x1), (2, .int x2)] [] μ
  refine zr_aload_n 0 dX12_later_0 rfl ?_
  replace hf := zb1_s hf
  obtain ⟨v1, h2, hf⟩ := hf
  refine zr_get (zm_gI_g h2) zk12 (by decide) zl_804 dX12_later_1 ?_
  replace hf := zb1_s hf
  obtain ⟨m3, hg, hf⟩ := hf
  have hj4 : zz K cX12_later (3, RX12, none, 0, 0, 0, none, mo) 0 0 41 [] [] m3 := by
    cases hf
    exact zr_vret dX12_later_41
  clear hf
  have hf := hg
  clear hg
  refine zr_if_eq 31 dX12_later_4 (by decide) (fun hc => ?_) (fun hc => ?_)
  · rw [if_pos hc] at hf
    refine zr_aload_n 0 dX12_later_31 rfl ?_
    refine zr_iload_n 1 dX12_later_32 rfl ?_
    replace hf := zb1_s hf
    obtain ⟨m5, h6, hf⟩ := hf
    refine zr_put h6 zk12 (by decide) zl_804 rfl rfl rfl dX12_later_33 ?_
    refine zr_aload_n 0 dX12_later_36 rfl ?_
    refine zr_iload_n 2 dX12_later_37 rfl ?_
    replace hf := zb1_s hf
    obtain ⟨m7, h8, hf⟩ := hf
    refine zr_put h8 zk12 (by decide) zl_805 rfl rfl rfl dX12_later_38 ?_
    cases hf
    exact zr_lv [] rfl hj4
  · rw [if_neg hc] at hf
    refine zr_iload_n 2 dX12_later_7 rfl ?_
    refine zr_aload_n 0 dX12_later_8 rfl ?_
    replace hf := zb1_s hf
    obtain ⟨v9, h10, hf⟩ := hf
    refine zr_get (zm_gI_g h10) zk12 (by decide) zl_805 dX12_later_9 ?_
    refine zr_icmp_lt 31 dX12_later_12 (by decide) (fun hc => ?_) (fun hc => ?_)
    · rw [if_pos hc] at hf
      refine zr_aload_n 0 dX12_later_31 rfl ?_
      refine zr_iload_n 1 dX12_later_32 rfl ?_
      replace hf := zb1_s hf
      obtain ⟨m11, h12, hf⟩ := hf
      refine zr_put h12 zk12 (by decide) zl_804 rfl rfl rfl dX12_later_33 ?_
      refine zr_aload_n 0 dX12_later_36 rfl ?_
      refine zr_iload_n 2 dX12_later_37 rfl ?_
      replace hf := zb1_s hf
      obtain ⟨m13, h14, hf⟩ := hf
      refine zr_put h14 zk12 (by decide) zl_805 rfl rfl rfl dX12_later_38 ?_
      cases hf
      exact zr_lv [] rfl hj4
    · rw [if_neg hc] at hf
      refine zr_iload_n 2 dX12_later_15 rfl ?_
      refine zr_aload_n 0 dX12_later_16 rfl ?_
      replace hf := zb1_s hf
      obtain ⟨v15, h16, hf⟩ := hf
      refine zr_get (zm_gI_g h16) zk12 (by decide) zl_805 dX12_later_17 ?_
      refine zr_icmp_ne 41 dX12_later_20 (by decide) (fun hc => ?_) (fun hc => ?_)
      · rw [if_neg hc] at hf
        cases hf
        exact zr_lv [] rfl hj4
      · rw [if_pos hc] at hf
        refine zr_iload_n 1 dX12_later_23 rfl ?_
        refine zr_aload_n 0 dX12_later_24 rfl ?_
        replace hf := zb1_s hf
        obtain ⟨v17, h18, hf⟩ := hf
        refine zr_get (zm_gI_g h18) zk12 (by decide) zl_804 dX12_later_25 ?_
        refine zr_icmp_ge 41 dX12_later_28 (by decide) (fun hc => ?_) (fun hc => ?_)
        · rw [if_pos hc] at hf
          cases hf
          exact zr_lv [] rfl hj4
        · rw [if_neg hc] at hf
          refine zr_aload_n 0 dX12_later_31 rfl ?_
          refine zr_iload_n 1 dX12_later_32 rfl ?_
          replace hf := zb1_s hf
          obtain ⟨m19, h20, hf⟩ := hf
          refine zr_put h20 zk12 (by decide) zl_804 rfl rfl rfl dX12_later_33 ?_
          refine zr_aload_n 0 dX12_later_36 rfl ?_
          refine zr_iload_n 2 dX12_later_37 rfl ?_
          replace hf := zb1_s hf
          obtain ⟨m21, h22, hf⟩ := hf
          refine zr_put h22 zk12 (by decide) zl_805 rfl rfl rfl dX12_later_38 ?_
          cases hf
          exact zr_lv [] rfl hj4
theorem zl_806 : Cond.code yX12_token cX12_token 3 (none) ∈ zt := zt_at 1539 (by decide +kernel)
theorem zvs_X12_token : zvS yX12_token cX12_token 3 (none) 0 := ⟨zl_806, zl_782, ⟨by decide +kernel, by decide +kernel, by decide +kernel⟩, by decide⟩
theorem zl_807 : Cond.methodLink RX12 153 yX12_token ∈ zt := zt_at 1536 (by decide +kernel)
theorem zl_808 : Cond.instanceMethod yX12_token ∈ zt := zt_at 1538 (by decide +kernel)
theorem zl_809 : Cond.selects RX12 yX12_token yX12_token ∈ zt := zt_at 51 (by decide +kernel)
theorem zl_810 : Cond.code yX12_later cX12_later 3 (none) ∈ zt := zt_at 1579 (by decide +kernel)
theorem zvs_X12_later : zvS yX12_later cX12_later 3 (none) 2 := ⟨zl_810, zl_782, ⟨by decide +kernel, by decide +kernel, by decide +kernel⟩, by decide⟩
theorem zl_811 : Cond.methodLink RX12 145 yX12_later ∈ zt := zt_at 1576 (by decide +kernel)
theorem zl_812 : Cond.instanceMethod yX12_later ∈ zt := zt_at 1578 (by decide +kernel)
theorem zl_813 : Cond.selects RX12 yX12_later yX12_later ∈ zt := zt_at 58 (by decide +kernel)
theorem zl_814 : Cond.fieldLink RX12 149 "TwoEchoesModel" "good" "Z" ∈ zt := zt_at 1363 (by decide +kernel)
theorem zl_815 : Cond.code yX12_fails cX12_fails 1 (some .boolean) ∈ zt := zt_at 1571 (by decide +kernel)
theorem zvs_X12_fails : zvS yX12_fails cX12_fails 1 (some .boolean) 0 := ⟨zl_815, zl_782, ⟨by decide +kernel, by decide +kernel, by decide +kernel⟩, by decide⟩
theorem zl_816 : Cond.methodLink RX12 141 yX12_fails ∈ zt := zt_at 1568 (by decide +kernel)
theorem zl_817 : Cond.instanceMethod yX12_fails ∈ zt := zt_at 1570 (by decide +kernel)
theorem zl_818 : Cond.selects RX12 yX12_fails yX12_fails ∈ zt := zt_at 56 (by decide +kernel)
theorem dX12_take_0 : decode cX12_take 0 = .ok (.aload_n 0, 1) := by decide +kernel
theorem dX12_take_1 : decode cX12_take 1 = .ok (.getfield 126, 3) := by decide +kernel
theorem dX12_take_4 : decode cX12_take 4 = .ok (.iconst 3, 1) := by decide +kernel
theorem dX12_take_5 : decode cX12_take 5 = .ok (.if_icmp .eq 8, 3) := by decide +kernel
theorem dX12_take_8 : decode cX12_take 8 = .ok (.aload_n 0, 1) := by decide +kernel
theorem dX12_take_9 : decode cX12_take 9 = .ok (.invokevirtual 141, 3) := by decide +kernel
theorem dX12_take_12 : decode cX12_take 12 = .ok (.ireturn, 1) := by decide +kernel
theorem dX12_take_13 : decode cX12_take 13 = .ok (.aload_n 0, 1) := by decide +kernel
theorem dX12_take_14 : decode cX12_take 14 = .ok (.getfield 41, 3) := by decide +kernel
theorem dX12_take_17 : decode cX12_take 17 = .ok (.iload_n 1, 1) := by decide +kernel
theorem dX12_take_18 : decode cX12_take 18 = .ok (.aload_n 0, 1) := by decide +kernel
theorem dX12_take_19 : decode cX12_take 19 = .ok (.getfield 129, 3) := by decide +kernel
theorem dX12_take_22 : decode cX12_take 22 = .ok (.iastore, 1) := by decide +kernel
theorem dX12_take_23 : decode cX12_take 23 = .ok (.aload_n 0, 1) := by decide +kernel
theorem dX12_take_24 : decode cX12_take 24 = .ok (.getfield 129, 3) := by decide +kernel
theorem dX12_take_27 : decode cX12_take 27 = .ok (.iload_n 2, 1) := by decide +kernel
theorem dX12_take_28 : decode cX12_take 28 = .ok (.iload_n 3, 1) := by decide +kernel
theorem dX12_take_29 : decode cX12_take 29 = .ok (.invokestatic 101, 3) := by decide +kernel
theorem dX12_take_32 : decode cX12_take 32 = .ok (.ifCond .ne 17, 3) := by decide +kernel
theorem dX12_take_35 : decode cX12_take 35 = .ok (.aload_n 0, 1) := by decide +kernel
theorem dX12_take_36 : decode cX12_take 36 = .ok (.iconst 2, 1) := by decide +kernel
theorem dX12_take_37 : decode cX12_take 37 = .ok (.aload_n 0, 1) := by decide +kernel
theorem dX12_take_38 : decode cX12_take 38 = .ok (.getfield 119, 3) := by decide +kernel
theorem dX12_take_41 : decode cX12_take 41 = .ok (.invokevirtual 145, 3) := by decide +kernel
theorem dX12_take_44 : decode cX12_take 44 = .ok (.aload_n 0, 1) := by decide +kernel
theorem dX12_take_45 : decode cX12_take 45 = .ok (.iconst 0, 1) := by decide +kernel
theorem dX12_take_46 : decode cX12_take 46 = .ok (.putfield 149, 3) := by decide +kernel
theorem dX12_take_49 : decode cX12_take 49 = .ok (.aload_n 0, 1) := by decide +kernel
theorem dX12_take_50 : decode cX12_take 50 = .ok (.invokevirtual 153, 3) := by decide +kernel
theorem dX12_take_53 : decode cX12_take 53 = .ok (.iconst 1, 1) := by decide +kernel
theorem dX12_take_54 : decode cX12_take 54 = .ok (.ireturn, 1) := by decide +kernel
def fX12_take (μ : zM) (x0 : Nat) (x1 : Int32) (x2 : Int32) (x3 : Int32) : Option (Int32 × zM) := zgd (zm_ck μ 12 x0) <|
  zb1 (zm_gI μ 12 x0 13) fun v1 =>
  if v1 = 3 then (
  zb1 (zm_gR μ 12 x0 20) fun v3 =>
  zb1 (zm_gI μ 12 x0 14) fun v5 =>
  zb1 (zm_sI μ 0 v3 x1 v5) fun m7 =>
  zb1 (zm_gI m7 12 x0 14) fun v9 =>
  zb1 (fX12_in m7 v9 x2 x3) fun v12 =>
  zb1 (if v12 = 0 then (
  zb1 (zm_gI m7 12 x0 12) fun v17 =>
  zb1 (fX12_later m7 x0 2 v17) fun m20 =>
  zb1 (zm_p m20 12 x0 22 (.int 0)) fun m21 =>
  some m21)
  else (
  some m7)) fun m13 =>
  zb1 (fX12_token m13 x0) fun m16 =>
  some (1, m16))
  else (
  zb2 (fX12_fails μ x0) fun v25 m24 =>
  zb1 (zbz v25) fun v26 =>
  some (v26, m24))
theorem fX12_take_ck {μ : zM} {x0 : Nat} {x1 : Int32} {x2 : Int32} {x3 : Int32} {z : Int32 × zM} (h : fX12_take μ x0 x1 x2 x3 = some z) : zm_ck μ 12 x0 = true := (zgd_s h).1
set_option maxHeartbeats 4000000 in
set_option maxRecDepth 100000 in
theorem cX12_take_ok {μ : zM} {x0 : Nat} {x1 : Int32} {x2 : Int32} {x3 : Int32} {r : Int32} {mo : zM} (hf : fX12_take μ x0 x1 x2 x3 = some (r, mo)) : zC yX12_take cX12_take 4 (some .boolean) 2 0 0 [.ref x0, .int x1, .int x2, .int x3] μ (some (.int r)) mo := by
  replace hf := (zgd_s hf).2
  refine zC.of (by decide) (Nat.le_of_ble_eq_true rfl) (fun K hin => ?_)
  clear hin
  show zz K cX12_take (4, RX12, some .boolean, 2, 0, 0, some (.int r), mo) 0 0 0 [(0, .ref x0), (1, .int x1), (2, .int x2), (3, .int x3)] [] μ
  refine zr_aload_n 0 dX12_take_0 rfl ?_
  replace hf := zb1_s hf
  obtain ⟨v1, h2, hf⟩ := hf
  refine zr_get (zm_gI_g h2) zk12 (by decide) zl_801 dX12_take_1 ?_
  refine zr_iconst 3 dX12_take_4 (by decide) ?_
  refine zr_icmp_eq 13 dX12_take_5 (by decide) (fun hc => ?_) (fun hc => ?_)
  · rw [if_pos hc] at hf
    refine zr_aload_n 0 dX12_take_13 rfl ?_
    replace hf := zb1_s hf
    obtain ⟨v3, h4, hf⟩ := hf
    refine zr_get (zm_gR_g h4) zk12 (by decide) zl_763 dX12_take_14 ?_
    refine zr_iload_n 1 dX12_take_17 rfl ?_
    refine zr_aload_n 0 dX12_take_18 rfl ?_
    replace hf := zb1_s hf
    obtain ⟨v5, h6, hf⟩ := hf
    refine zr_get (zm_gI_g h6) zk12 (by decide) zl_802 dX12_take_19 ?_
    replace hf := zb1_s hf
    obtain ⟨m7, h8, hf⟩ := hf
    refine zr_iast h8 dX12_take_22 ?_
    refine zr_aload_n 0 dX12_take_23 rfl ?_
    replace hf := zb1_s hf
    obtain ⟨v9, h10, hf⟩ := hf
    refine zr_get (zm_gI_g h10) zk12 (by decide) zl_802 dX12_take_24 ?_
    refine zr_iload_n 2 dX12_take_27 rfl ?_
    refine zr_iload_n 3 dX12_take_28 rfl ?_
    replace hf := zb1_s hf
    obtain ⟨v12, h11, hf⟩ := hf
    refine zr_callS [.int v9, .int x2, .int x3] (cX12_in_ok h11) zvs_X12_in zl_787 zl_786 rfl (Nat.le_of_ble_eq_true rfl) (Nat.le_of_ble_eq_true rfl) (Nat.le_of_ble_eq_true rfl) (Nat.le_of_ble_eq_true rfl) dX12_take_29 rfl ?_
    replace hf := zb1_s hf
    obtain ⟨m13, hg, hf⟩ := hf
    have hj14 : zz K cX12_take (4, RX12, some .boolean, 2, 0, 0, some (.int r), mo) 0 0 49 [(0, .ref x0)] [] m13 := by
      refine zr_aload_n 0 dX12_take_49 rfl ?_
      replace hf := zb1_s hf
      obtain ⟨m16, h15, hf⟩ := hf
      refine zr_callV (ci := 12) [] (cX12_token_ok h15) zvs_X12_token zl_808 zl_809 (fX12_token_ck h15) rfl rfl zl_807 rfl (Nat.le_of_ble_eq_true rfl) (Nat.le_of_ble_eq_true rfl) (Nat.le_of_ble_eq_true rfl) (Nat.le_of_ble_eq_true rfl) dX12_take_50 rfl ?_
      refine zr_iconst 1 dX12_take_53 (by decide) ?_
      cases hf
      exact zr_zret rfl dX12_take_54
    clear hf
    have hf := hg
    clear hg
    refine zr_if_ne 49 dX12_take_32 (by decide) (fun hc => ?_) (fun hc => ?_)
    · rw [if_neg hc] at hf
      cases hf
      exact zr_lv [0] rfl hj14
    · rw [if_pos hc] at hf
      refine zr_aload_n 0 dX12_take_35 rfl ?_
      refine zr_iconst 2 dX12_take_36 (by decide) ?_
      refine zr_aload_n 0 dX12_take_37 rfl ?_
      replace hf := zb1_s hf
      obtain ⟨v17, h18, hf⟩ := hf
      refine zr_get (zm_gI_g h18) zk12 (by decide) zl_799 dX12_take_38 ?_
      replace hf := zb1_s hf
      obtain ⟨m20, h19, hf⟩ := hf
      refine zr_callV (ci := 12) [.int 2, .int v17] (cX12_later_ok h19) zvs_X12_later zl_812 zl_813 (fX12_later_ck h19) rfl rfl zl_811 rfl (Nat.le_of_ble_eq_true rfl) (Nat.le_of_ble_eq_true rfl) (Nat.le_of_ble_eq_true rfl) (Nat.le_of_ble_eq_true rfl) dX12_take_41 rfl ?_
      refine zr_aload_n 0 dX12_take_44 rfl ?_
      refine zr_iconst 0 dX12_take_45 (by decide) ?_
      replace hf := zb1_s hf
      obtain ⟨m21, h22, hf⟩ := hf
      refine zr_put h22 zk12 (by decide) zl_814 rfl (by decide) (by decide) dX12_take_46 ?_
      cases hf
      exact zr_lv [0] rfl hj14
  · rw [if_neg hc] at hf
    refine zr_aload_n 0 dX12_take_8 rfl ?_
    replace hf := zb2_s hf
    obtain ⟨v25, m24, h23, hf⟩ := hf
    refine zr_callV (ci := 12) [] (cX12_fails_ok h23) zvs_X12_fails zl_817 zl_818 (fX12_fails_ck h23) rfl rfl zl_816 rfl (Nat.le_of_ble_eq_true rfl) (Nat.le_of_ble_eq_true rfl) (Nat.le_of_ble_eq_true rfl) (Nat.le_of_ble_eq_true rfl) dX12_take_9 rfl ?_
    replace hf := zb1_s hf
    obtain ⟨v26, hn27, hf⟩ := hf
    obtain ⟨hn27, rfl⟩ := zbz_s hn27
    cases hf
    exact zr_zret hn27 dX12_take_12
theorem dX12_full_0 : decode cX12_full 0 = .ok (.aload_n 0, 1) := by decide +kernel
theorem dX12_full_1 : decode cX12_full 1 = .ok (.getfield 38, 3) := by decide +kernel
theorem dX12_full_4 : decode cX12_full 4 = .ok (.iload_n 1, 1) := by decide +kernel
theorem dX12_full_5 : decode cX12_full 5 = .ok (.iaload, 1) := by decide +kernel
theorem dX12_full_6 : decode cX12_full 6 = .ok (.iload_n 2, 1) := by decide +kernel
theorem dX12_full_7 : decode cX12_full 7 = .ok (.if_icmp .ne 9, 3) := by decide +kernel
theorem dX12_full_10 : decode cX12_full 10 = .ok (.aload_n 0, 1) := by decide +kernel
theorem dX12_full_11 : decode cX12_full 11 = .ok (.iconst 3, 1) := by decide +kernel
theorem dX12_full_12 : decode cX12_full 12 = .ok (.iload_n 3, 1) := by decide +kernel
theorem dX12_full_13 : decode cX12_full 13 = .ok (.invokevirtual 145, 3) := by decide +kernel
theorem dX12_full_16 : decode cX12_full 16 = .ok (.return_, 1) := by decide +kernel
def fX12_full (μ : zM) (x0 : Nat) (x1 : Int32) (x2 : Int32) (x3 : Int32) : Option (zM) := zgd (zm_ck μ 12 x0) <|
  zb1 (zm_gR μ 12 x0 19) fun v1 =>
  zb1 (zm_aI μ 0 v1 x1) fun v3 =>
  zb1 (if v3 = x2 then (
  zb1 (fX12_later μ x0 3 x3) fun m8 =>
  some m8)
  else (
  some μ)) fun m5 =>
  some m5
theorem fX12_full_ck {μ : zM} {x0 : Nat} {x1 : Int32} {x2 : Int32} {x3 : Int32} {z : zM} (h : fX12_full μ x0 x1 x2 x3 = some z) : zm_ck μ 12 x0 = true := (zgd_s h).1
set_option maxHeartbeats 4000000 in
set_option maxRecDepth 100000 in
theorem cX12_full_ok {μ : zM} {x0 : Nat} {x1 : Int32} {x2 : Int32} {x3 : Int32} {mo : zM} (hf : fX12_full μ x0 x1 x2 x3 = some mo) : zC yX12_full cX12_full 4 (none) 1 0 0 [.ref x0, .int x1, .int x2, .int x3] μ (none) mo := by
  replace hf := (zgd_s hf).2
  refine zC.of (by decide) (Nat.le_of_ble_eq_true rfl) (fun K hin => ?_)
  clear hin
  show zz K cX12_full (4, RX12, none, 1, 0, 0, none, mo) 0 0 0 [(0, .ref x0), (1, .int x1), (2, .int x2), (3, .int x3)] [] μ
  refine zr_aload_n 0 dX12_full_0 rfl ?_
  replace hf := zb1_s hf
  obtain ⟨v1, h2, hf⟩ := hf
  refine zr_get (zm_gR_g h2) zk12 (by decide) zl_762 dX12_full_1 ?_
  refine zr_iload_n 1 dX12_full_4 rfl ?_
  replace hf := zb1_s hf
  obtain ⟨v3, h4, hf⟩ := hf
  refine zr_iald h4 dX12_full_5 ?_
  refine zr_iload_n 2 dX12_full_6 rfl ?_
  replace hf := zb1_s hf
  obtain ⟨m5, hg, hf⟩ := hf
  have hj6 : zz K cX12_full (4, RX12, none, 1, 0, 0, none, mo) 0 0 16 [] [] m5 := by
    cases hf
    exact zr_vret dX12_full_16
  clear hf
  have hf := hg
  clear hg
  refine zr_icmp_ne 16 dX12_full_7 (by decide) (fun hc => ?_) (fun hc => ?_)
  · rw [if_neg hc] at hf
    cases hf
    exact zr_lv [] rfl hj6
  · rw [if_pos hc] at hf
    refine zr_aload_n 0 dX12_full_10 rfl ?_
    refine zr_iconst 3 dX12_full_11 (by decide) ?_
    refine zr_iload_n 3 dX12_full_12 rfl ?_
    replace hf := zb1_s hf
    obtain ⟨m8, h7, hf⟩ := hf
    refine zr_callV (ci := 12) [.int 3, .int x3] (cX12_later_ok h7) zvs_X12_later zl_812 zl_813 (fX12_later_ck h7) rfl rfl zl_811 rfl (Nat.le_of_ble_eq_true rfl) (Nat.le_of_ble_eq_true rfl) (Nat.le_of_ble_eq_true rfl) (Nat.le_of_ble_eq_true rfl) dX12_full_13 rfl ?_
    cases hf
    exact zr_lv [] rfl hj6
theorem zl_819 : Cond.constantLong RX12 156 126879447934322 ∈ zt := zt_at 1559 (by decide +kernel)
theorem zl_820 : Cond.constantLong RX12 158 422877685106 ∈ zt := zt_at 1560 (by decide +kernel)
theorem zl_821 : Cond.constantLong RX12 160 8102650148546962802 ∈ zt := zt_at 1561 (by decide +kernel)
theorem dX12_kindBy_0 : decode cX12_kindBy 0 = .ok (.lload_n 0, 1) := by decide +kernel
theorem dX12_kindBy_1 : decode cX12_kindBy 1 = .ok (.ldc2_w 156, 3) := by decide +kernel
theorem dX12_kindBy_4 : decode cX12_kindBy 4 = .ok (.lcmp, 1) := by decide +kernel
theorem dX12_kindBy_5 : decode cX12_kindBy 5 = .ok (.ifCond .ne 7, 3) := by decide +kernel
theorem dX12_kindBy_8 : decode cX12_kindBy 8 = .ok (.iconst 0, 1) := by decide +kernel
theorem dX12_kindBy_9 : decode cX12_kindBy 9 = .ok (.goto 28, 3) := by decide +kernel
theorem dX12_kindBy_12 : decode cX12_kindBy 12 = .ok (.lload_n 0, 1) := by decide +kernel
theorem dX12_kindBy_13 : decode cX12_kindBy 13 = .ok (.ldc2_w 158, 3) := by decide +kernel
theorem dX12_kindBy_16 : decode cX12_kindBy 16 = .ok (.lcmp, 1) := by decide +kernel
theorem dX12_kindBy_17 : decode cX12_kindBy 17 = .ok (.ifCond .ne 7, 3) := by decide +kernel
theorem dX12_kindBy_20 : decode cX12_kindBy 20 = .ok (.iconst 1, 1) := by decide +kernel
theorem dX12_kindBy_21 : decode cX12_kindBy 21 = .ok (.goto 16, 3) := by decide +kernel
theorem dX12_kindBy_24 : decode cX12_kindBy 24 = .ok (.lload_n 0, 1) := by decide +kernel
theorem dX12_kindBy_25 : decode cX12_kindBy 25 = .ok (.ldc2_w 160, 3) := by decide +kernel
theorem dX12_kindBy_28 : decode cX12_kindBy 28 = .ok (.lcmp, 1) := by decide +kernel
theorem dX12_kindBy_29 : decode cX12_kindBy 29 = .ok (.ifCond .ne 7, 3) := by decide +kernel
theorem dX12_kindBy_32 : decode cX12_kindBy 32 = .ok (.iconst 2, 1) := by decide +kernel
theorem dX12_kindBy_33 : decode cX12_kindBy 33 = .ok (.goto 4, 3) := by decide +kernel
theorem dX12_kindBy_36 : decode cX12_kindBy 36 = .ok (.iconst (-1), 1) := by decide +kernel
theorem dX12_kindBy_37 : decode cX12_kindBy 37 = .ok (.ireturn, 1) := by decide +kernel
def fX12_kindBy (μ : zM) (x0 : Int64) : Option (Int32) :=
  zb1 (if (lg_cmp x0 126879447934322) = 0 then (
  some 0)
  else (
  if (lg_cmp x0 422877685106) = 0 then (
  some 1)
  else (
  if (lg_cmp x0 8102650148546962802) = 0 then (
  some 2)
  else (
  some (-1))))) fun s1 =>
  some s1
set_option maxHeartbeats 4000000 in
set_option maxRecDepth 100000 in
theorem cX12_kindBy_ok {μ : zM} {x0 : Int64} {r : Int32} (hf : fX12_kindBy μ x0 = some r) : zC yX12_kindBy cX12_kindBy 2 (some .int) 0 0 0 [.long x0] μ (some (.int r)) μ := by
  unfold fX12_kindBy at hf
  refine zC.of (by decide) (Nat.le_of_ble_eq_true rfl) (fun K hin => ?_)
  clear hin
  show zz K cX12_kindBy (2, RX12, some .int, 0, 0, 0, some (.int r), μ) 0 0 0 [(0, .long x0)] [] μ
  refine zr_lload_n 0 dX12_kindBy_0 rfl ?_
  refine zr_ldc2 zl_819 dX12_kindBy_1 ?_
  refine zr_lcmp dX12_kindBy_4 ?_
  replace hf := zb1_s hf
  obtain ⟨s1, hg, hf⟩ := hf
  have hj2 : zz K cX12_kindBy (2, RX12, some .int, 0, 0, 0, some (.int r), μ) 0 0 37 [] [.int s1] μ := by
    cases hf
    exact zr_iret dX12_kindBy_37
  clear hf
  have hf := hg
  clear hg
  refine zr_if_ne 12 dX12_kindBy_5 (by decide) (fun hc => ?_) (fun hc => ?_)
  · rw [if_neg hc] at hf
    refine zr_lload_n 0 dX12_kindBy_12 rfl ?_
    refine zr_ldc2 zl_820 dX12_kindBy_13 ?_
    refine zr_lcmp dX12_kindBy_16 ?_
    refine zr_if_ne 24 dX12_kindBy_17 (by decide) (fun hc => ?_) (fun hc => ?_)
    · rw [if_neg hc] at hf
      refine zr_lload_n 0 dX12_kindBy_24 rfl ?_
      refine zr_ldc2 zl_821 dX12_kindBy_25 ?_
      refine zr_lcmp dX12_kindBy_28 ?_
      refine zr_if_ne 36 dX12_kindBy_29 (by decide) (fun hc => ?_) (fun hc => ?_)
      · rw [if_neg hc] at hf
        refine zr_iconst (-1) dX12_kindBy_36 (by decide) ?_
        cases hf
        exact zr_lv [] rfl hj2
      · rw [if_pos hc] at hf
        refine zr_iconst 2 dX12_kindBy_32 (by decide) ?_
        refine zr_goto 37 dX12_kindBy_33 (by decide) ?_
        cases hf
        exact zr_lv [] rfl hj2
    · rw [if_pos hc] at hf
      refine zr_iconst 1 dX12_kindBy_20 (by decide) ?_
      refine zr_goto 37 dX12_kindBy_21 (by decide) ?_
      cases hf
      exact zr_lv [] rfl hj2
  · rw [if_pos hc] at hf
    refine zr_iconst 0 dX12_kindBy_8 (by decide) ?_
    refine zr_goto 37 dX12_kindBy_9 (by decide) ?_
    cases hf
    exact zr_lv [] rfl hj2
theorem zl_822 : Cond.code yX12_take cX12_take 4 (some .boolean) ∈ zt := zt_at 1587 (by decide +kernel)
theorem zvs_X12_take : zvS yX12_take cX12_take 4 (some .boolean) 3 := ⟨zl_822, zl_782, ⟨by decide +kernel, by decide +kernel, by decide +kernel⟩, by decide⟩
theorem zl_823 : Cond.methodLink RX12 162 yX12_take ∈ zt := zt_at 1584 (by decide +kernel)
theorem zl_824 : Cond.instanceMethod yX12_take ∈ zt := zt_at 1586 (by decide +kernel)
theorem zl_825 : Cond.selects RX12 yX12_take yX12_take ∈ zt := zt_at 60 (by decide +kernel)
theorem zl_826 : Cond.fieldLink RX12 165 "TwoEchoesModel" "farPlace" "I" ∈ zt := zt_at 1362 (by decide +kernel)
theorem zl_827 : Cond.code yX12_greater cX12_greater 2 (some .int) ∈ zt := zt_at 1590 (by decide +kernel)
theorem zvs_X12_greater : zvS yX12_greater cX12_greater 2 (some .int) 2 := ⟨zl_827, zl_782, ⟨by decide +kernel, by decide +kernel, by decide +kernel⟩, by decide⟩
theorem zl_828 : Cond.methodLink RX12 168 yX12_greater ∈ zt := zt_at 1588 (by decide +kernel)
theorem zl_829 : Cond.static yX12_greater ∈ zt := zt_at 1589 (by decide +kernel)
theorem dX12_personLine_0 : decode cX12_personLine 0 = .ok (.aload_n 0, 1) := by decide +kernel
theorem dX12_personLine_1 : decode cX12_personLine 1 = .ok (.iconst 0, 1) := by decide +kernel
theorem dX12_personLine_2 : decode cX12_personLine 2 = .ok (.iconst 0, 1) := by decide +kernel
theorem dX12_personLine_3 : decode cX12_personLine 3 = .ok (.bipush 30, 2) := by decide +kernel
theorem dX12_personLine_5 : decode cX12_personLine 5 = .ok (.invokevirtual 162, 3) := by decide +kernel
theorem dX12_personLine_8 : decode cX12_personLine 8 = .ok (.ifCond .eq 14, 3) := by decide +kernel
theorem dX12_personLine_11 : decode cX12_personLine 11 = .ok (.aload_n 0, 1) := by decide +kernel
theorem dX12_personLine_12 : decode cX12_personLine 12 = .ok (.iconst 1, 1) := by decide +kernel
theorem dX12_personLine_13 : decode cX12_personLine 13 = .ok (.iconst 0, 1) := by decide +kernel
theorem dX12_personLine_14 : decode cX12_personLine 14 = .ok (.bipush 99, 2) := by decide +kernel
theorem dX12_personLine_16 : decode cX12_personLine 16 = .ok (.invokevirtual 162, 3) := by decide +kernel
theorem dX12_personLine_19 : decode cX12_personLine 19 = .ok (.ifCond .ne 5, 3) := by decide +kernel
theorem dX12_personLine_22 : decode cX12_personLine 22 = .ok (.iconst 0, 1) := by decide +kernel
theorem dX12_personLine_23 : decode cX12_personLine 23 = .ok (.ireturn, 1) := by decide +kernel
theorem dX12_personLine_24 : decode cX12_personLine 24 = .ok (.aload_n 0, 1) := by decide +kernel
theorem dX12_personLine_25 : decode cX12_personLine 25 = .ok (.aload_n 0, 1) := by decide +kernel
theorem dX12_personLine_26 : decode cX12_personLine 26 = .ok (.getfield 165, 3) := by decide +kernel
theorem dX12_personLine_29 : decode cX12_personLine 29 = .ok (.aload_n 0, 1) := by decide +kernel
theorem dX12_personLine_30 : decode cX12_personLine 30 = .ok (.getfield 41, 3) := by decide +kernel
theorem dX12_personLine_33 : decode cX12_personLine 33 = .ok (.iconst 0, 1) := by decide +kernel
theorem dX12_personLine_34 : decode cX12_personLine 34 = .ok (.iaload, 1) := by decide +kernel
theorem dX12_personLine_35 : decode cX12_personLine 35 = .ok (.invokestatic 168, 3) := by decide +kernel
theorem dX12_personLine_38 : decode cX12_personLine 38 = .ok (.putfield 165, 3) := by decide +kernel
theorem dX12_personLine_41 : decode cX12_personLine 41 = .ok (.aload_n 0, 1) := by decide +kernel
theorem dX12_personLine_42 : decode cX12_personLine 42 = .ok (.getfield 38, 3) := by decide +kernel
theorem dX12_personLine_45 : decode cX12_personLine 45 = .ok (.iconst 1, 1) := by decide +kernel
theorem dX12_personLine_46 : decode cX12_personLine 46 = .ok (.iaload, 1) := by decide +kernel
theorem dX12_personLine_47 : decode cX12_personLine 47 = .ok (.istore_n 2, 1) := by decide +kernel
theorem dX12_personLine_48 : decode cX12_personLine 48 = .ok (.iload_n 2, 1) := by decide +kernel
theorem dX12_personLine_49 : decode cX12_personLine 49 = .ok (.bipush 6, 2) := by decide +kernel
theorem dX12_personLine_51 : decode cX12_personLine 51 = .ok (.if_icmp .ge 53, 3) := by decide +kernel
theorem dX12_personLine_54 : decode cX12_personLine 54 = .ok (.aload_n 0, 1) := by decide +kernel
theorem dX12_personLine_55 : decode cX12_personLine 55 = .ok (.getfield 38, 3) := by decide +kernel
theorem dX12_personLine_58 : decode cX12_personLine 58 = .ok (.bipush 27, 2) := by decide +kernel
theorem dX12_personLine_60 : decode cX12_personLine 60 = .ok (.iload_n 2, 1) := by decide +kernel
theorem dX12_personLine_61 : decode cX12_personLine 61 = .ok (.iadd, 1) := by decide +kernel
theorem dX12_personLine_62 : decode cX12_personLine 62 = .ok (.iload_n 1, 1) := by decide +kernel
theorem dX12_personLine_63 : decode cX12_personLine 63 = .ok (.iastore, 1) := by decide +kernel
theorem dX12_personLine_64 : decode cX12_personLine 64 = .ok (.aload_n 0, 1) := by decide +kernel
theorem dX12_personLine_65 : decode cX12_personLine 65 = .ok (.getfield 38, 3) := by decide +kernel
theorem dX12_personLine_68 : decode cX12_personLine 68 = .ok (.bipush 33, 2) := by decide +kernel
theorem dX12_personLine_70 : decode cX12_personLine 70 = .ok (.iload_n 2, 1) := by decide +kernel
theorem dX12_personLine_71 : decode cX12_personLine 71 = .ok (.iadd, 1) := by decide +kernel
theorem dX12_personLine_72 : decode cX12_personLine 72 = .ok (.aload_n 0, 1) := by decide +kernel
theorem dX12_personLine_73 : decode cX12_personLine 73 = .ok (.getfield 41, 3) := by decide +kernel
theorem dX12_personLine_76 : decode cX12_personLine 76 = .ok (.iconst 0, 1) := by decide +kernel
theorem dX12_personLine_77 : decode cX12_personLine 77 = .ok (.iaload, 1) := by decide +kernel
theorem dX12_personLine_78 : decode cX12_personLine 78 = .ok (.iastore, 1) := by decide +kernel
theorem dX12_personLine_79 : decode cX12_personLine 79 = .ok (.aload_n 0, 1) := by decide +kernel
theorem dX12_personLine_80 : decode cX12_personLine 80 = .ok (.getfield 38, 3) := by decide +kernel
theorem dX12_personLine_83 : decode cX12_personLine 83 = .ok (.bipush 39, 2) := by decide +kernel
theorem dX12_personLine_85 : decode cX12_personLine 85 = .ok (.iload_n 2, 1) := by decide +kernel
theorem dX12_personLine_86 : decode cX12_personLine 86 = .ok (.iadd, 1) := by decide +kernel
theorem dX12_personLine_87 : decode cX12_personLine 87 = .ok (.aload_n 0, 1) := by decide +kernel
theorem dX12_personLine_88 : decode cX12_personLine 88 = .ok (.getfield 41, 3) := by decide +kernel
theorem dX12_personLine_91 : decode cX12_personLine 91 = .ok (.iconst 1, 1) := by decide +kernel
theorem dX12_personLine_92 : decode cX12_personLine 92 = .ok (.iaload, 1) := by decide +kernel
theorem dX12_personLine_93 : decode cX12_personLine 93 = .ok (.iastore, 1) := by decide +kernel
theorem dX12_personLine_94 : decode cX12_personLine 94 = .ok (.aload_n 0, 1) := by decide +kernel
theorem dX12_personLine_95 : decode cX12_personLine 95 = .ok (.getfield 38, 3) := by decide +kernel
theorem dX12_personLine_98 : decode cX12_personLine 98 = .ok (.iconst 1, 1) := by decide +kernel
theorem dX12_personLine_99 : decode cX12_personLine 99 = .ok (.dup2, 1) := by decide +kernel
theorem dX12_personLine_100 : decode cX12_personLine 100 = .ok (.iaload, 1) := by decide +kernel
theorem dX12_personLine_101 : decode cX12_personLine 101 = .ok (.iconst 1, 1) := by decide +kernel
theorem dX12_personLine_102 : decode cX12_personLine 102 = .ok (.iadd, 1) := by decide +kernel
theorem dX12_personLine_103 : decode cX12_personLine 103 = .ok (.iastore, 1) := by decide +kernel
theorem dX12_personLine_104 : decode cX12_personLine 104 = .ok (.iconst 1, 1) := by decide +kernel
theorem dX12_personLine_105 : decode cX12_personLine 105 = .ok (.ireturn, 1) := by decide +kernel
def fX12_personLine (μ : zM) (x0 : Nat) (x1 : Int32) : Option (Int32 × zM) := zgd (zm_ck μ 12 x0) <|
  zb2 (fX12_take μ x0 0 0 30) fun v3 m2 =>
  if v3 = 0 then (
  some (0, m2))
  else (
  zb2 (fX12_take m2 x0 1 0 99) fun v6 m5 =>
  if v6 = 0 then (
  some (0, m5))
  else (
  zb1 (zm_gI m5 12 x0 21) fun v7 =>
  zb1 (zm_gR m5 12 x0 20) fun v9 =>
  zb1 (zm_aI m5 0 v9 0) fun v11 =>
  zb1 (fX12_greater m5 v7 v11) fun v14 =>
  zb1 (zm_p m5 12 x0 21 (.int v14)) fun m15 =>
  zb1 (zm_gR m15 12 x0 19) fun v17 =>
  zb1 (zm_aI m15 0 v17 1) fun v19 =>
  zb1 (if 6 ≤ v19 then (
  some m15)
  else (
  zb1 (zm_gR m15 12 x0 19) fun v23 =>
  zb1 (zm_sI m15 0 v23 (27 + v19) x1) fun m25 =>
  zb1 (zm_gR m25 12 x0 19) fun v27 =>
  zb1 (zm_gR m25 12 x0 20) fun v29 =>
  zb1 (zm_aI m25 0 v29 0) fun v31 =>
  zb1 (zm_sI m25 0 v27 (33 + v19) v31) fun m33 =>
  zb1 (zm_gR m33 12 x0 19) fun v35 =>
  zb1 (zm_gR m33 12 x0 20) fun v37 =>
  zb1 (zm_aI m33 0 v37 1) fun v39 =>
  zb1 (zm_sI m33 0 v35 (39 + v19) v39) fun m41 =>
  zb1 (zm_gR m41 12 x0 19) fun v43 =>
  zb1 (zm_aI m41 0 v43 1) fun v45 =>
  zb1 (zm_sI m41 0 v43 1 (v45 + 1)) fun m47 =>
  some m47)) fun m21 =>
  some (1, m21)))
theorem fX12_personLine_ck {μ : zM} {x0 : Nat} {x1 : Int32} {z : Int32 × zM} (h : fX12_personLine μ x0 x1 = some z) : zm_ck μ 12 x0 = true := (zgd_s h).1
set_option maxHeartbeats 4000000 in
set_option maxRecDepth 100000 in
theorem cX12_personLine_ok {μ : zM} {x0 : Nat} {x1 : Int32} {r : Int32} {mo : zM} (hf : fX12_personLine μ x0 x1 = some (r, mo)) : zC yX12_personLine cX12_personLine 3 (some .boolean) 3 0 0 [.ref x0, .int x1] μ (some (.int r)) mo := by
  replace hf := (zgd_s hf).2
  refine zC.of (by decide) (Nat.le_of_ble_eq_true rfl) (fun K hin => ?_)
  clear hin
  show zz K cX12_personLine (3, RX12, some .boolean, 3, 0, 0, some (.int r), mo) 0 0 0 [(0, .ref x0), (1, .int x1)] [] μ
  refine zr_aload_n 0 dX12_personLine_0 rfl ?_
  refine zr_iconst 0 dX12_personLine_1 (by decide) ?_
  refine zr_iconst 0 dX12_personLine_2 (by decide) ?_
  refine zr_bipush 30 dX12_personLine_3 (by decide) ?_
  replace hf := zb2_s hf
  obtain ⟨v3, m2, h1, hf⟩ := hf
  refine zr_callV (ci := 12) [.int 0, .int 0, .int 30] (cX12_take_ok h1) zvs_X12_take zl_824 zl_825 (fX12_take_ck h1) rfl rfl zl_823 rfl (Nat.le_of_ble_eq_true rfl) (Nat.le_of_ble_eq_true rfl) (Nat.le_of_ble_eq_true rfl) (Nat.le_of_ble_eq_true rfl) dX12_personLine_5 rfl ?_
  refine zr_if_eq 22 dX12_personLine_8 (by decide) (fun hc => ?_) (fun hc => ?_)
  · rw [if_pos hc] at hf
    refine zr_iconst 0 dX12_personLine_22 (by decide) ?_
    cases hf
    exact zr_zret rfl dX12_personLine_23
  · rw [if_neg hc] at hf
    refine zr_aload_n 0 dX12_personLine_11 rfl ?_
    refine zr_iconst 1 dX12_personLine_12 (by decide) ?_
    refine zr_iconst 0 dX12_personLine_13 (by decide) ?_
    refine zr_bipush 99 dX12_personLine_14 (by decide) ?_
    replace hf := zb2_s hf
    obtain ⟨v6, m5, h4, hf⟩ := hf
    refine zr_callV (ci := 12) [.int 1, .int 0, .int 99] (cX12_take_ok h4) zvs_X12_take zl_824 zl_825 (fX12_take_ck h4) rfl rfl zl_823 rfl (Nat.le_of_ble_eq_true rfl) (Nat.le_of_ble_eq_true rfl) (Nat.le_of_ble_eq_true rfl) (Nat.le_of_ble_eq_true rfl) dX12_personLine_16 rfl ?_
    refine zr_if_ne 24 dX12_personLine_19 (by decide) (fun hc => ?_) (fun hc => ?_)
    · rw [if_neg hc] at hf
      refine zr_aload_n 0 dX12_personLine_24 rfl ?_
      refine zr_aload_n 0 dX12_personLine_25 rfl ?_
      replace hf := zb1_s hf
      obtain ⟨v7, h8, hf⟩ := hf
      refine zr_get (zm_gI_g h8) zk12 (by decide) zl_826 dX12_personLine_26 ?_
      refine zr_aload_n 0 dX12_personLine_29 rfl ?_
      replace hf := zb1_s hf
      obtain ⟨v9, h10, hf⟩ := hf
      refine zr_get (zm_gR_g h10) zk12 (by decide) zl_763 dX12_personLine_30 ?_
      refine zr_iconst 0 dX12_personLine_33 (by decide) ?_
      replace hf := zb1_s hf
      obtain ⟨v11, h12, hf⟩ := hf
      refine zr_iald h12 dX12_personLine_34 ?_
      replace hf := zb1_s hf
      obtain ⟨v14, h13, hf⟩ := hf
      refine zr_callS [.int v7, .int v11] (cX12_greater_ok h13) zvs_X12_greater zl_829 zl_828 rfl (Nat.le_of_ble_eq_true rfl) (Nat.le_of_ble_eq_true rfl) (Nat.le_of_ble_eq_true rfl) (Nat.le_of_ble_eq_true rfl) dX12_personLine_35 rfl ?_
      replace hf := zb1_s hf
      obtain ⟨m15, h16, hf⟩ := hf
      refine zr_put h16 zk12 (by decide) zl_826 rfl rfl rfl dX12_personLine_38 ?_
      refine zr_aload_n 0 dX12_personLine_41 rfl ?_
      replace hf := zb1_s hf
      obtain ⟨v17, h18, hf⟩ := hf
      refine zr_get (zm_gR_g h18) zk12 (by decide) zl_762 dX12_personLine_42 ?_
      refine zr_iconst 1 dX12_personLine_45 (by decide) ?_
      replace hf := zb1_s hf
      obtain ⟨v19, h20, hf⟩ := hf
      refine zr_iald h20 dX12_personLine_46 ?_
      refine zr_istore_n [(2, .int v19), (0, .ref x0), (1, .int x1)] dX12_personLine_47 (Nat.le_of_ble_eq_true rfl) rfl ?_
      refine zr_iload_n 0 dX12_personLine_48 rfl ?_
      refine zr_bipush 6 dX12_personLine_49 (by decide) ?_
      replace hf := zb1_s hf
      obtain ⟨m21, hg, hf⟩ := hf
      have hj22 : zz K cX12_personLine (3, RX12, some .boolean, 3, 0, 0, some (.int r), mo) 0 0 104 [] [] m21 := by
        refine zr_iconst 1 dX12_personLine_104 (by decide) ?_
        cases hf
        exact zr_zret rfl dX12_personLine_105
      clear hf
      have hf := hg
      clear hg
      refine zr_icmp_ge 104 dX12_personLine_51 (by decide) (fun hc => ?_) (fun hc => ?_)
      · rw [if_pos hc] at hf
        cases hf
        exact zr_lv [] rfl hj22
      · rw [if_neg hc] at hf
        refine zr_aload_n 1 dX12_personLine_54 rfl ?_
        replace hf := zb1_s hf
        obtain ⟨v23, h24, hf⟩ := hf
        refine zr_get (zm_gR_g h24) zk12 (by decide) zl_762 dX12_personLine_55 ?_
        refine zr_bipush 27 dX12_personLine_58 (by decide) ?_
        refine zr_iload_n 0 dX12_personLine_60 rfl ?_
        refine zr_iadd dX12_personLine_61 ?_
        refine zr_iload_n 2 dX12_personLine_62 rfl ?_
        replace hf := zb1_s hf
        obtain ⟨m25, h26, hf⟩ := hf
        refine zr_iast h26 dX12_personLine_63 ?_
        refine zr_aload_n 1 dX12_personLine_64 rfl ?_
        replace hf := zb1_s hf
        obtain ⟨v27, h28, hf⟩ := hf
        refine zr_get (zm_gR_g h28) zk12 (by decide) zl_762 dX12_personLine_65 ?_
        refine zr_bipush 33 dX12_personLine_68 (by decide) ?_
        refine zr_iload_n 0 dX12_personLine_70 rfl ?_
        refine zr_iadd dX12_personLine_71 ?_
        refine zr_aload_n 1 dX12_personLine_72 rfl ?_
        replace hf := zb1_s hf
        obtain ⟨v29, h30, hf⟩ := hf
        refine zr_get (zm_gR_g h30) zk12 (by decide) zl_763 dX12_personLine_73 ?_
        refine zr_iconst 0 dX12_personLine_76 (by decide) ?_
        replace hf := zb1_s hf
        obtain ⟨v31, h32, hf⟩ := hf
        refine zr_iald h32 dX12_personLine_77 ?_
        replace hf := zb1_s hf
        obtain ⟨m33, h34, hf⟩ := hf
        refine zr_iast h34 dX12_personLine_78 ?_
        refine zr_aload_n 1 dX12_personLine_79 rfl ?_
        replace hf := zb1_s hf
        obtain ⟨v35, h36, hf⟩ := hf
        refine zr_get (zm_gR_g h36) zk12 (by decide) zl_762 dX12_personLine_80 ?_
        refine zr_bipush 39 dX12_personLine_83 (by decide) ?_
        refine zr_iload_n 0 dX12_personLine_85 rfl ?_
        refine zr_iadd dX12_personLine_86 ?_
        refine zr_aload_n 1 dX12_personLine_87 rfl ?_
        replace hf := zb1_s hf
        obtain ⟨v37, h38, hf⟩ := hf
        refine zr_get (zm_gR_g h38) zk12 (by decide) zl_763 dX12_personLine_88 ?_
        refine zr_iconst 1 dX12_personLine_91 (by decide) ?_
        replace hf := zb1_s hf
        obtain ⟨v39, h40, hf⟩ := hf
        refine zr_iald h40 dX12_personLine_92 ?_
        replace hf := zb1_s hf
        obtain ⟨m41, h42, hf⟩ := hf
        refine zr_iast h42 dX12_personLine_93 ?_
        refine zr_aload_n 1 dX12_personLine_94 rfl ?_
        replace hf := zb1_s hf
        obtain ⟨v43, h44, hf⟩ := hf
        refine zr_get (zm_gR_g h44) zk12 (by decide) zl_762 dX12_personLine_95 ?_
        refine zr_iconst 1 dX12_personLine_98 (by decide) ?_
        refine zr_dup2 dX12_personLine_99 rfl rfl ?_
        replace hf := zb1_s hf
        obtain ⟨v45, h46, hf⟩ := hf
        refine zr_iald h46 dX12_personLine_100 ?_
        refine zr_iconst 1 dX12_personLine_101 (by decide) ?_
        refine zr_iadd dX12_personLine_102 ?_
        replace hf := zb1_s hf
        obtain ⟨m47, h48, hf⟩ := hf
        refine zr_iast h48 dX12_personLine_103 ?_
        cases hf
        exact zr_lv [] rfl hj22
    · rw [if_pos hc] at hf
      refine zr_iconst 0 dX12_personLine_22 (by decide) ?_
      cases hf
      exact zr_zret rfl dX12_personLine_23
theorem dX12_skyLine_0 : decode cX12_skyLine 0 = .ok (.aload_n 0, 1) := by decide +kernel
theorem dX12_skyLine_1 : decode cX12_skyLine 1 = .ok (.iconst 0, 1) := by decide +kernel
theorem dX12_skyLine_2 : decode cX12_skyLine 2 = .ok (.iconst 0, 1) := by decide +kernel
theorem dX12_skyLine_3 : decode cX12_skyLine 3 = .ok (.bipush 99, 2) := by decide +kernel
theorem dX12_skyLine_5 : decode cX12_skyLine 5 = .ok (.invokevirtual 162, 3) := by decide +kernel
theorem dX12_skyLine_8 : decode cX12_skyLine 8 = .ok (.ifCond .eq 19, 3) := by decide +kernel
theorem dX12_skyLine_11 : decode cX12_skyLine 11 = .ok (.aload_n 0, 1) := by decide +kernel
theorem dX12_skyLine_12 : decode cX12_skyLine 12 = .ok (.iconst 1, 1) := by decide +kernel
theorem dX12_skyLine_13 : decode cX12_skyLine 13 = .ok (.aload_n 0, 1) := by decide +kernel
theorem dX12_skyLine_14 : decode cX12_skyLine 14 = .ok (.getfield 41, 3) := by decide +kernel
theorem dX12_skyLine_17 : decode cX12_skyLine 17 = .ok (.iconst 0, 1) := by decide +kernel
theorem dX12_skyLine_18 : decode cX12_skyLine 18 = .ok (.iaload, 1) := by decide +kernel
theorem dX12_skyLine_19 : decode cX12_skyLine 19 = .ok (.bipush 99, 2) := by decide +kernel
theorem dX12_skyLine_21 : decode cX12_skyLine 21 = .ok (.invokevirtual 162, 3) := by decide +kernel
theorem dX12_skyLine_24 : decode cX12_skyLine 24 = .ok (.ifCond .ne 5, 3) := by decide +kernel
theorem dX12_skyLine_27 : decode cX12_skyLine 27 = .ok (.iconst 0, 1) := by decide +kernel
theorem dX12_skyLine_28 : decode cX12_skyLine 28 = .ok (.ireturn, 1) := by decide +kernel
theorem dX12_skyLine_29 : decode cX12_skyLine 29 = .ok (.aload_n 0, 1) := by decide +kernel
theorem dX12_skyLine_30 : decode cX12_skyLine 30 = .ok (.getfield 38, 3) := by decide +kernel
theorem dX12_skyLine_33 : decode cX12_skyLine 33 = .ok (.iconst 2, 1) := by decide +kernel
theorem dX12_skyLine_34 : decode cX12_skyLine 34 = .ok (.iaload, 1) := by decide +kernel
theorem dX12_skyLine_35 : decode cX12_skyLine 35 = .ok (.istore_n 2, 1) := by decide +kernel
theorem dX12_skyLine_36 : decode cX12_skyLine 36 = .ok (.iload_n 2, 1) := by decide +kernel
theorem dX12_skyLine_37 : decode cX12_skyLine 37 = .ok (.iconst 4, 1) := by decide +kernel
theorem dX12_skyLine_38 : decode cX12_skyLine 38 = .ok (.if_icmp .ge 61, 3) := by decide +kernel
theorem dX12_skyLine_41 : decode cX12_skyLine 41 = .ok (.aload_n 0, 1) := by decide +kernel
theorem dX12_skyLine_42 : decode cX12_skyLine 42 = .ok (.getfield 38, 3) := by decide +kernel
theorem dX12_skyLine_45 : decode cX12_skyLine 45 = .ok (.bipush 45, 2) := by decide +kernel
theorem dX12_skyLine_47 : decode cX12_skyLine 47 = .ok (.iload_n 2, 1) := by decide +kernel
theorem dX12_skyLine_48 : decode cX12_skyLine 48 = .ok (.iadd, 1) := by decide +kernel
theorem dX12_skyLine_49 : decode cX12_skyLine 49 = .ok (.iload_n 1, 1) := by decide +kernel
theorem dX12_skyLine_50 : decode cX12_skyLine 50 = .ok (.ifCond .eq 7, 3) := by decide +kernel
theorem dX12_skyLine_53 : decode cX12_skyLine 53 = .ok (.iconst 1, 1) := by decide +kernel
theorem dX12_skyLine_54 : decode cX12_skyLine 54 = .ok (.goto 4, 3) := by decide +kernel
theorem dX12_skyLine_57 : decode cX12_skyLine 57 = .ok (.iconst 0, 1) := by decide +kernel
theorem dX12_skyLine_58 : decode cX12_skyLine 58 = .ok (.iastore, 1) := by decide +kernel
theorem dX12_skyLine_59 : decode cX12_skyLine 59 = .ok (.aload_n 0, 1) := by decide +kernel
theorem dX12_skyLine_60 : decode cX12_skyLine 60 = .ok (.getfield 38, 3) := by decide +kernel
theorem dX12_skyLine_63 : decode cX12_skyLine 63 = .ok (.bipush 49, 2) := by decide +kernel
theorem dX12_skyLine_65 : decode cX12_skyLine 65 = .ok (.iload_n 2, 1) := by decide +kernel
theorem dX12_skyLine_66 : decode cX12_skyLine 66 = .ok (.iadd, 1) := by decide +kernel
theorem dX12_skyLine_67 : decode cX12_skyLine 67 = .ok (.aload_n 0, 1) := by decide +kernel
theorem dX12_skyLine_68 : decode cX12_skyLine 68 = .ok (.getfield 41, 3) := by decide +kernel
theorem dX12_skyLine_71 : decode cX12_skyLine 71 = .ok (.iconst 0, 1) := by decide +kernel
theorem dX12_skyLine_72 : decode cX12_skyLine 72 = .ok (.iaload, 1) := by decide +kernel
theorem dX12_skyLine_73 : decode cX12_skyLine 73 = .ok (.iastore, 1) := by decide +kernel
theorem dX12_skyLine_74 : decode cX12_skyLine 74 = .ok (.aload_n 0, 1) := by decide +kernel
theorem dX12_skyLine_75 : decode cX12_skyLine 75 = .ok (.getfield 38, 3) := by decide +kernel
theorem dX12_skyLine_78 : decode cX12_skyLine 78 = .ok (.bipush 53, 2) := by decide +kernel
theorem dX12_skyLine_80 : decode cX12_skyLine 80 = .ok (.iload_n 2, 1) := by decide +kernel
theorem dX12_skyLine_81 : decode cX12_skyLine 81 = .ok (.iadd, 1) := by decide +kernel
theorem dX12_skyLine_82 : decode cX12_skyLine 82 = .ok (.aload_n 0, 1) := by decide +kernel
theorem dX12_skyLine_83 : decode cX12_skyLine 83 = .ok (.getfield 41, 3) := by decide +kernel
theorem dX12_skyLine_86 : decode cX12_skyLine 86 = .ok (.iconst 1, 1) := by decide +kernel
theorem dX12_skyLine_87 : decode cX12_skyLine 87 = .ok (.iaload, 1) := by decide +kernel
theorem dX12_skyLine_88 : decode cX12_skyLine 88 = .ok (.iastore, 1) := by decide +kernel
theorem dX12_skyLine_89 : decode cX12_skyLine 89 = .ok (.aload_n 0, 1) := by decide +kernel
theorem dX12_skyLine_90 : decode cX12_skyLine 90 = .ok (.getfield 38, 3) := by decide +kernel
theorem dX12_skyLine_93 : decode cX12_skyLine 93 = .ok (.iconst 2, 1) := by decide +kernel
theorem dX12_skyLine_94 : decode cX12_skyLine 94 = .ok (.dup2, 1) := by decide +kernel
theorem dX12_skyLine_95 : decode cX12_skyLine 95 = .ok (.iaload, 1) := by decide +kernel
theorem dX12_skyLine_96 : decode cX12_skyLine 96 = .ok (.iconst 1, 1) := by decide +kernel
theorem dX12_skyLine_97 : decode cX12_skyLine 97 = .ok (.iadd, 1) := by decide +kernel
theorem dX12_skyLine_98 : decode cX12_skyLine 98 = .ok (.iastore, 1) := by decide +kernel
theorem dX12_skyLine_99 : decode cX12_skyLine 99 = .ok (.iconst 1, 1) := by decide +kernel
theorem dX12_skyLine_100 : decode cX12_skyLine 100 = .ok (.ireturn, 1) := by decide +kernel
def fX12_skyLine (μ : zM) (x0 : Nat) (x1 : Int32) : Option (Int32 × zM) := zgd (zm_ck μ 12 x0) <|
  zb2 (fX12_take μ x0 0 0 99) fun v3 m2 =>
  if v3 = 0 then (
  some (0, m2))
  else (
  zb1 (zm_gR m2 12 x0 20) fun v4 =>
  zb1 (zm_aI m2 0 v4 0) fun v6 =>
  zb2 (fX12_take m2 x0 1 v6 99) fun v10 m9 =>
  if v10 = 0 then (
  some (0, m9))
  else (
  zb1 (zm_gR m9 12 x0 19) fun v11 =>
  zb1 (zm_aI m9 0 v11 2) fun v13 =>
  zb1 (if 4 ≤ v13 then (
  some m9)
  else (
  zb1 (zm_gR m9 12 x0 19) fun v17 =>
  zb1 (if x1 = 0 then (
  some 0)
  else (
  some 1)) fun s19 =>
  zb1 (zm_sI m9 0 v17 (45 + v13) s19) fun m21 =>
  zb1 (zm_gR m21 12 x0 19) fun v23 =>
  zb1 (zm_gR m21 12 x0 20) fun v25 =>
  zb1 (zm_aI m21 0 v25 0) fun v27 =>
  zb1 (zm_sI m21 0 v23 (49 + v13) v27) fun m29 =>
  zb1 (zm_gR m29 12 x0 19) fun v31 =>
  zb1 (zm_gR m29 12 x0 20) fun v33 =>
  zb1 (zm_aI m29 0 v33 1) fun v35 =>
  zb1 (zm_sI m29 0 v31 (53 + v13) v35) fun m37 =>
  zb1 (zm_gR m37 12 x0 19) fun v39 =>
  zb1 (zm_aI m37 0 v39 2) fun v41 =>
  zb1 (zm_sI m37 0 v39 2 (v41 + 1)) fun m43 =>
  some m43)) fun m15 =>
  some (1, m15)))
theorem fX12_skyLine_ck {μ : zM} {x0 : Nat} {x1 : Int32} {z : Int32 × zM} (h : fX12_skyLine μ x0 x1 = some z) : zm_ck μ 12 x0 = true := (zgd_s h).1
set_option maxHeartbeats 4000000 in
set_option maxRecDepth 100000 in
theorem cX12_skyLine_ok {μ : zM} {x0 : Nat} {x1 : Int32} {r : Int32} {mo : zM} (hf : fX12_skyLine μ x0 x1 = some (r, mo)) : zC yX12_skyLine cX12_skyLine 3 (some .boolean) 3 0 0 [.ref x0, .int x1] μ (some (.int r)) mo := by
  replace hf := (zgd_s hf).2
  refine zC.of (by decide) (Nat.le_of_ble_eq_true rfl) (fun K hin => ?_)
  clear hin
  show zz K cX12_skyLine (3, RX12, some .boolean, 3, 0, 0, some (.int r), mo) 0 0 0 [(0, .ref x0), (1, .int x1)] [] μ
  refine zr_aload_n 0 dX12_skyLine_0 rfl ?_
  refine zr_iconst 0 dX12_skyLine_1 (by decide) ?_
  refine zr_iconst 0 dX12_skyLine_2 (by decide) ?_
  refine zr_bipush 99 dX12_skyLine_3 (by decide) ?_
  replace hf := zb2_s hf
  obtain ⟨v3, m2, h1, hf⟩ := hf
  refine zr_callV (ci := 12) [.int 0, .int 0, .int 99] (cX12_take_ok h1) zvs_X12_take zl_824 zl_825 (fX12_take_ck h1) rfl rfl zl_823 rfl (Nat.le_of_ble_eq_true rfl) (Nat.le_of_ble_eq_true rfl) (Nat.le_of_ble_eq_true rfl) (Nat.le_of_ble_eq_true rfl) dX12_skyLine_5 rfl ?_
  refine zr_if_eq 27 dX12_skyLine_8 (by decide) (fun hc => ?_) (fun hc => ?_)
  · rw [if_pos hc] at hf
    refine zr_iconst 0 dX12_skyLine_27 (by decide) ?_
    cases hf
    exact zr_zret rfl dX12_skyLine_28
  · rw [if_neg hc] at hf
    refine zr_aload_n 0 dX12_skyLine_11 rfl ?_
    refine zr_iconst 1 dX12_skyLine_12 (by decide) ?_
    refine zr_aload_n 0 dX12_skyLine_13 rfl ?_
    replace hf := zb1_s hf
    obtain ⟨v4, h5, hf⟩ := hf
    refine zr_get (zm_gR_g h5) zk12 (by decide) zl_763 dX12_skyLine_14 ?_
    refine zr_iconst 0 dX12_skyLine_17 (by decide) ?_
    replace hf := zb1_s hf
    obtain ⟨v6, h7, hf⟩ := hf
    refine zr_iald h7 dX12_skyLine_18 ?_
    refine zr_bipush 99 dX12_skyLine_19 (by decide) ?_
    replace hf := zb2_s hf
    obtain ⟨v10, m9, h8, hf⟩ := hf
    refine zr_callV (ci := 12) [.int 1, .int v6, .int 99] (cX12_take_ok h8) zvs_X12_take zl_824 zl_825 (fX12_take_ck h8) rfl rfl zl_823 rfl (Nat.le_of_ble_eq_true rfl) (Nat.le_of_ble_eq_true rfl) (Nat.le_of_ble_eq_true rfl) (Nat.le_of_ble_eq_true rfl) dX12_skyLine_21 rfl ?_
    refine zr_if_ne 29 dX12_skyLine_24 (by decide) (fun hc => ?_) (fun hc => ?_)
    · rw [if_neg hc] at hf
      refine zr_aload_n 0 dX12_skyLine_29 rfl ?_
      replace hf := zb1_s hf
      obtain ⟨v11, h12, hf⟩ := hf
      refine zr_get (zm_gR_g h12) zk12 (by decide) zl_762 dX12_skyLine_30 ?_
      refine zr_iconst 2 dX12_skyLine_33 (by decide) ?_
      replace hf := zb1_s hf
      obtain ⟨v13, h14, hf⟩ := hf
      refine zr_iald h14 dX12_skyLine_34 ?_
      refine zr_istore_n [(2, .int v13), (0, .ref x0), (1, .int x1)] dX12_skyLine_35 (Nat.le_of_ble_eq_true rfl) rfl ?_
      refine zr_iload_n 0 dX12_skyLine_36 rfl ?_
      refine zr_iconst 4 dX12_skyLine_37 (by decide) ?_
      replace hf := zb1_s hf
      obtain ⟨m15, hg, hf⟩ := hf
      have hj16 : zz K cX12_skyLine (3, RX12, some .boolean, 3, 0, 0, some (.int r), mo) 0 0 99 [] [] m15 := by
        refine zr_iconst 1 dX12_skyLine_99 (by decide) ?_
        cases hf
        exact zr_zret rfl dX12_skyLine_100
      clear hf
      have hf := hg
      clear hg
      refine zr_icmp_ge 99 dX12_skyLine_38 (by decide) (fun hc => ?_) (fun hc => ?_)
      · rw [if_pos hc] at hf
        cases hf
        exact zr_lv [] rfl hj16
      · rw [if_neg hc] at hf
        refine zr_aload_n 1 dX12_skyLine_41 rfl ?_
        replace hf := zb1_s hf
        obtain ⟨v17, h18, hf⟩ := hf
        refine zr_get (zm_gR_g h18) zk12 (by decide) zl_762 dX12_skyLine_42 ?_
        refine zr_bipush 45 dX12_skyLine_45 (by decide) ?_
        refine zr_iload_n 0 dX12_skyLine_47 rfl ?_
        refine zr_iadd dX12_skyLine_48 ?_
        refine zr_iload_n 2 dX12_skyLine_49 rfl ?_
        replace hf := zb1_s hf
        obtain ⟨s19, hg, hf⟩ := hf
        have hj20 : zz K cX12_skyLine (3, RX12, some .boolean, 3, 0, 0, some (.int r), mo) 0 0 58 [(0, .ref x0), (2, .int v13)] [.int s19, .int (45 + v13), .ref v17] m9 := by
          replace hf := zb1_s hf
          obtain ⟨m21, h22, hf⟩ := hf
          refine zr_iast h22 dX12_skyLine_58 ?_
          refine zr_aload_n 0 dX12_skyLine_59 rfl ?_
          replace hf := zb1_s hf
          obtain ⟨v23, h24, hf⟩ := hf
          refine zr_get (zm_gR_g h24) zk12 (by decide) zl_762 dX12_skyLine_60 ?_
          refine zr_bipush 49 dX12_skyLine_63 (by decide) ?_
          refine zr_iload_n 1 dX12_skyLine_65 rfl ?_
          refine zr_iadd dX12_skyLine_66 ?_
          refine zr_aload_n 0 dX12_skyLine_67 rfl ?_
          replace hf := zb1_s hf
          obtain ⟨v25, h26, hf⟩ := hf
          refine zr_get (zm_gR_g h26) zk12 (by decide) zl_763 dX12_skyLine_68 ?_
          refine zr_iconst 0 dX12_skyLine_71 (by decide) ?_
          replace hf := zb1_s hf
          obtain ⟨v27, h28, hf⟩ := hf
          refine zr_iald h28 dX12_skyLine_72 ?_
          replace hf := zb1_s hf
          obtain ⟨m29, h30, hf⟩ := hf
          refine zr_iast h30 dX12_skyLine_73 ?_
          refine zr_aload_n 0 dX12_skyLine_74 rfl ?_
          replace hf := zb1_s hf
          obtain ⟨v31, h32, hf⟩ := hf
          refine zr_get (zm_gR_g h32) zk12 (by decide) zl_762 dX12_skyLine_75 ?_
          refine zr_bipush 53 dX12_skyLine_78 (by decide) ?_
          refine zr_iload_n 1 dX12_skyLine_80 rfl ?_
          refine zr_iadd dX12_skyLine_81 ?_
          refine zr_aload_n 0 dX12_skyLine_82 rfl ?_
          replace hf := zb1_s hf
          obtain ⟨v33, h34, hf⟩ := hf
          refine zr_get (zm_gR_g h34) zk12 (by decide) zl_763 dX12_skyLine_83 ?_
          refine zr_iconst 1 dX12_skyLine_86 (by decide) ?_
          replace hf := zb1_s hf
          obtain ⟨v35, h36, hf⟩ := hf
          refine zr_iald h36 dX12_skyLine_87 ?_
          replace hf := zb1_s hf
          obtain ⟨m37, h38, hf⟩ := hf
          refine zr_iast h38 dX12_skyLine_88 ?_
          refine zr_aload_n 0 dX12_skyLine_89 rfl ?_
          replace hf := zb1_s hf
          obtain ⟨v39, h40, hf⟩ := hf
          refine zr_get (zm_gR_g h40) zk12 (by decide) zl_762 dX12_skyLine_90 ?_
          refine zr_iconst 2 dX12_skyLine_93 (by decide) ?_
          refine zr_dup2 dX12_skyLine_94 rfl rfl ?_
          replace hf := zb1_s hf
          obtain ⟨v41, h42, hf⟩ := hf
          refine zr_iald h42 dX12_skyLine_95 ?_
          refine zr_iconst 1 dX12_skyLine_96 (by decide) ?_
          refine zr_iadd dX12_skyLine_97 ?_
          replace hf := zb1_s hf
          obtain ⟨m43, h44, hf⟩ := hf
          refine zr_iast h44 dX12_skyLine_98 ?_
          cases hf
          exact zr_lv [] rfl hj16
        clear hf
        have hf := hg
        clear hg
        refine zr_if_eq 57 dX12_skyLine_50 (by decide) (fun hc => ?_) (fun hc => ?_)
        · rw [if_pos hc] at hf
          refine zr_iconst 0 dX12_skyLine_57 (by decide) ?_
          cases hf
          exact zr_lv [1, 0] rfl hj20
        · rw [if_neg hc] at hf
          refine zr_iconst 1 dX12_skyLine_53 (by decide) ?_
          refine zr_goto 58 dX12_skyLine_54 (by decide) ?_
          cases hf
          exact zr_lv [1, 0] rfl hj20
    · rw [if_pos hc] at hf
      refine zr_iconst 0 dX12_skyLine_27 (by decide) ?_
      cases hf
      exact zr_zret rfl dX12_skyLine_28
theorem zl_830 : Cond.constantLong RX12 172 126892383759460 ∈ zt := zt_at 1565 (by decide +kernel)
theorem zl_831 : Cond.constantLong RX12 174 32765925218805876 ∈ zt := zt_at 1566 (by decide +kernel)
theorem dX12_wordLine_0 : decode cX12_wordLine 0 = .ok (.lload_n 1, 1) := by decide +kernel
theorem dX12_wordLine_1 : decode cX12_wordLine 1 = .ok (.ldc2_w 172, 3) := by decide +kernel
theorem dX12_wordLine_4 : decode cX12_wordLine 4 = .ok (.lcmp, 1) := by decide +kernel
theorem dX12_wordLine_5 : decode cX12_wordLine 5 = .ok (.ifCond .ne 8, 3) := by decide +kernel
theorem dX12_wordLine_8 : decode cX12_wordLine 8 = .ok (.bipush 7, 2) := by decide +kernel
theorem dX12_wordLine_10 : decode cX12_wordLine 10 = .ok (.goto 18, 3) := by decide +kernel
theorem dX12_wordLine_13 : decode cX12_wordLine 13 = .ok (.lload_n 1, 1) := by decide +kernel
theorem dX12_wordLine_14 : decode cX12_wordLine 14 = .ok (.ldc2_w 174, 3) := by decide +kernel
theorem dX12_wordLine_17 : decode cX12_wordLine 17 = .ok (.lcmp, 1) := by decide +kernel
theorem dX12_wordLine_18 : decode cX12_wordLine 18 = .ok (.ifCond .ne 8, 3) := by decide +kernel
theorem dX12_wordLine_21 : decode cX12_wordLine 21 = .ok (.bipush 9, 2) := by decide +kernel
theorem dX12_wordLine_23 : decode cX12_wordLine 23 = .ok (.goto 5, 3) := by decide +kernel
theorem dX12_wordLine_26 : decode cX12_wordLine 26 = .ok (.bipush 99, 2) := by decide +kernel
theorem dX12_wordLine_28 : decode cX12_wordLine 28 = .ok (.istore_n 3, 1) := by decide +kernel
theorem dX12_wordLine_29 : decode cX12_wordLine 29 = .ok (.aload_n 0, 1) := by decide +kernel
theorem dX12_wordLine_30 : decode cX12_wordLine 30 = .ok (.iconst 0, 1) := by decide +kernel
theorem dX12_wordLine_31 : decode cX12_wordLine 31 = .ok (.iconst 0, 1) := by decide +kernel
theorem dX12_wordLine_32 : decode cX12_wordLine 32 = .ok (.bipush 7, 2) := by decide +kernel
theorem dX12_wordLine_34 : decode cX12_wordLine 34 = .ok (.invokevirtual 162, 3) := by decide +kernel
theorem dX12_wordLine_37 : decode cX12_wordLine 37 = .ok (.ifCond .eq 13, 3) := by decide +kernel
theorem dX12_wordLine_40 : decode cX12_wordLine 40 = .ok (.aload_n 0, 1) := by decide +kernel
theorem dX12_wordLine_41 : decode cX12_wordLine 41 = .ok (.iconst 1, 1) := by decide +kernel
theorem dX12_wordLine_42 : decode cX12_wordLine 42 = .ok (.iconst 0, 1) := by decide +kernel
theorem dX12_wordLine_43 : decode cX12_wordLine 43 = .ok (.iload_n 3, 1) := by decide +kernel
theorem dX12_wordLine_44 : decode cX12_wordLine 44 = .ok (.invokevirtual 162, 3) := by decide +kernel
theorem dX12_wordLine_47 : decode cX12_wordLine 47 = .ok (.ifCond .ne 5, 3) := by decide +kernel
theorem dX12_wordLine_50 : decode cX12_wordLine 50 = .ok (.iconst 0, 1) := by decide +kernel
theorem dX12_wordLine_51 : decode cX12_wordLine 51 = .ok (.ireturn, 1) := by decide +kernel
theorem dX12_wordLine_52 : decode cX12_wordLine 52 = .ok (.aload_n 0, 1) := by decide +kernel
theorem dX12_wordLine_53 : decode cX12_wordLine 53 = .ok (.getfield 149, 3) := by decide +kernel
theorem dX12_wordLine_56 : decode cX12_wordLine 56 = .ok (.ifCond .eq 48, 3) := by decide +kernel
theorem dX12_wordLine_59 : decode cX12_wordLine 59 = .ok (.aload_n 0, 1) := by decide +kernel
theorem dX12_wordLine_60 : decode cX12_wordLine 60 = .ok (.getfield 38, 3) := by decide +kernel
theorem dX12_wordLine_63 : decode cX12_wordLine 63 = .ok (.lload_n 1, 1) := by decide +kernel
theorem dX12_wordLine_64 : decode cX12_wordLine 64 = .ok (.ldc2_w 172, 3) := by decide +kernel
theorem dX12_wordLine_67 : decode cX12_wordLine 67 = .ok (.lcmp, 1) := by decide +kernel
theorem dX12_wordLine_68 : decode cX12_wordLine 68 = .ok (.ifCond .ne 7, 3) := by decide +kernel
theorem dX12_wordLine_71 : decode cX12_wordLine 71 = .ok (.iconst 3, 1) := by decide +kernel
theorem dX12_wordLine_72 : decode cX12_wordLine 72 = .ok (.goto 18, 3) := by decide +kernel
theorem dX12_wordLine_75 : decode cX12_wordLine 75 = .ok (.lload_n 1, 1) := by decide +kernel
theorem dX12_wordLine_76 : decode cX12_wordLine 76 = .ok (.ldc2_w 174, 3) := by decide +kernel
theorem dX12_wordLine_79 : decode cX12_wordLine 79 = .ok (.lcmp, 1) := by decide +kernel
theorem dX12_wordLine_80 : decode cX12_wordLine 80 = .ok (.ifCond .ne 8, 3) := by decide +kernel
theorem dX12_wordLine_83 : decode cX12_wordLine 83 = .ok (.bipush 11, 2) := by decide +kernel
theorem dX12_wordLine_85 : decode cX12_wordLine 85 = .ok (.goto 5, 3) := by decide +kernel
theorem dX12_wordLine_88 : decode cX12_wordLine 88 = .ok (.bipush 19, 2) := by decide +kernel
theorem dX12_wordLine_90 : decode cX12_wordLine 90 = .ok (.aload_n 0, 1) := by decide +kernel
theorem dX12_wordLine_91 : decode cX12_wordLine 91 = .ok (.getfield 41, 3) := by decide +kernel
theorem dX12_wordLine_94 : decode cX12_wordLine 94 = .ok (.iconst 0, 1) := by decide +kernel
theorem dX12_wordLine_95 : decode cX12_wordLine 95 = .ok (.iaload, 1) := by decide +kernel
theorem dX12_wordLine_96 : decode cX12_wordLine 96 = .ok (.iadd, 1) := by decide +kernel
theorem dX12_wordLine_97 : decode cX12_wordLine 97 = .ok (.aload_n 0, 1) := by decide +kernel
theorem dX12_wordLine_98 : decode cX12_wordLine 98 = .ok (.getfield 41, 3) := by decide +kernel
theorem dX12_wordLine_101 : decode cX12_wordLine 101 = .ok (.iconst 1, 1) := by decide +kernel
theorem dX12_wordLine_102 : decode cX12_wordLine 102 = .ok (.iaload, 1) := by decide +kernel
theorem dX12_wordLine_103 : decode cX12_wordLine 103 = .ok (.iastore, 1) := by decide +kernel
theorem dX12_wordLine_104 : decode cX12_wordLine 104 = .ok (.iconst 1, 1) := by decide +kernel
theorem dX12_wordLine_105 : decode cX12_wordLine 105 = .ok (.ireturn, 1) := by decide +kernel
def fX12_wordLine (μ : zM) (x0 : Nat) (x1 : Int64) : Option (Int32 × zM) := zgd (zm_ck μ 12 x0) <|
  zb1 (if (lg_cmp x1 126892383759460) = 0 then (
  some 7)
  else (
  if (lg_cmp x1 32765925218805876) = 0 then (
  some 9)
  else (
  some 99))) fun s1 =>
  zb2 (fX12_take μ x0 0 0 7) fun v5 m4 =>
  if v5 = 0 then (
  some (0, m4))
  else (
  zb2 (fX12_take m4 x0 1 0 s1) fun v8 m7 =>
  if v8 = 0 then (
  some (0, m7))
  else (
  zb1 (zm_gI m7 12 x0 22) fun v9 =>
  zb1 (if v9 = 0 then (
  some m7)
  else (
  zb1 (zm_gR m7 12 x0 19) fun v13 =>
  zb1 (if (lg_cmp x1 126892383759460) = 0 then (
  some 3)
  else (
  if (lg_cmp x1 32765925218805876) = 0 then (
  some 11)
  else (
  some 19))) fun s15 =>
  zb1 (zm_gR m7 12 x0 20) fun v17 =>
  zb1 (zm_aI m7 0 v17 0) fun v19 =>
  zb1 (zm_gR m7 12 x0 20) fun v21 =>
  zb1 (zm_aI m7 0 v21 1) fun v23 =>
  zb1 (zm_sI m7 0 v13 (s15 + v19) v23) fun m25 =>
  some m25)) fun m11 =>
  some (1, m11)))
theorem fX12_wordLine_ck {μ : zM} {x0 : Nat} {x1 : Int64} {z : Int32 × zM} (h : fX12_wordLine μ x0 x1 = some z) : zm_ck μ 12 x0 = true := (zgd_s h).1
set_option maxHeartbeats 4000000 in
set_option maxRecDepth 100000 in
theorem cX12_wordLine_ok {μ : zM} {x0 : Nat} {x1 : Int64} {r : Int32} {mo : zM} (hf : fX12_wordLine μ x0 x1 = some (r, mo)) : zC yX12_wordLine cX12_wordLine 4 (some .boolean) 3 0 0 [.ref x0, .long x1] μ (some (.int r)) mo := by
  replace hf := (zgd_s hf).2
  refine zC.of (by decide) (Nat.le_of_ble_eq_true rfl) (fun K hin => ?_)
  clear hin
  show zz K cX12_wordLine (4, RX12, some .boolean, 3, 0, 0, some (.int r), mo) 0 0 0 [(0, .ref x0), (1, .long x1)] [] μ
  refine zr_lload_n 1 dX12_wordLine_0 rfl ?_
  refine zr_ldc2 zl_830 dX12_wordLine_1 ?_
  refine zr_lcmp dX12_wordLine_4 ?_
  replace hf := zb1_s hf
  obtain ⟨s1, hg, hf⟩ := hf
  have hj2 : zz K cX12_wordLine (4, RX12, some .boolean, 3, 0, 0, some (.int r), mo) 0 0 28 [(0, .ref x0), (1, .long x1)] [.int s1] μ := by
    refine zr_istore_n [(3, .int s1), (0, .ref x0), (1, .long x1)] dX12_wordLine_28 (Nat.le_of_ble_eq_true rfl) rfl ?_
    refine zr_aload_n 1 dX12_wordLine_29 rfl ?_
    refine zr_iconst 0 dX12_wordLine_30 (by decide) ?_
    refine zr_iconst 0 dX12_wordLine_31 (by decide) ?_
    refine zr_bipush 7 dX12_wordLine_32 (by decide) ?_
    replace hf := zb2_s hf
    obtain ⟨v5, m4, h3, hf⟩ := hf
    refine zr_callV (ci := 12) [.int 0, .int 0, .int 7] (cX12_take_ok h3) zvs_X12_take zl_824 zl_825 (fX12_take_ck h3) rfl rfl zl_823 rfl (Nat.le_of_ble_eq_true rfl) (Nat.le_of_ble_eq_true rfl) (Nat.le_of_ble_eq_true rfl) (Nat.le_of_ble_eq_true rfl) dX12_wordLine_34 rfl ?_
    refine zr_if_eq 50 dX12_wordLine_37 (by decide) (fun hc => ?_) (fun hc => ?_)
    · rw [if_pos hc] at hf
      refine zr_iconst 0 dX12_wordLine_50 (by decide) ?_
      cases hf
      exact zr_zret rfl dX12_wordLine_51
    · rw [if_neg hc] at hf
      refine zr_aload_n 1 dX12_wordLine_40 rfl ?_
      refine zr_iconst 1 dX12_wordLine_41 (by decide) ?_
      refine zr_iconst 0 dX12_wordLine_42 (by decide) ?_
      refine zr_iload_n 0 dX12_wordLine_43 rfl ?_
      replace hf := zb2_s hf
      obtain ⟨v8, m7, h6, hf⟩ := hf
      refine zr_callV (ci := 12) [.int 1, .int 0, .int s1] (cX12_take_ok h6) zvs_X12_take zl_824 zl_825 (fX12_take_ck h6) rfl rfl zl_823 rfl (Nat.le_of_ble_eq_true rfl) (Nat.le_of_ble_eq_true rfl) (Nat.le_of_ble_eq_true rfl) (Nat.le_of_ble_eq_true rfl) dX12_wordLine_44 rfl ?_
      refine zr_if_ne 52 dX12_wordLine_47 (by decide) (fun hc => ?_) (fun hc => ?_)
      · rw [if_neg hc] at hf
        refine zr_aload_n 1 dX12_wordLine_52 rfl ?_
        replace hf := zb1_s hf
        obtain ⟨v9, h10, hf⟩ := hf
        refine zr_get (zm_gI_g h10) zk12 (by decide) zl_814 dX12_wordLine_53 ?_
        replace hf := zb1_s hf
        obtain ⟨m11, hg, hf⟩ := hf
        have hj12 : zz K cX12_wordLine (4, RX12, some .boolean, 3, 0, 0, some (.int r), mo) 0 0 104 [] [] m11 := by
          refine zr_iconst 1 dX12_wordLine_104 (by decide) ?_
          cases hf
          exact zr_zret rfl dX12_wordLine_105
        clear hf
        have hf := hg
        clear hg
        refine zr_if_eq 104 dX12_wordLine_56 (by decide) (fun hc => ?_) (fun hc => ?_)
        · rw [if_pos hc] at hf
          cases hf
          exact zr_lv [] rfl hj12
        · rw [if_neg hc] at hf
          refine zr_aload_n 1 dX12_wordLine_59 rfl ?_
          replace hf := zb1_s hf
          obtain ⟨v13, h14, hf⟩ := hf
          refine zr_get (zm_gR_g h14) zk12 (by decide) zl_762 dX12_wordLine_60 ?_
          refine zr_lload_n 2 dX12_wordLine_63 rfl ?_
          refine zr_ldc2 zl_830 dX12_wordLine_64 ?_
          refine zr_lcmp dX12_wordLine_67 ?_
          replace hf := zb1_s hf
          obtain ⟨s15, hg, hf⟩ := hf
          have hj16 : zz K cX12_wordLine (4, RX12, some .boolean, 3, 0, 0, some (.int r), mo) 0 0 90 [(0, .ref x0)] [.int s15, .ref v13] m7 := by
            refine zr_aload_n 0 dX12_wordLine_90 rfl ?_
            replace hf := zb1_s hf
            obtain ⟨v17, h18, hf⟩ := hf
            refine zr_get (zm_gR_g h18) zk12 (by decide) zl_763 dX12_wordLine_91 ?_
            refine zr_iconst 0 dX12_wordLine_94 (by decide) ?_
            replace hf := zb1_s hf
            obtain ⟨v19, h20, hf⟩ := hf
            refine zr_iald h20 dX12_wordLine_95 ?_
            refine zr_iadd dX12_wordLine_96 ?_
            refine zr_aload_n 0 dX12_wordLine_97 rfl ?_
            replace hf := zb1_s hf
            obtain ⟨v21, h22, hf⟩ := hf
            refine zr_get (zm_gR_g h22) zk12 (by decide) zl_763 dX12_wordLine_98 ?_
            refine zr_iconst 1 dX12_wordLine_101 (by decide) ?_
            replace hf := zb1_s hf
            obtain ⟨v23, h24, hf⟩ := hf
            refine zr_iald h24 dX12_wordLine_102 ?_
            replace hf := zb1_s hf
            obtain ⟨m25, h26, hf⟩ := hf
            refine zr_iast h26 dX12_wordLine_103 ?_
            cases hf
            exact zr_lv [] rfl hj12
          clear hf
          have hf := hg
          clear hg
          refine zr_if_ne 75 dX12_wordLine_68 (by decide) (fun hc => ?_) (fun hc => ?_)
          · rw [if_neg hc] at hf
            refine zr_lload_n 2 dX12_wordLine_75 rfl ?_
            refine zr_ldc2 zl_831 dX12_wordLine_76 ?_
            refine zr_lcmp dX12_wordLine_79 ?_
            refine zr_if_ne 88 dX12_wordLine_80 (by decide) (fun hc => ?_) (fun hc => ?_)
            · rw [if_neg hc] at hf
              refine zr_bipush 19 dX12_wordLine_88 (by decide) ?_
              cases hf
              exact zr_lv [1] rfl hj16
            · rw [if_pos hc] at hf
              refine zr_bipush 11 dX12_wordLine_83 (by decide) ?_
              refine zr_goto 90 dX12_wordLine_85 (by decide) ?_
              cases hf
              exact zr_lv [1] rfl hj16
          · rw [if_pos hc] at hf
            refine zr_iconst 3 dX12_wordLine_71 (by decide) ?_
            refine zr_goto 90 dX12_wordLine_72 (by decide) ?_
            cases hf
            exact zr_lv [1] rfl hj16
      · rw [if_pos hc] at hf
        refine zr_iconst 0 dX12_wordLine_50 (by decide) ?_
        cases hf
        exact zr_zret rfl dX12_wordLine_51
  clear hf
  have hf := hg
  clear hg
  refine zr_if_ne 13 dX12_wordLine_5 (by decide) (fun hc => ?_) (fun hc => ?_)
  · rw [if_neg hc] at hf
    refine zr_lload_n 1 dX12_wordLine_13 rfl ?_
    refine zr_ldc2 zl_831 dX12_wordLine_14 ?_
    refine zr_lcmp dX12_wordLine_17 ?_
    refine zr_if_ne 26 dX12_wordLine_18 (by decide) (fun hc => ?_) (fun hc => ?_)
    · rw [if_neg hc] at hf
      refine zr_bipush 99 dX12_wordLine_26 (by decide) ?_
      cases hf
      exact zr_lv [0, 1] rfl hj2
    · rw [if_pos hc] at hf
      refine zr_bipush 9 dX12_wordLine_21 (by decide) ?_
      refine zr_goto 28 dX12_wordLine_23 (by decide) ?_
      cases hf
      exact zr_lv [0, 1] rfl hj2
  · rw [if_pos hc] at hf
    refine zr_bipush 7 dX12_wordLine_8 (by decide) ?_
    refine zr_goto 28 dX12_wordLine_10 (by decide) ?_
    cases hf
    exact zr_lv [0, 1] rfl hj2
theorem zl_832 : Cond.code yX12_kindBy cX12_kindBy 2 (some .int) ∈ zt := zt_at 1558 (by decide +kernel)
theorem zvs_X12_kindBy : zvS yX12_kindBy cX12_kindBy 2 (some .int) 1 := ⟨zl_832, zl_782, ⟨by decide +kernel, by decide +kernel, by decide +kernel⟩, by decide⟩
theorem zl_833 : Cond.methodLink RX12 176 yX12_kindBy ∈ zt := zt_at 1556 (by decide +kernel)
theorem zl_834 : Cond.static yX12_kindBy ∈ zt := zt_at 1557 (by decide +kernel)
theorem zl_835 : Cond.constantLong RX12 180 6713191 ∈ zt := zt_at 1562 (by decide +kernel)
theorem zl_836 : Cond.constantLong RX12 184 2003395685 ∈ zt := zt_at 1564 (by decide +kernel)
theorem zl_837 : Cond.code yX12_wordLine cX12_wordLine 4 (some .boolean) ∈ zt := zt_at 1598 (by decide +kernel)
theorem zvs_X12_wordLine : zvS yX12_wordLine cX12_wordLine 4 (some .boolean) 1 := ⟨zl_837, zl_782, ⟨by decide +kernel, by decide +kernel, by decide +kernel⟩, by decide⟩
theorem zl_838 : Cond.methodLink RX12 200 yX12_wordLine ∈ zt := zt_at 1595 (by decide +kernel)
theorem zl_839 : Cond.instanceMethod yX12_wordLine ∈ zt := zt_at 1597 (by decide +kernel)
theorem zl_840 : Cond.selects RX12 yX12_wordLine yX12_wordLine ∈ zt := zt_at 62 (by decide +kernel)
theorem zl_841 : Cond.constantLong RX12 182 1936617335 ∈ zt := zt_at 1563 (by decide +kernel)
theorem zl_842 : Cond.code yX12_skyLine cX12_skyLine 3 (some .boolean) ∈ zt := zt_at 1594 (by decide +kernel)
theorem zvs_X12_skyLine : zvS yX12_skyLine cX12_skyLine 3 (some .boolean) 1 := ⟨zl_842, zl_782, ⟨by decide +kernel, by decide +kernel, by decide +kernel⟩, by decide⟩
theorem zl_843 : Cond.methodLink RX12 196 yX12_skyLine ∈ zt := zt_at 1591 (by decide +kernel)
theorem zl_844 : Cond.instanceMethod yX12_skyLine ∈ zt := zt_at 1593 (by decide +kernel)
theorem zl_845 : Cond.selects RX12 yX12_skyLine yX12_skyLine ∈ zt := zt_at 61 (by decide +kernel)
theorem zl_846 : Cond.code yX12_personLine cX12_personLine 3 (some .boolean) ∈ zt := zt_at 1583 (by decide +kernel)
theorem zvs_X12_personLine : zvS yX12_personLine cX12_personLine 3 (some .boolean) 1 := ⟨zl_846, zl_782, ⟨by decide +kernel, by decide +kernel, by decide +kernel⟩, by decide⟩
theorem zl_847 : Cond.methodLink RX12 192 yX12_personLine ∈ zt := zt_at 1580 (by decide +kernel)
theorem zl_848 : Cond.instanceMethod yX12_personLine ∈ zt := zt_at 1582 (by decide +kernel)
theorem zl_849 : Cond.selects RX12 yX12_personLine yX12_personLine ∈ zt := zt_at 59 (by decide +kernel)
theorem zl_850 : Cond.code yX12_full cX12_full 4 (none) ∈ zt := zt_at 1575 (by decide +kernel)
theorem zvs_X12_full : zvS yX12_full cX12_full 4 (none) 3 := ⟨zl_850, zl_782, ⟨by decide +kernel, by decide +kernel, by decide +kernel⟩, by decide⟩
theorem zl_851 : Cond.methodLink RX12 188 yX12_full ∈ zt := zt_at 1572 (by decide +kernel)
theorem zl_852 : Cond.instanceMethod yX12_full ∈ zt := zt_at 1574 (by decide +kernel)
theorem zl_853 : Cond.selects RX12 yX12_full yX12_full ∈ zt := zt_at 57 (by decide +kernel)
theorem zl_854 : Cond.constantLong RX12 186 131277443786868 ∈ zt := zt_at 1567 (by decide +kernel)
theorem dX12_valleyLine_0 : decode cX12_valleyLine 0 = .ok (.lload_n 1, 1) := by decide +kernel
theorem dX12_valleyLine_1 : decode cX12_valleyLine 1 = .ok (.invokestatic 176, 3) := by decide +kernel
theorem dX12_valleyLine_4 : decode cX12_valleyLine 4 = .ok (.istore 4, 2) := by decide +kernel
theorem dX12_valleyLine_6 : decode cX12_valleyLine 6 = .ok (.lload_n 1, 1) := by decide +kernel
theorem dX12_valleyLine_7 : decode cX12_valleyLine 7 = .ok (.ldc2_w 180, 3) := by decide +kernel
theorem dX12_valleyLine_10 : decode cX12_valleyLine 10 = .ok (.lcmp, 1) := by decide +kernel
theorem dX12_valleyLine_11 : decode cX12_valleyLine 11 = .ok (.ifCond .eq 11, 3) := by decide +kernel
theorem dX12_valleyLine_14 : decode cX12_valleyLine 14 = .ok (.lload_n 1, 1) := by decide +kernel
theorem dX12_valleyLine_15 : decode cX12_valleyLine 15 = .ok (.ldc2_w 182, 3) := by decide +kernel
theorem dX12_valleyLine_18 : decode cX12_valleyLine 18 = .ok (.lcmp, 1) := by decide +kernel
theorem dX12_valleyLine_19 : decode cX12_valleyLine 19 = .ok (.ifCond .ne 7, 3) := by decide +kernel
theorem dX12_valleyLine_22 : decode cX12_valleyLine 22 = .ok (.iconst 1, 1) := by decide +kernel
theorem dX12_valleyLine_23 : decode cX12_valleyLine 23 = .ok (.goto 4, 3) := by decide +kernel
theorem dX12_valleyLine_26 : decode cX12_valleyLine 26 = .ok (.iconst 0, 1) := by decide +kernel
theorem dX12_valleyLine_27 : decode cX12_valleyLine 27 = .ok (.istore 5, 2) := by decide +kernel
theorem dX12_valleyLine_29 : decode cX12_valleyLine 29 = .ok (.iload 4, 2) := by decide +kernel
theorem dX12_valleyLine_31 : decode cX12_valleyLine 31 = .ok (.iconst (-1), 1) := by decide +kernel
theorem dX12_valleyLine_32 : decode cX12_valleyLine 32 = .ok (.if_icmp .ne 45, 3) := by decide +kernel
theorem dX12_valleyLine_35 : decode cX12_valleyLine 35 = .ok (.iload 5, 2) := by decide +kernel
theorem dX12_valleyLine_37 : decode cX12_valleyLine 37 = .ok (.ifCond .ne 40, 3) := by decide +kernel
theorem dX12_valleyLine_40 : decode cX12_valleyLine 40 = .ok (.lload_n 1, 1) := by decide +kernel
theorem dX12_valleyLine_41 : decode cX12_valleyLine 41 = .ok (.ldc2_w 184, 3) := by decide +kernel
theorem dX12_valleyLine_44 : decode cX12_valleyLine 44 = .ok (.lcmp, 1) := by decide +kernel
theorem dX12_valleyLine_45 : decode cX12_valleyLine 45 = .ok (.ifCond .eq 32, 3) := by decide +kernel
theorem dX12_valleyLine_48 : decode cX12_valleyLine 48 = .ok (.lload_n 1, 1) := by decide +kernel
theorem dX12_valleyLine_49 : decode cX12_valleyLine 49 = .ok (.ldc2_w 172, 3) := by decide +kernel
theorem dX12_valleyLine_52 : decode cX12_valleyLine 52 = .ok (.lcmp, 1) := by decide +kernel
theorem dX12_valleyLine_53 : decode cX12_valleyLine 53 = .ok (.ifCond .eq 24, 3) := by decide +kernel
theorem dX12_valleyLine_56 : decode cX12_valleyLine 56 = .ok (.lload_n 1, 1) := by decide +kernel
theorem dX12_valleyLine_57 : decode cX12_valleyLine 57 = .ok (.ldc2_w 174, 3) := by decide +kernel
theorem dX12_valleyLine_60 : decode cX12_valleyLine 60 = .ok (.lcmp, 1) := by decide +kernel
theorem dX12_valleyLine_61 : decode cX12_valleyLine 61 = .ok (.ifCond .eq 16, 3) := by decide +kernel
theorem dX12_valleyLine_64 : decode cX12_valleyLine 64 = .ok (.lload_n 1, 1) := by decide +kernel
theorem dX12_valleyLine_65 : decode cX12_valleyLine 65 = .ok (.ldc2_w 186, 3) := by decide +kernel
theorem dX12_valleyLine_68 : decode cX12_valleyLine 68 = .ok (.lcmp, 1) := by decide +kernel
theorem dX12_valleyLine_69 : decode cX12_valleyLine 69 = .ok (.ifCond .eq 8, 3) := by decide +kernel
theorem dX12_valleyLine_72 : decode cX12_valleyLine 72 = .ok (.aload_n 0, 1) := by decide +kernel
theorem dX12_valleyLine_73 : decode cX12_valleyLine 73 = .ok (.invokevirtual 141, 3) := by decide +kernel
theorem dX12_valleyLine_76 : decode cX12_valleyLine 76 = .ok (.ireturn, 1) := by decide +kernel
theorem dX12_valleyLine_77 : decode cX12_valleyLine 77 = .ok (.iload 4, 2) := by decide +kernel
theorem dX12_valleyLine_79 : decode cX12_valleyLine 79 = .ok (.iconst (-1), 1) := by decide +kernel
theorem dX12_valleyLine_80 : decode cX12_valleyLine 80 = .ok (.if_icmp .eq 11, 3) := by decide +kernel
theorem dX12_valleyLine_83 : decode cX12_valleyLine 83 = .ok (.aload_n 0, 1) := by decide +kernel
theorem dX12_valleyLine_84 : decode cX12_valleyLine 84 = .ok (.iconst 1, 1) := by decide +kernel
theorem dX12_valleyLine_85 : decode cX12_valleyLine 85 = .ok (.bipush 6, 2) := by decide +kernel
theorem dX12_valleyLine_87 : decode cX12_valleyLine 87 = .ok (.iload_n 3, 1) := by decide +kernel
theorem dX12_valleyLine_88 : decode cX12_valleyLine 88 = .ok (.invokevirtual 188, 3) := by decide +kernel
theorem dX12_valleyLine_91 : decode cX12_valleyLine 91 = .ok (.iload 5, 2) := by decide +kernel
theorem dX12_valleyLine_93 : decode cX12_valleyLine 93 = .ok (.ifCond .eq 10, 3) := by decide +kernel
theorem dX12_valleyLine_96 : decode cX12_valleyLine 96 = .ok (.aload_n 0, 1) := by decide +kernel
theorem dX12_valleyLine_97 : decode cX12_valleyLine 97 = .ok (.iconst 2, 1) := by decide +kernel
theorem dX12_valleyLine_98 : decode cX12_valleyLine 98 = .ok (.iconst 4, 1) := by decide +kernel
theorem dX12_valleyLine_99 : decode cX12_valleyLine 99 = .ok (.iload_n 3, 1) := by decide +kernel
theorem dX12_valleyLine_100 : decode cX12_valleyLine 100 = .ok (.invokevirtual 188, 3) := by decide +kernel
theorem dX12_valleyLine_103 : decode cX12_valleyLine 103 = .ok (.aload_n 0, 1) := by decide +kernel
theorem dX12_valleyLine_104 : decode cX12_valleyLine 104 = .ok (.invokevirtual 153, 3) := by decide +kernel
theorem dX12_valleyLine_107 : decode cX12_valleyLine 107 = .ok (.iload 4, 2) := by decide +kernel
theorem dX12_valleyLine_109 : decode cX12_valleyLine 109 = .ok (.iconst (-1), 1) := by decide +kernel
theorem dX12_valleyLine_110 : decode cX12_valleyLine 110 = .ok (.if_icmp .eq 10, 3) := by decide +kernel
theorem dX12_valleyLine_113 : decode cX12_valleyLine 113 = .ok (.aload_n 0, 1) := by decide +kernel
theorem dX12_valleyLine_114 : decode cX12_valleyLine 114 = .ok (.iload 4, 2) := by decide +kernel
theorem dX12_valleyLine_116 : decode cX12_valleyLine 116 = .ok (.invokevirtual 192, 3) := by decide +kernel
theorem dX12_valleyLine_119 : decode cX12_valleyLine 119 = .ok (.ireturn, 1) := by decide +kernel
theorem dX12_valleyLine_120 : decode cX12_valleyLine 120 = .ok (.iload 5, 2) := by decide +kernel
theorem dX12_valleyLine_122 : decode cX12_valleyLine 122 = .ok (.ifCond .eq 21, 3) := by decide +kernel
theorem dX12_valleyLine_125 : decode cX12_valleyLine 125 = .ok (.aload_n 0, 1) := by decide +kernel
theorem dX12_valleyLine_126 : decode cX12_valleyLine 126 = .ok (.lload_n 1, 1) := by decide +kernel
theorem dX12_valleyLine_127 : decode cX12_valleyLine 127 = .ok (.ldc2_w 182, 3) := by decide +kernel
theorem dX12_valleyLine_130 : decode cX12_valleyLine 130 = .ok (.lcmp, 1) := by decide +kernel
theorem dX12_valleyLine_131 : decode cX12_valleyLine 131 = .ok (.ifCond .ne 7, 3) := by decide +kernel
theorem dX12_valleyLine_134 : decode cX12_valleyLine 134 = .ok (.iconst 1, 1) := by decide +kernel
theorem dX12_valleyLine_135 : decode cX12_valleyLine 135 = .ok (.goto 4, 3) := by decide +kernel
theorem dX12_valleyLine_138 : decode cX12_valleyLine 138 = .ok (.iconst 0, 1) := by decide +kernel
theorem dX12_valleyLine_139 : decode cX12_valleyLine 139 = .ok (.invokevirtual 196, 3) := by decide +kernel
theorem dX12_valleyLine_142 : decode cX12_valleyLine 142 = .ok (.ireturn, 1) := by decide +kernel
theorem dX12_valleyLine_143 : decode cX12_valleyLine 143 = .ok (.lload_n 1, 1) := by decide +kernel
theorem dX12_valleyLine_144 : decode cX12_valleyLine 144 = .ok (.ldc2_w 184, 3) := by decide +kernel
theorem dX12_valleyLine_147 : decode cX12_valleyLine 147 = .ok (.lcmp, 1) := by decide +kernel
theorem dX12_valleyLine_148 : decode cX12_valleyLine 148 = .ok (.ifCond .eq 9, 3) := by decide +kernel
theorem dX12_valleyLine_151 : decode cX12_valleyLine 151 = .ok (.aload_n 0, 1) := by decide +kernel
theorem dX12_valleyLine_152 : decode cX12_valleyLine 152 = .ok (.lload_n 1, 1) := by decide +kernel
theorem dX12_valleyLine_153 : decode cX12_valleyLine 153 = .ok (.invokevirtual 200, 3) := by decide +kernel
theorem dX12_valleyLine_156 : decode cX12_valleyLine 156 = .ok (.ireturn, 1) := by decide +kernel
theorem dX12_valleyLine_157 : decode cX12_valleyLine 157 = .ok (.aload_n 0, 1) := by decide +kernel
theorem dX12_valleyLine_158 : decode cX12_valleyLine 158 = .ok (.iconst 0, 1) := by decide +kernel
theorem dX12_valleyLine_159 : decode cX12_valleyLine 159 = .ok (.iconst 2, 1) := by decide +kernel
theorem dX12_valleyLine_160 : decode cX12_valleyLine 160 = .ok (.bipush 30, 2) := by decide +kernel
theorem dX12_valleyLine_162 : decode cX12_valleyLine 162 = .ok (.invokevirtual 162, 3) := by decide +kernel
theorem dX12_valleyLine_165 : decode cX12_valleyLine 165 = .ok (.ifCond .ne 5, 3) := by decide +kernel
theorem dX12_valleyLine_168 : decode cX12_valleyLine 168 = .ok (.iconst 0, 1) := by decide +kernel
theorem dX12_valleyLine_169 : decode cX12_valleyLine 169 = .ok (.ireturn, 1) := by decide +kernel
theorem dX12_valleyLine_170 : decode cX12_valleyLine 170 = .ok (.aload_n 0, 1) := by decide +kernel
theorem dX12_valleyLine_171 : decode cX12_valleyLine 171 = .ok (.getfield 38, 3) := by decide +kernel
theorem dX12_valleyLine_174 : decode cX12_valleyLine 174 = .ok (.iconst 0, 1) := by decide +kernel
theorem dX12_valleyLine_175 : decode cX12_valleyLine 175 = .ok (.aload_n 0, 1) := by decide +kernel
theorem dX12_valleyLine_176 : decode cX12_valleyLine 176 = .ok (.getfield 41, 3) := by decide +kernel
theorem dX12_valleyLine_179 : decode cX12_valleyLine 179 = .ok (.iconst 0, 1) := by decide +kernel
theorem dX12_valleyLine_180 : decode cX12_valleyLine 180 = .ok (.iaload, 1) := by decide +kernel
theorem dX12_valleyLine_181 : decode cX12_valleyLine 181 = .ok (.iastore, 1) := by decide +kernel
theorem dX12_valleyLine_182 : decode cX12_valleyLine 182 = .ok (.iconst 1, 1) := by decide +kernel
theorem dX12_valleyLine_183 : decode cX12_valleyLine 183 = .ok (.ireturn, 1) := by decide +kernel
def fX12_valleyLine_b22  : Option (Int32) :=
  some 1
def fX12_valleyLine_b77 (v2 : Int32) (μ : zM) (x0 : Nat) (x3 : Int32) (s3 : Int32) (x1 : Int64) : Option (Int32 × zM) :=
  zb1 (if v2 = (-1) then (
  some μ)
  else (
  zb1 (fX12_full μ x0 1 6 x3) fun m43 =>
  some m43)) fun m6 =>
  zb1 (if s3 = 0 then (
  some m6)
  else (
  zb1 (fX12_full m6 x0 2 4 x3) fun m41 =>
  some m41)) fun m8 =>
  zb1 (fX12_token m8 x0) fun m11 =>
  if v2 = (-1) then (
  if s3 = 0 then (
  if (lg_cmp x1 2003395685) = 0 then (
  zb2 (fX12_take m11 x0 0 2 30) fun v14 m13 =>
  if v14 = 0 then (
  some (0, m13))
  else (
  zb1 (zm_gR m13 12 x0 19) fun v15 =>
  zb1 (zm_gR m13 12 x0 20) fun v17 =>
  zb1 (zm_aI m13 0 v17 0) fun v19 =>
  zb1 (zm_sI m13 0 v15 0 v19) fun m21 =>
  some (1, m21)))
  else (
  zb2 (fX12_wordLine m11 x0 x1) fun v25 m24 =>
  zb1 (zbz v25) fun v26 =>
  some (v26, m24)))
  else (
  zb1 (if (lg_cmp x1 1936617335) = 0 then (
  some 1)
  else (
  some 0)) fun s28 =>
  zb2 (fX12_skyLine m11 x0 s28) fun v32 m31 =>
  zb1 (zbz v32) fun v33 =>
  some (v33, m31)))
  else (
  zb2 (fX12_personLine m11 x0 v2) fun v37 m36 =>
  zb1 (zbz v37) fun v38 =>
  some (v38, m36))
def fX12_valleyLine (μ : zM) (x0 : Nat) (x1 : Int64) (x3 : Int32) : Option (Int32 × zM) := zgd (zm_ck μ 12 x0) <|
  zb1 (fX12_kindBy μ x1) fun v2 =>
  zb1 (if (lg_cmp x1 6713191) = 0 then (
  fX12_valleyLine_b22)
  else (
  if (lg_cmp x1 1936617335) = 0 then (
  fX12_valleyLine_b22)
  else (
  some 0))) fun s3 =>
  if v2 = (-1) then (
  if s3 = 0 then (
  if (lg_cmp x1 2003395685) = 0 then (
  fX12_valleyLine_b77 v2 μ x0 x3 s3 x1)
  else (
  if (lg_cmp x1 126892383759460) = 0 then (
  fX12_valleyLine_b77 v2 μ x0 x3 s3 x1)
  else (
  if (lg_cmp x1 32765925218805876) = 0 then (
  fX12_valleyLine_b77 v2 μ x0 x3 s3 x1)
  else (
  if (lg_cmp x1 131277443786868) = 0 then (
  fX12_valleyLine_b77 v2 μ x0 x3 s3 x1)
  else (
  zb2 (fX12_fails μ x0) fun v47 m46 =>
  zb1 (zbz v47) fun v48 =>
  some (v48, m46))))))
  else (
  fX12_valleyLine_b77 v2 μ x0 x3 s3 x1))
  else (
  fX12_valleyLine_b77 v2 μ x0 x3 s3 x1)
theorem fX12_valleyLine_ck {μ : zM} {x0 : Nat} {x1 : Int64} {x3 : Int32} {z : Int32 × zM} (h : fX12_valleyLine μ x0 x1 x3 = some z) : zm_ck μ 12 x0 = true := (zgd_s h).1
set_option maxHeartbeats 4000000 in
set_option maxRecDepth 100000 in
theorem cX12_valleyLine_ok {μ : zM} {x0 : Nat} {x1 : Int64} {x3 : Int32} {r : Int32} {mo : zM} (hf : fX12_valleyLine μ x0 x1 x3 = some (r, mo)) : zC yX12_valleyLine cX12_valleyLine 6 (some .boolean) 4 0 0 [.ref x0, .long x1, .int x3] μ (some (.int r)) mo := by
  replace hf := (zgd_s hf).2
  refine zC.of (by decide) (Nat.le_of_ble_eq_true rfl) (fun K hin => ?_)
  clear hin
  show zz K cX12_valleyLine (6, RX12, some .boolean, 4, 0, 0, some (.int r), mo) 0 0 0 [(0, .ref x0), (1, .long x1), (3, .int x3)] [] μ
  refine zr_lload_n 1 dX12_valleyLine_0 rfl ?_
  replace hf := zb1_s hf
  obtain ⟨v2, h1, hf⟩ := hf
  refine zr_callS [.long x1] (cX12_kindBy_ok h1) zvs_X12_kindBy zl_834 zl_833 rfl (Nat.le_of_ble_eq_true rfl) (Nat.le_of_ble_eq_true rfl) (Nat.le_of_ble_eq_true rfl) (Nat.le_of_ble_eq_true rfl) dX12_valleyLine_1 rfl ?_
  refine zr_istore [(4, .int v2), (0, .ref x0), (1, .long x1), (3, .int x3)] dX12_valleyLine_4 (Nat.le_of_ble_eq_true rfl) rfl ?_
  refine zr_lload_n 2 dX12_valleyLine_6 rfl ?_
  refine zr_ldc2 zl_835 dX12_valleyLine_7 ?_
  refine zr_lcmp dX12_valleyLine_10 ?_
  replace hf := zb1_s hf
  obtain ⟨s3, hg, hf⟩ := hf
  have hj4 : zz K cX12_valleyLine (6, RX12, some .boolean, 4, 0, 0, some (.int r), mo) 0 0 27 [(0, .ref x0), (1, .long x1), (3, .int x3), (4, .int v2)] [.int s3] μ := by
    refine zr_istore [(5, .int s3), (0, .ref x0), (1, .long x1), (3, .int x3), (4, .int v2)] dX12_valleyLine_27 (Nat.le_of_ble_eq_true rfl) rfl ?_
    refine zr_iload 4 dX12_valleyLine_29 rfl ?_
    refine zr_iconst (-1) dX12_valleyLine_31 (by decide) ?_
    have hb44 : ∀ (_ : Unit), fX12_valleyLine_b77 v2 μ x0 x3 s3 x1 = some (r, mo) → zz K cX12_valleyLine (6, RX12, some .boolean, 4, 0, 0, some (.int r), mo) 0 0 77 [(0, .ref x0), (1, .long x1), (3, .int x3), (4, .int v2), (5, .int s3)] [] μ := by
      intro _ hf
      unfold fX12_valleyLine_b77 at hf
      refine zr_iload 3 dX12_valleyLine_77 rfl ?_
      refine zr_iconst (-1) dX12_valleyLine_79 (by decide) ?_
      replace hf := zb1_s hf
      obtain ⟨m6, hg, hf⟩ := hf
      have hj7 : zz K cX12_valleyLine (6, RX12, some .boolean, 4, 0, 0, some (.int r), mo) 0 0 91 [(0, .ref x0), (1, .long x1), (3, .int x3), (4, .int v2), (5, .int s3)] [] m6 := by
        refine zr_iload 4 dX12_valleyLine_91 rfl ?_
        replace hf := zb1_s hf
        obtain ⟨m8, hg, hf⟩ := hf
        have hj9 : zz K cX12_valleyLine (6, RX12, some .boolean, 4, 0, 0, some (.int r), mo) 0 0 103 [(0, .ref x0), (1, .long x1), (4, .int v2), (5, .int s3)] [] m8 := by
          refine zr_aload_n 0 dX12_valleyLine_103 rfl ?_
          replace hf := zb1_s hf
          obtain ⟨m11, h10, hf⟩ := hf
          refine zr_callV (ci := 12) [] (cX12_token_ok h10) zvs_X12_token zl_808 zl_809 (fX12_token_ck h10) rfl rfl zl_807 rfl (Nat.le_of_ble_eq_true rfl) (Nat.le_of_ble_eq_true rfl) (Nat.le_of_ble_eq_true rfl) (Nat.le_of_ble_eq_true rfl) dX12_valleyLine_104 rfl ?_
          refine zr_iload 2 dX12_valleyLine_107 rfl ?_
          refine zr_iconst (-1) dX12_valleyLine_109 (by decide) ?_
          refine zr_icmp_eq 120 dX12_valleyLine_110 (by decide) (fun hc => ?_) (fun hc => ?_)
          · rw [if_pos hc] at hf
            refine zr_iload 3 dX12_valleyLine_120 rfl ?_
            refine zr_if_eq 143 dX12_valleyLine_122 (by decide) (fun hc => ?_) (fun hc => ?_)
            · rw [if_pos hc] at hf
              refine zr_lload_n 1 dX12_valleyLine_143 rfl ?_
              refine zr_ldc2 zl_836 dX12_valleyLine_144 ?_
              refine zr_lcmp dX12_valleyLine_147 ?_
              refine zr_if_eq 157 dX12_valleyLine_148 (by decide) (fun hc => ?_) (fun hc => ?_)
              · rw [if_pos hc] at hf
                refine zr_aload_n 0 dX12_valleyLine_157 rfl ?_
                refine zr_iconst 0 dX12_valleyLine_158 (by decide) ?_
                refine zr_iconst 2 dX12_valleyLine_159 (by decide) ?_
                refine zr_bipush 30 dX12_valleyLine_160 (by decide) ?_
                replace hf := zb2_s hf
                obtain ⟨v14, m13, h12, hf⟩ := hf
                refine zr_callV (ci := 12) [.int 0, .int 2, .int 30] (cX12_take_ok h12) zvs_X12_take zl_824 zl_825 (fX12_take_ck h12) rfl rfl zl_823 rfl (Nat.le_of_ble_eq_true rfl) (Nat.le_of_ble_eq_true rfl) (Nat.le_of_ble_eq_true rfl) (Nat.le_of_ble_eq_true rfl) dX12_valleyLine_162 rfl ?_
                refine zr_if_ne 170 dX12_valleyLine_165 (by decide) (fun hc => ?_) (fun hc => ?_)
                · rw [if_neg hc] at hf
                  refine zr_aload_n 0 dX12_valleyLine_170 rfl ?_
                  replace hf := zb1_s hf
                  obtain ⟨v15, h16, hf⟩ := hf
                  refine zr_get (zm_gR_g h16) zk12 (by decide) zl_762 dX12_valleyLine_171 ?_
                  refine zr_iconst 0 dX12_valleyLine_174 (by decide) ?_
                  refine zr_aload_n 0 dX12_valleyLine_175 rfl ?_
                  replace hf := zb1_s hf
                  obtain ⟨v17, h18, hf⟩ := hf
                  refine zr_get (zm_gR_g h18) zk12 (by decide) zl_763 dX12_valleyLine_176 ?_
                  refine zr_iconst 0 dX12_valleyLine_179 (by decide) ?_
                  replace hf := zb1_s hf
                  obtain ⟨v19, h20, hf⟩ := hf
                  refine zr_iald h20 dX12_valleyLine_180 ?_
                  replace hf := zb1_s hf
                  obtain ⟨m21, h22, hf⟩ := hf
                  refine zr_iast h22 dX12_valleyLine_181 ?_
                  refine zr_iconst 1 dX12_valleyLine_182 (by decide) ?_
                  cases hf
                  exact zr_zret rfl dX12_valleyLine_183
                · rw [if_pos hc] at hf
                  refine zr_iconst 0 dX12_valleyLine_168 (by decide) ?_
                  cases hf
                  exact zr_zret rfl dX12_valleyLine_169
              · rw [if_neg hc] at hf
                refine zr_aload_n 0 dX12_valleyLine_151 rfl ?_
                refine zr_lload_n 1 dX12_valleyLine_152 rfl ?_
                replace hf := zb2_s hf
                obtain ⟨v25, m24, h23, hf⟩ := hf
                refine zr_callV (ci := 12) [.long x1] (cX12_wordLine_ok h23) zvs_X12_wordLine zl_839 zl_840 (fX12_wordLine_ck h23) rfl rfl zl_838 rfl (Nat.le_of_ble_eq_true rfl) (Nat.le_of_ble_eq_true rfl) (Nat.le_of_ble_eq_true rfl) (Nat.le_of_ble_eq_true rfl) dX12_valleyLine_153 rfl ?_
                replace hf := zb1_s hf
                obtain ⟨v26, hn27, hf⟩ := hf
                obtain ⟨hn27, rfl⟩ := zbz_s hn27
                cases hf
                exact zr_zret hn27 dX12_valleyLine_156
            · rw [if_neg hc] at hf
              refine zr_aload_n 0 dX12_valleyLine_125 rfl ?_
              refine zr_lload_n 1 dX12_valleyLine_126 rfl ?_
              refine zr_ldc2 zl_841 dX12_valleyLine_127 ?_
              refine zr_lcmp dX12_valleyLine_130 ?_
              replace hf := zb1_s hf
              obtain ⟨s28, hg, hf⟩ := hf
              have hj29 : zz K cX12_valleyLine (6, RX12, some .boolean, 4, 0, 0, some (.int r), mo) 0 0 139 [] [.int s28, .ref x0] m11 := by
                replace hf := zb2_s hf
                obtain ⟨v32, m31, h30, hf⟩ := hf
                refine zr_callV (ci := 12) [.int s28] (cX12_skyLine_ok h30) zvs_X12_skyLine zl_844 zl_845 (fX12_skyLine_ck h30) rfl rfl zl_843 rfl (Nat.le_of_ble_eq_true rfl) (Nat.le_of_ble_eq_true rfl) (Nat.le_of_ble_eq_true rfl) (Nat.le_of_ble_eq_true rfl) dX12_valleyLine_139 rfl ?_
                replace hf := zb1_s hf
                obtain ⟨v33, hn34, hf⟩ := hf
                obtain ⟨hn34, rfl⟩ := zbz_s hn34
                cases hf
                exact zr_zret hn34 dX12_valleyLine_142
              clear hf
              have hf := hg
              clear hg
              refine zr_if_ne 138 dX12_valleyLine_131 (by decide) (fun hc => ?_) (fun hc => ?_)
              · rw [if_neg hc] at hf
                refine zr_iconst 0 dX12_valleyLine_138 (by decide) ?_
                cases hf
                exact zr_lv [] rfl hj29
              · rw [if_pos hc] at hf
                refine zr_iconst 1 dX12_valleyLine_134 (by decide) ?_
                refine zr_goto 139 dX12_valleyLine_135 (by decide) ?_
                cases hf
                exact zr_lv [] rfl hj29
          · rw [if_neg hc] at hf
            refine zr_aload_n 0 dX12_valleyLine_113 rfl ?_
            refine zr_iload 2 dX12_valleyLine_114 rfl ?_
            replace hf := zb2_s hf
            obtain ⟨v37, m36, h35, hf⟩ := hf
            refine zr_callV (ci := 12) [.int v2] (cX12_personLine_ok h35) zvs_X12_personLine zl_848 zl_849 (fX12_personLine_ck h35) rfl rfl zl_847 rfl (Nat.le_of_ble_eq_true rfl) (Nat.le_of_ble_eq_true rfl) (Nat.le_of_ble_eq_true rfl) (Nat.le_of_ble_eq_true rfl) dX12_valleyLine_116 rfl ?_
            replace hf := zb1_s hf
            obtain ⟨v38, hn39, hf⟩ := hf
            obtain ⟨hn39, rfl⟩ := zbz_s hn39
            cases hf
            exact zr_zret hn39 dX12_valleyLine_119
        clear hf
        have hf := hg
        clear hg
        refine zr_if_eq 103 dX12_valleyLine_93 (by decide) (fun hc => ?_) (fun hc => ?_)
        · rw [if_pos hc] at hf
          cases hf
          exact zr_lv [0, 1, 3, 4] rfl hj9
        · rw [if_neg hc] at hf
          refine zr_aload_n 0 dX12_valleyLine_96 rfl ?_
          refine zr_iconst 2 dX12_valleyLine_97 (by decide) ?_
          refine zr_iconst 4 dX12_valleyLine_98 (by decide) ?_
          refine zr_iload_n 2 dX12_valleyLine_99 rfl ?_
          replace hf := zb1_s hf
          obtain ⟨m41, h40, hf⟩ := hf
          refine zr_callV (ci := 12) [.int 2, .int 4, .int x3] (cX12_full_ok h40) zvs_X12_full zl_852 zl_853 (fX12_full_ck h40) rfl rfl zl_851 rfl (Nat.le_of_ble_eq_true rfl) (Nat.le_of_ble_eq_true rfl) (Nat.le_of_ble_eq_true rfl) (Nat.le_of_ble_eq_true rfl) dX12_valleyLine_100 rfl ?_
          cases hf
          exact zr_lv [0, 1, 3, 4] rfl hj9
      clear hf
      have hf := hg
      clear hg
      refine zr_icmp_eq 91 dX12_valleyLine_80 (by decide) (fun hc => ?_) (fun hc => ?_)
      · rw [if_pos hc] at hf
        cases hf
        exact zr_lv [0, 1, 2, 3, 4] rfl hj7
      · rw [if_neg hc] at hf
        refine zr_aload_n 0 dX12_valleyLine_83 rfl ?_
        refine zr_iconst 1 dX12_valleyLine_84 (by decide) ?_
        refine zr_bipush 6 dX12_valleyLine_85 (by decide) ?_
        refine zr_iload_n 2 dX12_valleyLine_87 rfl ?_
        replace hf := zb1_s hf
        obtain ⟨m43, h42, hf⟩ := hf
        refine zr_callV (ci := 12) [.int 1, .int 6, .int x3] (cX12_full_ok h42) zvs_X12_full zl_852 zl_853 (fX12_full_ck h42) rfl rfl zl_851 rfl (Nat.le_of_ble_eq_true rfl) (Nat.le_of_ble_eq_true rfl) (Nat.le_of_ble_eq_true rfl) (Nat.le_of_ble_eq_true rfl) dX12_valleyLine_88 rfl ?_
        cases hf
        exact zr_lv [0, 1, 2, 3, 4] rfl hj7
    refine zr_icmp_ne 77 dX12_valleyLine_32 (by decide) (fun hc => ?_) (fun hc => ?_)
    · rw [if_neg hc] at hf
      exact zr_lv [1, 2, 3, 4, 0] rfl (hb44 () hf)
    · rw [if_pos hc] at hf
      refine zr_iload 0 dX12_valleyLine_35 rfl ?_
      refine zr_if_ne 77 dX12_valleyLine_37 (by decide) (fun hc => ?_) (fun hc => ?_)
      · rw [if_neg hc] at hf
        exact zr_lv [1, 2, 3, 4, 0] rfl (hb44 () hf)
      · rw [if_pos hc] at hf
        refine zr_lload_n 2 dX12_valleyLine_40 rfl ?_
        refine zr_ldc2 zl_836 dX12_valleyLine_41 ?_
        refine zr_lcmp dX12_valleyLine_44 ?_
        refine zr_if_eq 77 dX12_valleyLine_45 (by decide) (fun hc => ?_) (fun hc => ?_)
        · rw [if_pos hc] at hf
          exact zr_lv [1, 2, 3, 4, 0] rfl (hb44 () hf)
        · rw [if_neg hc] at hf
          refine zr_lload_n 2 dX12_valleyLine_48 rfl ?_
          refine zr_ldc2 zl_830 dX12_valleyLine_49 ?_
          refine zr_lcmp dX12_valleyLine_52 ?_
          refine zr_if_eq 77 dX12_valleyLine_53 (by decide) (fun hc => ?_) (fun hc => ?_)
          · rw [if_pos hc] at hf
            exact zr_lv [1, 2, 3, 4, 0] rfl (hb44 () hf)
          · rw [if_neg hc] at hf
            refine zr_lload_n 2 dX12_valleyLine_56 rfl ?_
            refine zr_ldc2 zl_831 dX12_valleyLine_57 ?_
            refine zr_lcmp dX12_valleyLine_60 ?_
            refine zr_if_eq 77 dX12_valleyLine_61 (by decide) (fun hc => ?_) (fun hc => ?_)
            · rw [if_pos hc] at hf
              exact zr_lv [1, 2, 3, 4, 0] rfl (hb44 () hf)
            · rw [if_neg hc] at hf
              refine zr_lload_n 2 dX12_valleyLine_64 rfl ?_
              refine zr_ldc2 zl_854 dX12_valleyLine_65 ?_
              refine zr_lcmp dX12_valleyLine_68 ?_
              refine zr_if_eq 77 dX12_valleyLine_69 (by decide) (fun hc => ?_) (fun hc => ?_)
              · rw [if_pos hc] at hf
                exact zr_lv [1, 2, 3, 4, 0] rfl (hb44 () hf)
              · rw [if_neg hc] at hf
                refine zr_aload_n 1 dX12_valleyLine_72 rfl ?_
                replace hf := zb2_s hf
                obtain ⟨v47, m46, h45, hf⟩ := hf
                refine zr_callV (ci := 12) [] (cX12_fails_ok h45) zvs_X12_fails zl_817 zl_818 (fX12_fails_ck h45) rfl rfl zl_816 rfl (Nat.le_of_ble_eq_true rfl) (Nat.le_of_ble_eq_true rfl) (Nat.le_of_ble_eq_true rfl) (Nat.le_of_ble_eq_true rfl) dX12_valleyLine_73 rfl ?_
                replace hf := zb1_s hf
                obtain ⟨v48, hn49, hf⟩ := hf
                obtain ⟨hn49, rfl⟩ := zbz_s hn49
                cases hf
                exact zr_zret hn49 dX12_valleyLine_76
  clear hf
  have hf := hg
  clear hg
  have hb5 : ∀ (_ : Unit), fX12_valleyLine_b22 = some s3 → zz K cX12_valleyLine (6, RX12, some .boolean, 4, 0, 0, some (.int r), mo) 0 0 22 [(0, .ref x0), (1, .long x1), (3, .int x3), (4, .int v2)] [] μ := by
    intro _ hf
    unfold fX12_valleyLine_b22 at hf
    refine zr_iconst 1 dX12_valleyLine_22 (by decide) ?_
    refine zr_goto 27 dX12_valleyLine_23 (by decide) ?_
    cases hf
    exact zr_lv [0, 1, 2, 3] rfl hj4
  refine zr_if_eq 22 dX12_valleyLine_11 (by decide) (fun hc => ?_) (fun hc => ?_)
  · rw [if_pos hc] at hf
    exact zr_lv [1, 2, 3, 0] rfl (hb5 () hf)
  · rw [if_neg hc] at hf
    refine zr_lload_n 2 dX12_valleyLine_14 rfl ?_
    refine zr_ldc2 zl_841 dX12_valleyLine_15 ?_
    refine zr_lcmp dX12_valleyLine_18 ?_
    refine zr_if_ne 26 dX12_valleyLine_19 (by decide) (fun hc => ?_) (fun hc => ?_)
    · rw [if_neg hc] at hf
      refine zr_iconst 0 dX12_valleyLine_26 (by decide) ?_
      cases hf
      exact zr_lv [1, 2, 3, 0] rfl hj4
    · rw [if_pos hc] at hf
      exact zr_lv [1, 2, 3, 0] rfl (hb5 () hf)
theorem dX12_keep_0 : decode cX12_keep 0 = .ok (.aload_n 0, 1) := by decide +kernel
theorem dX12_keep_1 : decode cX12_keep 1 = .ok (.getfield 38, 3) := by decide +kernel
theorem dX12_keep_4 : decode cX12_keep 4 = .ok (.iload_n 1, 1) := by decide +kernel
theorem dX12_keep_5 : decode cX12_keep 5 = .ok (.iaload, 1) := by decide +kernel
theorem dX12_keep_6 : decode cX12_keep 6 = .ok (.istore 5, 2) := by decide +kernel
theorem dX12_keep_8 : decode cX12_keep 8 = .ok (.iload 5, 2) := by decide +kernel
theorem dX12_keep_10 : decode cX12_keep 10 = .ok (.iload 4, 2) := by decide +kernel
theorem dX12_keep_12 : decode cX12_keep 12 = .ok (.if_icmp .ne 4, 3) := by decide +kernel
theorem dX12_keep_15 : decode cX12_keep 15 = .ok (.return_, 1) := by decide +kernel
theorem dX12_keep_16 : decode cX12_keep 16 = .ok (.iconst 0, 1) := by decide +kernel
theorem dX12_keep_17 : decode cX12_keep 17 = .ok (.istore 6, 2) := by decide +kernel
theorem dX12_keep_19 : decode cX12_keep 19 = .ok (.iload 6, 2) := by decide +kernel
theorem dX12_keep_21 : decode cX12_keep 21 = .ok (.iload_n 3, 1) := by decide +kernel
theorem dX12_keep_22 : decode cX12_keep 22 = .ok (.if_icmp .ge 30, 3) := by decide +kernel
theorem dX12_keep_25 : decode cX12_keep 25 = .ok (.aload_n 0, 1) := by decide +kernel
theorem dX12_keep_26 : decode cX12_keep 26 = .ok (.getfield 38, 3) := by decide +kernel
theorem dX12_keep_29 : decode cX12_keep 29 = .ok (.iload_n 2, 1) := by decide +kernel
theorem dX12_keep_30 : decode cX12_keep 30 = .ok (.iload_n 3, 1) := by decide +kernel
theorem dX12_keep_31 : decode cX12_keep 31 = .ok (.iload 5, 2) := by decide +kernel
theorem dX12_keep_33 : decode cX12_keep 33 = .ok (.imul, 1) := by decide +kernel
theorem dX12_keep_34 : decode cX12_keep 34 = .ok (.iadd, 1) := by decide +kernel
theorem dX12_keep_35 : decode cX12_keep 35 = .ok (.iload 6, 2) := by decide +kernel
theorem dX12_keep_37 : decode cX12_keep 37 = .ok (.iadd, 1) := by decide +kernel
theorem dX12_keep_38 : decode cX12_keep 38 = .ok (.aload_n 0, 1) := by decide +kernel
theorem dX12_keep_39 : decode cX12_keep 39 = .ok (.getfield 41, 3) := by decide +kernel
theorem dX12_keep_42 : decode cX12_keep 42 = .ok (.iload 6, 2) := by decide +kernel
theorem dX12_keep_44 : decode cX12_keep 44 = .ok (.iaload, 1) := by decide +kernel
theorem dX12_keep_45 : decode cX12_keep 45 = .ok (.iastore, 1) := by decide +kernel
theorem dX12_keep_46 : decode cX12_keep 46 = .ok (.iinc 6 1, 3) := by decide +kernel
theorem dX12_keep_49 : decode cX12_keep 49 = .ok (.goto (-30), 3) := by decide +kernel
theorem dX12_keep_52 : decode cX12_keep 52 = .ok (.aload_n 0, 1) := by decide +kernel
theorem dX12_keep_53 : decode cX12_keep 53 = .ok (.getfield 38, 3) := by decide +kernel
theorem dX12_keep_56 : decode cX12_keep 56 = .ok (.iload_n 1, 1) := by decide +kernel
theorem dX12_keep_57 : decode cX12_keep 57 = .ok (.dup2, 1) := by decide +kernel
theorem dX12_keep_58 : decode cX12_keep 58 = .ok (.iaload, 1) := by decide +kernel
theorem dX12_keep_59 : decode cX12_keep 59 = .ok (.iconst 1, 1) := by decide +kernel
theorem dX12_keep_60 : decode cX12_keep 60 = .ok (.iadd, 1) := by decide +kernel
theorem dX12_keep_61 : decode cX12_keep 61 = .ok (.iastore, 1) := by decide +kernel
theorem dX12_keep_62 : decode cX12_keep 62 = .ok (.return_, 1) := by decide +kernel
def fX12_keep_l19 (x3 : Int32) (x0 : Nat) (x2 : Int32) (v3 : Int32) (F7 : Int32 → zM → Option (zM)) (x6_5 : Int32) (m6 : zM) : Option (zM) :=
  if x3 ≤ x6_5 then (
  some m6)
  else (
  zb1 (zm_gR m6 12 x0 19) fun v11 =>
  zb1 (zm_gR m6 12 x0 20) fun v13 =>
  zb1 (zm_aI m6 0 v13 x6_5) fun v15 =>
  zb1 (zm_sI m6 0 v11 ((x2 + (x3 * v3)) + x6_5) v15) fun m17 =>
  F7 (x6_5 + 1) m17)
def fX12_keep (μ : zM) (x0 : Nat) (x1 : Int32) (x2 : Int32) (x3 : Int32) (x4 : Int32) : Option (zM) := zgd (zm_ck μ 12 x0) <|
  zb1 (zm_gR μ 12 x0 19) fun v1 =>
  zb1 (zm_aI μ 0 v1 x1) fun v3 =>
  if v3 = x4 then (
  some μ)
  else (
  zb1 (zf2 (fX12_keep_l19 x3 x0 x2 v3) zfu 0 μ) fun m9 =>
  zb1 (zm_gR m9 12 x0 19) fun v20 =>
  zb1 (zm_aI m9 0 v20 x1) fun v22 =>
  zb1 (zm_sI m9 0 v20 x1 (v22 + 1)) fun m24 =>
  some m24)
theorem fX12_keep_ck {μ : zM} {x0 : Nat} {x1 : Int32} {x2 : Int32} {x3 : Int32} {x4 : Int32} {z : zM} (h : fX12_keep μ x0 x1 x2 x3 x4 = some z) : zm_ck μ 12 x0 = true := (zgd_s h).1
set_option maxHeartbeats 4000000 in
set_option maxRecDepth 100000 in
theorem cX12_keep_ok {μ : zM} {x0 : Nat} {x1 : Int32} {x2 : Int32} {x3 : Int32} {x4 : Int32} {mo : zM} (hf : fX12_keep μ x0 x1 x2 x3 x4 = some mo) : zC yX12_keep cX12_keep 7 (none) 0 0 0 [.ref x0, .int x1, .int x2, .int x3, .int x4] μ (none) mo := by
  replace hf := (zgd_s hf).2
  refine zC.of (by decide) (Nat.le_of_ble_eq_true rfl) (fun K hin => ?_)
  clear hin
  show zz K cX12_keep (7, RX12, none, 0, 0, 0, none, mo) 0 0 0 [(0, .ref x0), (1, .int x1), (2, .int x2), (3, .int x3), (4, .int x4)] [] μ
  refine zr_aload_n 0 dX12_keep_0 rfl ?_
  replace hf := zb1_s hf
  obtain ⟨v1, h2, hf⟩ := hf
  refine zr_get (zm_gR_g h2) zk12 (by decide) zl_762 dX12_keep_1 ?_
  refine zr_iload_n 1 dX12_keep_4 rfl ?_
  replace hf := zb1_s hf
  obtain ⟨v3, h4, hf⟩ := hf
  refine zr_iald h4 dX12_keep_5 ?_
  refine zr_istore [(5, .int v3), (0, .ref x0), (1, .int x1), (2, .int x2), (3, .int x3), (4, .int x4)] dX12_keep_6 (Nat.le_of_ble_eq_true rfl) rfl ?_
  refine zr_iload 0 dX12_keep_8 rfl ?_
  refine zr_iload 5 dX12_keep_10 rfl ?_
  refine zr_icmp_ne 16 dX12_keep_12 (by decide) (fun hc => ?_) (fun hc => ?_)
  · rw [if_neg hc] at hf
    refine zr_iconst 0 dX12_keep_16 (by decide) ?_
    refine zr_istore [(6, .int 0), (5, .int v3), (0, .ref x0), (1, .int x1), (2, .int x2), (3, .int x3), (4, .int x4)] dX12_keep_17 (Nat.le_of_ble_eq_true rfl) rfl ?_
    replace hf := zb1_s hf
    obtain ⟨m9, hg, hf⟩ := hf
    have hj10 : zz K cX12_keep (7, RX12, none, 0, 0, 0, none, mo) 0 0 52 [(0, .ref x0), (1, .int x1)] [] m9 := by
      refine zr_aload_n 0 dX12_keep_52 rfl ?_
      replace hf := zb1_s hf
      obtain ⟨v20, h21, hf⟩ := hf
      refine zr_get (zm_gR_g h21) zk12 (by decide) zl_762 dX12_keep_53 ?_
      refine zr_iload_n 1 dX12_keep_56 rfl ?_
      refine zr_dup2 dX12_keep_57 rfl rfl ?_
      replace hf := zb1_s hf
      obtain ⟨v22, h23, hf⟩ := hf
      refine zr_iald h23 dX12_keep_58 ?_
      refine zr_iconst 1 dX12_keep_59 (by decide) ?_
      refine zr_iadd dX12_keep_60 ?_
      replace hf := zb1_s hf
      obtain ⟨m24, h25, hf⟩ := hf
      refine zr_iast h25 dX12_keep_61 ?_
      cases hf
      exact zr_vret dX12_keep_62
    clear hf
    have hf := hg
    clear hg
    have hL19 : ∀ (n : Nat) (x6_5 : Int32) (m6 : zM), zf2 (fX12_keep_l19 x3 x0 x2 v3) n x6_5 m6 = some m9 → zz K cX12_keep (7, RX12, none, 0, 0, 0, none, mo) 0 0 19 [(0, .ref x0), (1, .int x1), (2, .int x2), (3, .int x3), (5, .int v3), (6, .int x6_5)] [] m6 := by
      intro n
      induction n with
      | zero => intro x6_5 m6 hf; cases hf
      | succ n ih8 =>
        intro x6_5 m6 hf
        replace hf := zf2_s hf
        generalize zf2 (fX12_keep_l19 x3 x0 x2 v3) n = F7 at hf ih8
        unfold fX12_keep_l19 at hf
        refine zr_iload 5 dX12_keep_19 rfl ?_
        refine zr_iload_n 3 dX12_keep_21 rfl ?_
        refine zr_icmp_ge 52 dX12_keep_22 (by decide) (fun hc => ?_) (fun hc => ?_)
        · rw [if_pos hc] at hf
          cases hf
          exact zr_lv [0, 1] rfl hj10
        · rw [if_neg hc] at hf
          refine zr_aload_n 0 dX12_keep_25 rfl ?_
          replace hf := zb1_s hf
          obtain ⟨v11, h12, hf⟩ := hf
          refine zr_get (zm_gR_g h12) zk12 (by decide) zl_762 dX12_keep_26 ?_
          refine zr_iload_n 2 dX12_keep_29 rfl ?_
          refine zr_iload_n 3 dX12_keep_30 rfl ?_
          refine zr_iload 4 dX12_keep_31 rfl ?_
          refine zr_imul dX12_keep_33 ?_
          refine zr_iadd dX12_keep_34 ?_
          refine zr_iload 5 dX12_keep_35 rfl ?_
          refine zr_iadd dX12_keep_37 ?_
          refine zr_aload_n 0 dX12_keep_38 rfl ?_
          replace hf := zb1_s hf
          obtain ⟨v13, h14, hf⟩ := hf
          refine zr_get (zm_gR_g h14) zk12 (by decide) zl_763 dX12_keep_39 ?_
          refine zr_iload 5 dX12_keep_42 rfl ?_
          replace hf := zb1_s hf
          obtain ⟨v15, h16, hf⟩ := hf
          refine zr_iald h16 dX12_keep_44 ?_
          replace hf := zb1_s hf
          obtain ⟨m17, h18, hf⟩ := hf
          refine zr_iast h18 dX12_keep_45 ?_
          refine zr_iinc (j := 5) (x6_5 + 1) [(6, .int (x6_5 + 1)), (0, .ref x0), (1, .int x1), (2, .int x2), (3, .int x3), (5, .int v3)] dX12_keep_46 rfl rfl (Nat.le_of_ble_eq_true rfl) rfl ?_
          refine zr_goto 19 dX12_keep_49 (by decide) ?_
          exact zr_lv [1, 2, 3, 4, 5, 0] rfl (ih8 (x6_5 + 1) m17 hf)
    exact zr_lv [2, 3, 4, 5, 1, 0] rfl (hL19 _ 0 μ hf)
  · rw [if_pos hc] at hf
    cases hf
    exact zr_vret dX12_keep_15
